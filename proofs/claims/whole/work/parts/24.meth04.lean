/-! METHODS, part 4 (laid by wip/whole/tools/gen.py) -/
-- PatchbayScript$Stock.gatherEach(II)V
def T_X8_gatherEach : List cRow := [(0, .iconst 0, 1, 0), (1, .istore_n 3, 2, 0), (2, .iload_n 3, 3, 0), (3, .aload_n 0, 4, 0), (4, .getfield 55, 7, 0), (7, .if_icmp .ge 65, 10, 72), (10, .aload_n 0, 11, 0), (11, .getfield 23, 14, 0), (14, .iload_n 3, 15, 0), (15, .aaload, 16, 0), (16, .iload_n 1, 17, 0), (17, .invokevirtual 100, 20, 0), (20, .istore 4, 22, 0), (22, .iload 4, 24, 0), (24, .ifCond .ne 4, 27, 28), (27, .return_, 28, 0), (28, .aload_n 0, 29, 0), (29, .getfield 33, 32, 0), (32, .aload_n 0, 33, 0), (33, .getfield 59, 36, 0), (36, .iconst 4, 37, 0), (37, .imul, 38, 0), (38, .iload_n 3, 39, 0), (39, .iadd, 40, 0), (40, .iload 4, 42, 0), (42, .iastore, 43, 0), (43, .aload_n 0, 44, 0), (44, .getfield 36, 47, 0), (47, .aload_n 0, 48, 0), (48, .getfield 59, 51, 0), (51, .iconst 4, 52, 0), (52, .imul, 53, 0), (53, .iload_n 3, 54, 0), (54, .iadd, 55, 0), (55, .aload_n 0, 56, 0), (56, .getfield 23, 59, 0), (59, .iload_n 3, 60, 0), (60, .aaload, 61, 0), (61, .iload_n 1, 62, 0), (62, .invokevirtual 103, 65, 0), (65, .iastore, 66, 0), (66, .iinc 3 1, 69, 0), (69, .goto (-67), 72, 2), (72, .aload_n 0, 73, 0), (73, .sipush 3600, 76, 0), (76, .iload_n 1, 77, 0), (77, .iadd, 78, 0), (78, .iload_n 2, 79, 0), (79, .invokevirtual 97, 82, 0), (82, .return_, 83, 0)]
theorem T_X8_gatherEach_ok : T_X8_gatherEach.all (rowB cX8_gatherEach) = true := by decide +kernel
def th_X8_gatherEach : List (Nat × Nat) := []
def sw_X8_gatherEach : List (Nat × (List (Int32 × Nat) × Nat)) := []
theorem sw_X8_gatherEach_ok : ∀ q ∈ sw_X8_gatherEach, swS cX8_gatherEach q := fun _ h => absurd h List.not_mem_nil
def na_X8_gatherEach : List (Nat × Nat) := [(301, 2), (310, 2), (292, 3)]
def ca_X8_gatherEach {R' : Type} (F : Nat) : List (Nat × cFn R') := [(301, n_X1_placesOfEach (f_X1_placesOfEach F)), (310, n_X1_sizeOfEach (f_X1_sizeOfEach F)), (292, n_X8_addAtom (f_X8_addAtom F))]
theorem ca_X8_gatherEach_ok {R' : Type} {q : cL} (hst : q.1.stackTraces = false) {D : Nat} (hD : 2 ≤ D) (F : Nat) : ∀ x ∈ (ca_X8_gatherEach (R' := R') F), 1 ≤ D ∧ ceS q RX8 (D - 1) x.1 x.2 := List.forall_mem_cons.mpr ⟨⟨by omega, n_X1_placesOfEach_ok (k := 100) (lw_good_of (tb_ok 855 (by decide +kernel)) rfl) (fun a0 a1 M r h => c_X1_placesOfEach hst (by omega) F a0 a1 M r h)⟩, List.forall_mem_cons.mpr ⟨⟨by omega, n_X1_sizeOfEach_ok (k := 103) (lw_good_of (tb_ok 859 (by decide +kernel)) rfl) (fun a0 a1 M r h => c_X1_sizeOfEach hst (by omega) F a0 a1 M r h)⟩, List.forall_mem_cons.mpr ⟨⟨by omega, n_X8_addAtom_ok (k := 97) (lw_good_of (tb_ok 832 (by decide +kernel)) rfl) (fun a0 a1 a2 M r h => c_X8_addAtom hst (by omega) F a0 a1 a2 M r h)⟩, fun _ h => absurd h List.not_mem_nil⟩⟩⟩
def kd_X8_gatherEach_2 (g : Nat → Int32 → Int32 → Int32 → cM → Option (cM)) : cKf (cM) := fun vs st M => (lR vs 0).bind fun x0 => (lI vs 1).bind fun x1 => (lI vs 2).bind fun x2 => (lI vs 3).bind fun x3 => match st with
  | [] => g x0 x1 x2 x3 M
  | _ => none
theorem kf_X8_gatherEach_2 {X : cCtx} {o : cO} {r : cM} {g : Nat → Int32 → Int32 → Int32 → cM → Option (cM)} (hg : ∀ x0 x1 x2 x3 M, g x0 x1 x2 x3 M = some r → WX X 5 o 2 [some (.ref x0), some (.int x1), some (.int x2), some (.int x3), none] [] M) : ∀ vs st M, kd_X8_gatherEach_2 g vs st M = some r → WX X 5 o 2 vs st M := by
  intro vs st M h
  unfold kd_X8_gatherEach_2 at h
  obtain ⟨x0, h0, h⟩ := Option.bind_eq_some_iff.mp h
  obtain ⟨x1, h1, h⟩ := Option.bind_eq_some_iff.mp h
  obtain ⟨x2, h2, h⟩ := Option.bind_eq_some_iff.mp h
  obtain ⟨x3, h3, h⟩ := Option.bind_eq_some_iff.mp h
  split at h
  · exact WX_weak (hg _ _ _ _ _ h) rfl ⟨lR_of h0, lI_of h1, lI_of h2, lI_of h3, trivial⟩
  · cases h
theorem e_X8_gatherEach_2 (F : Nat) (t2 : Nat → Int32 → Int32 → Int32 → cM → Option (cM)) (x0 : Nat) (x1 : Int32) (x2 : Int32) (x3 : Int32) (M : cM) : b_X8_gatherEach_2 F t2 x0 x1 x2 x3 M = run T_X8_gatherEach P_RX8 false 5 (naL na_X8_gatherEach) (caL (ca_X8_gatherEach F)) (lkN th_X8_gatherEach) (lkN sw_X8_gatherEach) krV kxN (spL [2]) (KL [(2, kd_X8_gatherEach_2 t2)]) 53 2 [some (.ref x0), some (.int x1), some (.int x2), some (.int x3), none] [] M := rfl
theorem ok_X8_gatherEach_2 {X : cCtx} {D : Nat} {r : cM} (G : FX X 5 (eV r) cX8_gatherEach RX8 5 D) {F : Nat} (hca : ∀ x ∈ (ca_X8_gatherEach (R' := cM) F), 1 ≤ D ∧ ceS X.1 RX8 (D - 1) x.1 x.2) (n : Nat) : ∀ x0 x1 x2 x3 M, f_X8_gatherEach_2 F n x0 x1 x2 x3 M = some r → WX X 5 (eV r) 2 [some (.ref x0), some (.int x1), some (.int x2), some (.int x3), none] [] M := by
  induction n with
  | zero => intro x0 x1 x2 x3 M h; cases h
  | succ n ih =>
    intro x0 x1 x2 x3 M h
    exact seg_ok G P_RX8_ok T_X8_gatherEach_ok hca (fun _ h => absurd h List.not_mem_nil) sw_X8_gatherEach_ok krV_ok (kxN_ok (f := eV)) (List.forall_mem_cons.mpr ⟨kf_X8_gatherEach_2 (ih), fun _ h => absurd h List.not_mem_nil⟩) ((e_X8_gatherEach_2 F (f_X8_gatherEach_2 F n) x0 x1 x2 x3 M).symm.trans h)
theorem e_X8_gatherEach_0 (F : Nat) (t2 : Nat → Int32 → Int32 → Int32 → cM → Option (cM)) (x0 : Nat) (x1 : Int32) (x2 : Int32) (M : cM) : b_X8_gatherEach_0 F t2 x0 x1 x2 M = run T_X8_gatherEach P_RX8 false 5 (naL na_X8_gatherEach) (caL (ca_X8_gatherEach F)) (lkN th_X8_gatherEach) (lkN sw_X8_gatherEach) krV kxN (spL [2]) (KL [(2, kd_X8_gatherEach_2 t2)]) 53 0 [some (.ref x0), some (.int x1), some (.int x2), none, none] [] M := rfl
theorem ok_X8_gatherEach_0 {X : cCtx} {D : Nat} {r : cM} (G : FX X 5 (eV r) cX8_gatherEach RX8 5 D) {F : Nat} (hca : ∀ x ∈ (ca_X8_gatherEach (R' := cM) F), 1 ≤ D ∧ ceS X.1 RX8 (D - 1) x.1 x.2) : ∀ x0 x1 x2 M, f_X8_gatherEach_0 F x0 x1 x2 M = some r → WX X 5 (eV r) 0 [some (.ref x0), some (.int x1), some (.int x2), none, none] [] M := by
  intro x0 x1 x2 M h
  exact seg_ok G P_RX8_ok T_X8_gatherEach_ok hca (fun _ h => absurd h List.not_mem_nil) sw_X8_gatherEach_ok krV_ok (kxN_ok (f := eV)) (List.forall_mem_cons.mpr ⟨kf_X8_gatherEach_2 (ok_X8_gatherEach_2 G hca F), fun _ h => absurd h List.not_mem_nil⟩) ((e_X8_gatherEach_0 F (f_X8_gatherEach_2 F F) x0 x1 x2 M).symm.trans h)
theorem c_X8_gatherEach {q : cL} (hst : q.1.stackTraces = false) {D : Nat} (hD : 2 ≤ D) (F : Nat) (a0 : Nat) (a1 : Int32) (a2 : Int32) (M : cM) (r : cM) (h : f_X8_gatherEach F a0 a1 a2 M = some r) : CTx q yX8_gatherEach (.code yX8_gatherEach cX8_gatherEach 5 none) D [.ref a0, .int a1, .int a2] M (eV r) ∧ ∃ fs, M[a0]? = some (.inr (6, fs)) := by
  unfold f_X8_gatherEach at h
  split at h
  · next hi => exact ⟨CTx_of (own := RX8) (rk := 5) hst (by decide +kernel) rfl (rfl) (Nat.le_of_ble_eq_true rfl) (fun X hX G => by subst hX; exact ok_X8_gatherEach_0 G (ca_X8_gatherEach_ok hst hD F) a0 a1 a2 M h), isC_of hi⟩
  · cases h
def n_X8_gatherEach {R' : Type} (f : Nat → Int32 → Int32 → cM → Option (cM)) : cFn R' := fun as M κ κx => match as with
  | [.ref a0, .int a1, .int a2] => (f a0 a1 a2 M).bind fun p => κ none p
  | _ => none
theorem w_X8_gatherEach : ∀ w ∈ [Cond.instanceMethod yX8_gatherEach, .selects yX8_gatherEach.cls yX8_gatherEach yX8_gatherEach, .initialized yX8_gatherEach.cls, .code yX8_gatherEach cX8_gatherEach 5 none], w ∈ lw_good := List.forall_mem_cons.mpr ⟨lw_good_of (tb_ok 853 (by decide +kernel)) rfl, List.forall_mem_cons.mpr ⟨lw_good_of (ts_ok 12 (by decide +kernel)) rfl, List.forall_mem_cons.mpr ⟨lw_good_of (tb_ok 9 (by decide +kernel)) rfl, List.forall_mem_cons.mpr ⟨lw_good_of (tb_ok 854 (by decide +kernel)) rfl, fun _ h => absurd h List.not_mem_nil⟩⟩⟩⟩
theorem n_X8_gatherEach_ok {R' : Type} {q : cL} {own : String} {d k : Nat} {f : Nat → Int32 → Int32 → cM → Option (cM)} (hl : Cond.methodLink own k yX8_gatherEach ∈ lw_good) (hf : ∀ a0 a1 a2 M r, f a0 a1 a2 M = some r → CTx q yX8_gatherEach (.code yX8_gatherEach cX8_gatherEach 5 none) d [.ref a0, .int a1, .int a2] M (eV r) ∧ ∃ fs, M[a0]? = some (.inr (6, fs))) : ceS q own d (3 * k + 1) (n_X8_gatherEach (R' := R') f) := by
  intro as M κ κx r h
  unfold n_X8_gatherEach at h
  split at h
  · obtain ⟨p, h1, h2⟩ := Option.bind_eq_some_iff.mp h
    obtain ⟨hc, fs, ha⟩ := hf _ _ _ _ _ h1
    exact ⟨eV p, fun _ => h2, fun hne => absurd rfl hne, Or.inr (Or.inl ⟨yX8_gatherEach, cX8_gatherEach, 5, none, k, 2, _, _, 6, TX8, 14, fs, rfl, rfl, hc, ha, rfl, List.forall_mem_cons.mpr ⟨hl, w_X8_gatherEach⟩, ⟨rfl, by decide +kernel, by decide +kernel, by decide +kernel⟩, rfl, by decide⟩)⟩
  · cases h
-- PatchbayScript$Stock.gatherShared()V
def T_X8_gatherShared : List cRow := [(0, .iconst 0, 1, 0), (1, .istore_n 1, 2, 0), (2, .iload_n 1, 3, 0), (3, .aload_n 0, 4, 0), (4, .getfield 55, 7, 0), (7, .if_icmp .ge 94, 10, 101), (10, .aload_n 0, 11, 0), (11, .getfield 23, 14, 0), (14, .iload_n 1, 15, 0), (15, .aaload, 16, 0), (16, .getfield 115, 19, 0), (19, .astore_n 2, 20, 0), (20, .iconst 0, 21, 0), (21, .istore_n 3, 22, 0), (22, .iload_n 3, 23, 0), (23, .aload_n 2, 24, 0), (24, .getfield 119, 27, 0), (27, .if_icmp .gt 68, 30, 95), (30, .iconst 4, 31, 0), (31, .aload_n 2, 32, 0), (32, .getfield 119, 35, 0), (35, .iload_n 3, 36, 0), (36, .isub, 37, 0), (37, .invokestatic 106, 40, 0), (40, .istore 4, 42, 0), (42, .iconst 0, 43, 0), (43, .istore 5, 45, 0), (45, .iload 5, 47, 0), (47, .aload_n 0, 48, 0), (48, .getfield 55, 51, 0), (51, .if_icmp .ge 25, 54, 76), (54, .aload_n 0, 55, 0), (55, .getfield 23, 58, 0), (58, .iload 5, 60, 0), (60, .aaload, 61, 0), (61, .aload_n 2, 62, 0), (62, .iload_n 3, 63, 0), (63, .iload 4, 65, 0), (65, .invokevirtual 122, 68, 0), (68, .istore 4, 70, 0), (70, .iinc 5 1, 73, 0), (73, .goto (-28), 76, 45), (76, .aload_n 0, 77, 0), (77, .getfield 39, 80, 0), (80, .iload_n 1, 81, 0), (81, .bipush 21, 83, 0), (83, .imul, 84, 0), (84, .iload_n 3, 85, 0), (85, .iadd, 86, 0), (86, .iload 4, 88, 0), (88, .iastore, 89, 0), (89, .iinc 3 1, 92, 0), (92, .goto (-70), 95, 22), (95, .iinc 1 1, 98, 0), (98, .goto (-96), 101, 2), (101, .return_, 102, 0)]
theorem T_X8_gatherShared_ok : T_X8_gatherShared.all (rowB cX8_gatherShared) = true := by decide +kernel
def th_X8_gatherShared : List (Nat × Nat) := []
def sw_X8_gatherShared : List (Nat × (List (Int32 × Nat) × Nat)) := []
theorem sw_X8_gatherShared_ok : ∀ q ∈ sw_X8_gatherShared, swS cX8_gatherShared q := fun _ h => absurd h List.not_mem_nil
def na_X8_gatherShared : List (Nat × Nat) := [(318, 2), (367, 4)]
def ca_X8_gatherShared {R' : Type} (F : Nat) : List (Nat × cFn R') := [(318, n_min), (367, n_X1_sharedFrom (f_X1_sharedFrom F))]
theorem ca_X8_gatherShared_ok {R' : Type} {q : cL} (hst : q.1.stackTraces = false) {D : Nat} (hD : 2 ≤ D) (F : Nat) : ∀ x ∈ (ca_X8_gatherShared (R' := R') F), 1 ≤ D ∧ ceS q RX8 (D - 1) x.1 x.2 := List.forall_mem_cons.mpr ⟨⟨by omega, n_min_ok (k := 106) (lw_good_of (tb_ok 836 (by decide +kernel)) rfl)⟩, List.forall_mem_cons.mpr ⟨⟨by omega, n_X1_sharedFrom_ok (k := 122) (lw_good_of (tb_ok 867 (by decide +kernel)) rfl) (fun a0 a1 a2 a3 M r h => c_X1_sharedFrom hst (by omega) F a0 a1 a2 a3 M r h)⟩, fun _ h => absurd h List.not_mem_nil⟩⟩
def kd_X8_gatherShared_2 (g : Nat → Int32 → cM → Option (cM)) : cKf (cM) := fun vs st M => (lR vs 0).bind fun x0 => (lI vs 1).bind fun x1 => match st with
  | [] => g x0 x1 M
  | _ => none
theorem kf_X8_gatherShared_2 {X : cCtx} {o : cO} {r : cM} {g : Nat → Int32 → cM → Option (cM)} (hg : ∀ x0 x1 M, g x0 x1 M = some r → WX X 6 o 2 [some (.ref x0), some (.int x1), none, none, none, none] [] M) : ∀ vs st M, kd_X8_gatherShared_2 g vs st M = some r → WX X 6 o 2 vs st M := by
  intro vs st M h
  unfold kd_X8_gatherShared_2 at h
  obtain ⟨x0, h0, h⟩ := Option.bind_eq_some_iff.mp h
  obtain ⟨x1, h1, h⟩ := Option.bind_eq_some_iff.mp h
  split at h
  · exact WX_weak (hg _ _ _ h) rfl ⟨lR_of h0, lI_of h1, trivial⟩
  · cases h
def kd_X8_gatherShared_22 (g : Nat → Int32 → Nat → Int32 → cM → Option (cM)) : cKf (cM) := fun vs st M => (lR vs 0).bind fun x0 => (lI vs 1).bind fun x1 => (lR vs 2).bind fun x2 => (lI vs 3).bind fun x3 => match st with
  | [] => g x0 x1 x2 x3 M
  | _ => none
theorem kf_X8_gatherShared_22 {X : cCtx} {o : cO} {r : cM} {g : Nat → Int32 → Nat → Int32 → cM → Option (cM)} (hg : ∀ x0 x1 x2 x3 M, g x0 x1 x2 x3 M = some r → WX X 6 o 22 [some (.ref x0), some (.int x1), some (.ref x2), some (.int x3), none, none] [] M) : ∀ vs st M, kd_X8_gatherShared_22 g vs st M = some r → WX X 6 o 22 vs st M := by
  intro vs st M h
  unfold kd_X8_gatherShared_22 at h
  obtain ⟨x0, h0, h⟩ := Option.bind_eq_some_iff.mp h
  obtain ⟨x1, h1, h⟩ := Option.bind_eq_some_iff.mp h
  obtain ⟨x2, h2, h⟩ := Option.bind_eq_some_iff.mp h
  obtain ⟨x3, h3, h⟩ := Option.bind_eq_some_iff.mp h
  split at h
  · exact WX_weak (hg _ _ _ _ _ h) rfl ⟨lR_of h0, lI_of h1, lR_of h2, lI_of h3, trivial⟩
  · cases h
def kd_X8_gatherShared_45 (g : Nat → Int32 → Nat → Int32 → Int32 → Int32 → cM → Option (cM)) : cKf (cM) := fun vs st M => (lR vs 0).bind fun x0 => (lI vs 1).bind fun x1 => (lR vs 2).bind fun x2 => (lI vs 3).bind fun x3 => (lI vs 4).bind fun x4 => (lI vs 5).bind fun x5 => match st with
  | [] => g x0 x1 x2 x3 x4 x5 M
  | _ => none
theorem kf_X8_gatherShared_45 {X : cCtx} {o : cO} {r : cM} {g : Nat → Int32 → Nat → Int32 → Int32 → Int32 → cM → Option (cM)} (hg : ∀ x0 x1 x2 x3 x4 x5 M, g x0 x1 x2 x3 x4 x5 M = some r → WX X 6 o 45 [some (.ref x0), some (.int x1), some (.ref x2), some (.int x3), some (.int x4), some (.int x5)] [] M) : ∀ vs st M, kd_X8_gatherShared_45 g vs st M = some r → WX X 6 o 45 vs st M := by
  intro vs st M h
  unfold kd_X8_gatherShared_45 at h
  obtain ⟨x0, h0, h⟩ := Option.bind_eq_some_iff.mp h
  obtain ⟨x1, h1, h⟩ := Option.bind_eq_some_iff.mp h
  obtain ⟨x2, h2, h⟩ := Option.bind_eq_some_iff.mp h
  obtain ⟨x3, h3, h⟩ := Option.bind_eq_some_iff.mp h
  obtain ⟨x4, h4, h⟩ := Option.bind_eq_some_iff.mp h
  obtain ⟨x5, h5, h⟩ := Option.bind_eq_some_iff.mp h
  split at h
  · exact WX_weak (hg _ _ _ _ _ _ _ h) rfl ⟨lR_of h0, lI_of h1, lR_of h2, lI_of h3, lI_of h4, lI_of h5, trivial⟩
  · cases h
theorem e_X8_gatherShared_45 (F : Nat) (t22 : Nat → Int32 → Nat → Int32 → cM → Option (cM)) (t45 : Nat → Int32 → Nat → Int32 → Int32 → Int32 → cM → Option (cM)) (x0 : Nat) (x1 : Int32) (x2 : Nat) (x3 : Int32) (x4 : Int32) (x5 : Int32) (M : cM) : b_X8_gatherShared_45 F t22 t45 x0 x1 x2 x3 x4 x5 M = run T_X8_gatherShared P_RX8 false 5 (naL na_X8_gatherShared) (caL (ca_X8_gatherShared F)) (lkN th_X8_gatherShared) (lkN sw_X8_gatherShared) krV kxN (spL [22, 45]) (KL [(22, kd_X8_gatherShared_22 t22), (45, kd_X8_gatherShared_45 t45)]) 59 45 [some (.ref x0), some (.int x1), some (.ref x2), some (.int x3), some (.int x4), some (.int x5)] [] M := rfl
theorem ok_X8_gatherShared_45 {X : cCtx} {D : Nat} {r : cM} (G : FX X 6 (eV r) cX8_gatherShared RX8 5 D) {F : Nat} (hca : ∀ x ∈ (ca_X8_gatherShared (R' := cM) F), 1 ≤ D ∧ ceS X.1 RX8 (D - 1) x.1 x.2) (k2 : Nat → Int32 → cM → Option (cM)) (k22 : Nat → Int32 → Nat → Int32 → cM → Option (cM)) (hk2 : ∀ x0 x1 M, k2 x0 x1 M = some r → WX X 6 (eV r) 2 [some (.ref x0), some (.int x1), none, none, none, none] [] M) (hk22 : ∀ x0 x1 x2 x3 M, k22 x0 x1 x2 x3 M = some r → WX X 6 (eV r) 22 [some (.ref x0), some (.int x1), some (.ref x2), some (.int x3), none, none] [] M) (n : Nat) : ∀ x0 x1 x2 x3 x4 x5 M, f_X8_gatherShared_45 F k2 k22 n x0 x1 x2 x3 x4 x5 M = some r → WX X 6 (eV r) 45 [some (.ref x0), some (.int x1), some (.ref x2), some (.int x3), some (.int x4), some (.int x5)] [] M := by
  induction n with
  | zero => intro x0 x1 x2 x3 x4 x5 M h; cases h
  | succ n ih =>
    intro x0 x1 x2 x3 x4 x5 M h
    exact seg_ok G P_RX8_ok T_X8_gatherShared_ok hca (fun _ h => absurd h List.not_mem_nil) sw_X8_gatherShared_ok krV_ok (kxN_ok (f := eV)) (List.forall_mem_cons.mpr ⟨kf_X8_gatherShared_22 (hk22), List.forall_mem_cons.mpr ⟨kf_X8_gatherShared_45 (ih), fun _ h => absurd h List.not_mem_nil⟩⟩) ((e_X8_gatherShared_45 F (k22) (f_X8_gatherShared_45 F k2 k22 n) x0 x1 x2 x3 x4 x5 M).symm.trans h)
theorem e_X8_gatherShared_22 (F : Nat) (t2 : Nat → Int32 → cM → Option (cM)) (t45 : Nat → Int32 → Nat → Int32 → Int32 → Int32 → cM → Option (cM)) (x0 : Nat) (x1 : Int32) (x2 : Nat) (x3 : Int32) (M : cM) : b_X8_gatherShared_22 F t2 t45 x0 x1 x2 x3 M = run T_X8_gatherShared P_RX8 false 5 (naL na_X8_gatherShared) (caL (ca_X8_gatherShared F)) (lkN th_X8_gatherShared) (lkN sw_X8_gatherShared) krV kxN (spL [2, 45]) (KL [(2, kd_X8_gatherShared_2 t2), (45, kd_X8_gatherShared_45 t45)]) 59 22 [some (.ref x0), some (.int x1), some (.ref x2), some (.int x3), none, none] [] M := rfl
theorem ok_X8_gatherShared_22 {X : cCtx} {D : Nat} {r : cM} (G : FX X 6 (eV r) cX8_gatherShared RX8 5 D) {F : Nat} (hca : ∀ x ∈ (ca_X8_gatherShared (R' := cM) F), 1 ≤ D ∧ ceS X.1 RX8 (D - 1) x.1 x.2) (k2 : Nat → Int32 → cM → Option (cM)) (hk2 : ∀ x0 x1 M, k2 x0 x1 M = some r → WX X 6 (eV r) 2 [some (.ref x0), some (.int x1), none, none, none, none] [] M) (n : Nat) : ∀ x0 x1 x2 x3 M, f_X8_gatherShared_22 F k2 n x0 x1 x2 x3 M = some r → WX X 6 (eV r) 22 [some (.ref x0), some (.int x1), some (.ref x2), some (.int x3), none, none] [] M := by
  induction n with
  | zero => intro x0 x1 x2 x3 M h; cases h
  | succ n ih =>
    intro x0 x1 x2 x3 M h
    exact seg_ok G P_RX8_ok T_X8_gatherShared_ok hca (fun _ h => absurd h List.not_mem_nil) sw_X8_gatherShared_ok krV_ok (kxN_ok (f := eV)) (List.forall_mem_cons.mpr ⟨kf_X8_gatherShared_2 (hk2), List.forall_mem_cons.mpr ⟨kf_X8_gatherShared_45 (ok_X8_gatherShared_45 G hca k2 (f_X8_gatherShared_22 F k2 n) hk2 ih F), fun _ h => absurd h List.not_mem_nil⟩⟩) ((e_X8_gatherShared_22 F (k2) (f_X8_gatherShared_45 F k2 (f_X8_gatherShared_22 F k2 n) F) x0 x1 x2 x3 M).symm.trans h)
theorem e_X8_gatherShared_2 (F : Nat) (t22 : Nat → Int32 → Nat → Int32 → cM → Option (cM)) (x0 : Nat) (x1 : Int32) (M : cM) : b_X8_gatherShared_2 F t22 x0 x1 M = run T_X8_gatherShared P_RX8 false 5 (naL na_X8_gatherShared) (caL (ca_X8_gatherShared F)) (lkN th_X8_gatherShared) (lkN sw_X8_gatherShared) krV kxN (spL [22]) (KL [(22, kd_X8_gatherShared_22 t22)]) 59 2 [some (.ref x0), some (.int x1), none, none, none, none] [] M := rfl
theorem ok_X8_gatherShared_2 {X : cCtx} {D : Nat} {r : cM} (G : FX X 6 (eV r) cX8_gatherShared RX8 5 D) {F : Nat} (hca : ∀ x ∈ (ca_X8_gatherShared (R' := cM) F), 1 ≤ D ∧ ceS X.1 RX8 (D - 1) x.1 x.2) (n : Nat) : ∀ x0 x1 M, f_X8_gatherShared_2 F n x0 x1 M = some r → WX X 6 (eV r) 2 [some (.ref x0), some (.int x1), none, none, none, none] [] M := by
  induction n with
  | zero => intro x0 x1 M h; cases h
  | succ n ih =>
    intro x0 x1 M h
    exact seg_ok G P_RX8_ok T_X8_gatherShared_ok hca (fun _ h => absurd h List.not_mem_nil) sw_X8_gatherShared_ok krV_ok (kxN_ok (f := eV)) (List.forall_mem_cons.mpr ⟨kf_X8_gatherShared_22 (ok_X8_gatherShared_22 G hca (f_X8_gatherShared_2 F n) ih F), fun _ h => absurd h List.not_mem_nil⟩) ((e_X8_gatherShared_2 F (f_X8_gatherShared_22 F (f_X8_gatherShared_2 F n) F) x0 x1 M).symm.trans h)
theorem e_X8_gatherShared_0 (F : Nat) (t2 : Nat → Int32 → cM → Option (cM)) (x0 : Nat) (M : cM) : b_X8_gatherShared_0 F t2 x0 M = run T_X8_gatherShared P_RX8 false 5 (naL na_X8_gatherShared) (caL (ca_X8_gatherShared F)) (lkN th_X8_gatherShared) (lkN sw_X8_gatherShared) krV kxN (spL [2]) (KL [(2, kd_X8_gatherShared_2 t2)]) 59 0 [some (.ref x0), none, none, none, none, none] [] M := rfl
theorem ok_X8_gatherShared_0 {X : cCtx} {D : Nat} {r : cM} (G : FX X 6 (eV r) cX8_gatherShared RX8 5 D) {F : Nat} (hca : ∀ x ∈ (ca_X8_gatherShared (R' := cM) F), 1 ≤ D ∧ ceS X.1 RX8 (D - 1) x.1 x.2) : ∀ x0 M, f_X8_gatherShared_0 F x0 M = some r → WX X 6 (eV r) 0 [some (.ref x0), none, none, none, none, none] [] M := by
  intro x0 M h
  exact seg_ok G P_RX8_ok T_X8_gatherShared_ok hca (fun _ h => absurd h List.not_mem_nil) sw_X8_gatherShared_ok krV_ok (kxN_ok (f := eV)) (List.forall_mem_cons.mpr ⟨kf_X8_gatherShared_2 (ok_X8_gatherShared_2 G hca F), fun _ h => absurd h List.not_mem_nil⟩) ((e_X8_gatherShared_0 F (f_X8_gatherShared_2 F F) x0 M).symm.trans h)
theorem c_X8_gatherShared {q : cL} (hst : q.1.stackTraces = false) {D : Nat} (hD : 2 ≤ D) (F : Nat) (a0 : Nat) (M : cM) (r : cM) (h : f_X8_gatherShared F a0 M = some r) : CTx q yX8_gatherShared (.code yX8_gatherShared cX8_gatherShared 6 none) D [.ref a0] M (eV r) ∧ ∃ fs, M[a0]? = some (.inr (6, fs)) := by
  unfold f_X8_gatherShared at h
  split at h
  · next hi => exact ⟨CTx_of (own := RX8) (rk := 5) hst (by decide +kernel) rfl (rfl) (Nat.le_of_ble_eq_true rfl) (fun X hX G => by subst hX; exact ok_X8_gatherShared_0 G (ca_X8_gatherShared_ok hst hD F) a0 M h), isC_of hi⟩
  · cases h
def n_X8_gatherShared {R' : Type} (f : Nat → cM → Option (cM)) : cFn R' := fun as M κ κx => match as with
  | [.ref a0] => (f a0 M).bind fun p => κ none p
  | _ => none
theorem w_X8_gatherShared : ∀ w ∈ [Cond.instanceMethod yX8_gatherShared, .selects yX8_gatherShared.cls yX8_gatherShared yX8_gatherShared, .initialized yX8_gatherShared.cls, .code yX8_gatherShared cX8_gatherShared 6 none], w ∈ lw_good := List.forall_mem_cons.mpr ⟨lw_good_of (tb_ok 865 (by decide +kernel)) rfl, List.forall_mem_cons.mpr ⟨lw_good_of (ts_ok 13 (by decide +kernel)) rfl, List.forall_mem_cons.mpr ⟨lw_good_of (tb_ok 9 (by decide +kernel)) rfl, List.forall_mem_cons.mpr ⟨lw_good_of (tb_ok 866 (by decide +kernel)) rfl, fun _ h => absurd h List.not_mem_nil⟩⟩⟩⟩
theorem n_X8_gatherShared_ok {R' : Type} {q : cL} {own : String} {d k : Nat} {f : Nat → cM → Option (cM)} (hl : Cond.methodLink own k yX8_gatherShared ∈ lw_good) (hf : ∀ a0 M r, f a0 M = some r → CTx q yX8_gatherShared (.code yX8_gatherShared cX8_gatherShared 6 none) d [.ref a0] M (eV r) ∧ ∃ fs, M[a0]? = some (.inr (6, fs))) : ceS q own d (3 * k + 1) (n_X8_gatherShared (R' := R') f) := by
  intro as M κ κx r h
  unfold n_X8_gatherShared at h
  split at h
  · obtain ⟨p, h1, h2⟩ := Option.bind_eq_some_iff.mp h
    obtain ⟨hc, fs, ha⟩ := hf _ _ _ h1
    exact ⟨eV p, fun _ => h2, fun hne => absurd rfl hne, Or.inr (Or.inl ⟨yX8_gatherShared, cX8_gatherShared, 6, none, k, 0, _, _, 6, TX8, 14, fs, rfl, rfl, hc, ha, rfl, List.forall_mem_cons.mpr ⟨hl, w_X8_gatherShared⟩, ⟨rfl, by decide +kernel, by decide +kernel, by decide +kernel⟩, rfl, by decide⟩)⟩
  · cases h
-- PatchbayScript$Stock.gather(I)V
def T_X8_gather : List cRow := [(0, .aload_n 0, 1, 0), (1, .iconst 0, 2, 0), (2, .putfield 55, 5, 0), (5, .iconst 0, 6, 0), (6, .istore_n 2, 7, 0), (7, .iload_n 2, 8, 0), (8, .iconst 4, 9, 0), (9, .if_icmp .ge 42, 12, 51), (12, .iload_n 1, 13, 0), (13, .iload_n 2, 14, 0), (14, .ishr, 15, 0), (15, .iconst 1, 16, 0), (16, .iand, 17, 0), (17, .ifCond .eq 28, 20, 45), (20, .aload_n 0, 21, 0), (21, .getfield 23, 24, 0), (24, .aload_n 0, 25, 0), (25, .getfield 55, 28, 0), (28, .aload_n 0, 29, 0), (29, .getfield 19, 32, 0), (32, .iload_n 2, 33, 0), (33, .aaload, 34, 0), (34, .aastore, 35, 0), (35, .aload_n 0, 36, 0), (36, .dup, 37, 0), (37, .getfield 55, 40, 0), (40, .iconst 1, 41, 0), (41, .iadd, 42, 0), (42, .putfield 55, 45, 0), (45, .iinc 2 1, 48, 0), (48, .goto (-41), 51, 7), (51, .aload_n 0, 52, 0), (52, .iconst 0, 53, 0), (53, .putfield 59, 56, 0), (56, .aload_n 0, 57, 0), (57, .iconst 0, 58, 0), (58, .putfield 62, 61, 0), (61, .iconst 0, 62, 0), (62, .istore_n 2, 63, 0), (63, .iload_n 2, 64, 0), (64, .bipush 21, 66, 0), (66, .if_icmp .ge 16, 69, 82), (69, .aload_n 0, 70, 0), (70, .getfield 48, 73, 0), (73, .iload_n 2, 74, 0), (74, .iconst (-1), 75, 0), (75, .iastore, 76, 0), (76, .iinc 2 1, 79, 0), (79, .goto (-16), 82, 63), (82, .iconst 0, 83, 0), (83, .istore_n 2, 84, 0), (84, .iload_n 2, 85, 0), (85, .bipush 30, 87, 0), (87, .if_icmp .ge 29, 90, 116), (90, .iconst 0, 91, 0), (91, .istore_n 3, 92, 0), (92, .iload_n 3, 93, 0), (93, .bipush 30, 95, 0), (95, .if_icmp .ge 15, 98, 110), (98, .aload_n 0, 99, 0), (99, .iload_n 2, 100, 0), (100, .iload_n 3, 101, 0), (101, .invokevirtual 65, 104, 0), (104, .iinc 3 1, 107, 0), (107, .goto (-15), 110, 92), (110, .iinc 2 1, 113, 0), (113, .goto (-29), 116, 84), (116, .iconst 0, 117, 0), (117, .istore_n 2, 118, 0), (118, .iload_n 2, 119, 0), (119, .bipush 72, 121, 0), (121, .if_icmp .ge 32, 124, 153), (124, .aload_n 0, 125, 0), (125, .getfield 59, 128, 0), (128, .sipush 1812, 131, 0), (131, .if_icmp .ge 22, 134, 153), (134, .aload_n 0, 135, 0), (135, .iload_n 2, 136, 0), (136, .sipush 3600, 139, 0), (139, .iload_n 2, 140, 0), (140, .iadd, 141, 0), (141, .invokestatic 69, 144, 0), (144, .invokevirtual 73, 147, 0), (147, .iinc 2 1, 150, 0), (150, .goto (-32), 153, 118), (153, .aload_n 0, 154, 0), (154, .invokevirtual 76, 157, 0), (157, .return_, 158, 0)]
theorem T_X8_gather_ok : T_X8_gather.all (rowB cX8_gather) = true := by decide +kernel
def th_X8_gather : List (Nat × Nat) := []
def sw_X8_gather : List (Nat × (List (Int32 × Nat) × Nat)) := []
theorem sw_X8_gather_ok : ∀ q ∈ sw_X8_gather, swS cX8_gather q := fun _ h => absurd h List.not_mem_nil
def na_X8_gather : List (Nat × Nat) := [(196, 3), (207, 1), (220, 3), (229, 1)]
def ca_X8_gather {R' : Type} (F : Nat) : List (Nat × cFn R') := [(196, n_X8_gatherCuts (f_X8_gatherCuts F)), (207, n_X0_weightOf (f_X0_weightOf F)), (220, n_X8_gatherEach (f_X8_gatherEach F)), (229, n_X8_gatherShared (f_X8_gatherShared F))]
theorem ca_X8_gather_ok {R' : Type} {q : cL} (hst : q.1.stackTraces = false) {D : Nat} (hD : 3 ≤ D) (F : Nat) : ∀ x ∈ (ca_X8_gather (R' := R') F), 1 ≤ D ∧ ceS q RX8 (D - 1) x.1 x.2 := List.forall_mem_cons.mpr ⟨⟨by omega, n_X8_gatherCuts_ok (k := 65) (lw_good_of (tb_ok 808 (by decide +kernel)) rfl) (fun a0 a1 a2 M r h => c_X8_gatherCuts hst (by omega) F a0 a1 a2 M r h)⟩, List.forall_mem_cons.mpr ⟨⟨by omega, n_X0_weightOf_ok (k := 69) (lw_good_of (tb_ok 841 (by decide +kernel)) rfl) (fun a0 M r h => c_X0_weightOf hst (by omega) F a0 M r h)⟩, List.forall_mem_cons.mpr ⟨⟨by omega, n_X8_gatherEach_ok (k := 73) (lw_good_of (tb_ok 851 (by decide +kernel)) rfl) (fun a0 a1 a2 M r h => c_X8_gatherEach hst (by omega) F a0 a1 a2 M r h)⟩, List.forall_mem_cons.mpr ⟨⟨by omega, n_X8_gatherShared_ok (k := 76) (lw_good_of (tb_ok 863 (by decide +kernel)) rfl) (fun a0 M r h => c_X8_gatherShared hst (by omega) F a0 M r h)⟩, fun _ h => absurd h List.not_mem_nil⟩⟩⟩⟩
def kd_X8_gather_7 (g : Nat → Int32 → Int32 → cM → Option (cM)) : cKf (cM) := fun vs st M => (lR vs 0).bind fun x0 => (lI vs 1).bind fun x1 => (lI vs 2).bind fun x2 => match st with
  | [] => g x0 x1 x2 M
  | _ => none
theorem kf_X8_gather_7 {X : cCtx} {o : cO} {r : cM} {g : Nat → Int32 → Int32 → cM → Option (cM)} (hg : ∀ x0 x1 x2 M, g x0 x1 x2 M = some r → WX X 4 o 7 [some (.ref x0), some (.int x1), some (.int x2), none] [] M) : ∀ vs st M, kd_X8_gather_7 g vs st M = some r → WX X 4 o 7 vs st M := by
  intro vs st M h
  unfold kd_X8_gather_7 at h
  obtain ⟨x0, h0, h⟩ := Option.bind_eq_some_iff.mp h
  obtain ⟨x1, h1, h⟩ := Option.bind_eq_some_iff.mp h
  obtain ⟨x2, h2, h⟩ := Option.bind_eq_some_iff.mp h
  split at h
  · exact WX_weak (hg _ _ _ _ h) rfl ⟨lR_of h0, lI_of h1, lI_of h2, trivial⟩
  · cases h
def kd_X8_gather_63 (g : Nat → Int32 → cM → Option (cM)) : cKf (cM) := fun vs st M => (lR vs 0).bind fun x0 => (lI vs 2).bind fun x2 => match st with
  | [] => g x0 x2 M
  | _ => none
theorem kf_X8_gather_63 {X : cCtx} {o : cO} {r : cM} {g : Nat → Int32 → cM → Option (cM)} (hg : ∀ x0 x2 M, g x0 x2 M = some r → WX X 4 o 63 [some (.ref x0), none, some (.int x2), none] [] M) : ∀ vs st M, kd_X8_gather_63 g vs st M = some r → WX X 4 o 63 vs st M := by
  intro vs st M h
  unfold kd_X8_gather_63 at h
  obtain ⟨x0, h0, h⟩ := Option.bind_eq_some_iff.mp h
  obtain ⟨x2, h2, h⟩ := Option.bind_eq_some_iff.mp h
  split at h
  · exact WX_weak (hg _ _ _ h) rfl ⟨lR_of h0, lI_of h2, trivial⟩
  · cases h
def kd_X8_gather_84 (g : Nat → Int32 → cM → Option (cM)) : cKf (cM) := fun vs st M => (lR vs 0).bind fun x0 => (lI vs 2).bind fun x2 => match st with
  | [] => g x0 x2 M
  | _ => none
theorem kf_X8_gather_84 {X : cCtx} {o : cO} {r : cM} {g : Nat → Int32 → cM → Option (cM)} (hg : ∀ x0 x2 M, g x0 x2 M = some r → WX X 4 o 84 [some (.ref x0), none, some (.int x2), none] [] M) : ∀ vs st M, kd_X8_gather_84 g vs st M = some r → WX X 4 o 84 vs st M := by
  intro vs st M h
  unfold kd_X8_gather_84 at h
  obtain ⟨x0, h0, h⟩ := Option.bind_eq_some_iff.mp h
  obtain ⟨x2, h2, h⟩ := Option.bind_eq_some_iff.mp h
  split at h
  · exact WX_weak (hg _ _ _ h) rfl ⟨lR_of h0, lI_of h2, trivial⟩
  · cases h
def kd_X8_gather_92 (g : Nat → Int32 → Int32 → cM → Option (cM)) : cKf (cM) := fun vs st M => (lR vs 0).bind fun x0 => (lI vs 2).bind fun x2 => (lI vs 3).bind fun x3 => match st with
  | [] => g x0 x2 x3 M
  | _ => none
theorem kf_X8_gather_92 {X : cCtx} {o : cO} {r : cM} {g : Nat → Int32 → Int32 → cM → Option (cM)} (hg : ∀ x0 x2 x3 M, g x0 x2 x3 M = some r → WX X 4 o 92 [some (.ref x0), none, some (.int x2), some (.int x3)] [] M) : ∀ vs st M, kd_X8_gather_92 g vs st M = some r → WX X 4 o 92 vs st M := by
  intro vs st M h
  unfold kd_X8_gather_92 at h
  obtain ⟨x0, h0, h⟩ := Option.bind_eq_some_iff.mp h
  obtain ⟨x2, h2, h⟩ := Option.bind_eq_some_iff.mp h
  obtain ⟨x3, h3, h⟩ := Option.bind_eq_some_iff.mp h
  split at h
  · exact WX_weak (hg _ _ _ _ h) rfl ⟨lR_of h0, lI_of h2, lI_of h3, trivial⟩
  · cases h
def kd_X8_gather_118 (g : Nat → Int32 → cM → Option (cM)) : cKf (cM) := fun vs st M => (lR vs 0).bind fun x0 => (lI vs 2).bind fun x2 => match st with
  | [] => g x0 x2 M
  | _ => none
theorem kf_X8_gather_118 {X : cCtx} {o : cO} {r : cM} {g : Nat → Int32 → cM → Option (cM)} (hg : ∀ x0 x2 M, g x0 x2 M = some r → WX X 4 o 118 [some (.ref x0), none, some (.int x2), none] [] M) : ∀ vs st M, kd_X8_gather_118 g vs st M = some r → WX X 4 o 118 vs st M := by
  intro vs st M h
  unfold kd_X8_gather_118 at h
  obtain ⟨x0, h0, h⟩ := Option.bind_eq_some_iff.mp h
  obtain ⟨x2, h2, h⟩ := Option.bind_eq_some_iff.mp h
  split at h
  · exact WX_weak (hg _ _ _ h) rfl ⟨lR_of h0, lI_of h2, trivial⟩
  · cases h
theorem e_X8_gather_118 (F : Nat) (t118 : Nat → Int32 → cM → Option (cM)) (x0 : Nat) (x2 : Int32) (M : cM) : b_X8_gather_118 F t118 x0 x2 M = run T_X8_gather P_RX8 false 5 (naL na_X8_gather) (caL (ca_X8_gather F)) (lkN th_X8_gather) (lkN sw_X8_gather) krV kxN (spL [118]) (KL [(118, kd_X8_gather_118 t118)]) 91 118 [some (.ref x0), none, some (.int x2), none] [] M := rfl
theorem ok_X8_gather_118 {X : cCtx} {D : Nat} {r : cM} (G : FX X 4 (eV r) cX8_gather RX8 5 D) {F : Nat} (hca : ∀ x ∈ (ca_X8_gather (R' := cM) F), 1 ≤ D ∧ ceS X.1 RX8 (D - 1) x.1 x.2) (n : Nat) : ∀ x0 x2 M, f_X8_gather_118 F n x0 x2 M = some r → WX X 4 (eV r) 118 [some (.ref x0), none, some (.int x2), none] [] M := by
  induction n with
  | zero => intro x0 x2 M h; cases h
  | succ n ih =>
    intro x0 x2 M h
    exact seg_ok G P_RX8_ok T_X8_gather_ok hca (fun _ h => absurd h List.not_mem_nil) sw_X8_gather_ok krV_ok (kxN_ok (f := eV)) (List.forall_mem_cons.mpr ⟨kf_X8_gather_118 (ih), fun _ h => absurd h List.not_mem_nil⟩) ((e_X8_gather_118 F (f_X8_gather_118 F n) x0 x2 M).symm.trans h)
theorem e_X8_gather_92 (F : Nat) (t84 : Nat → Int32 → cM → Option (cM)) (t92 : Nat → Int32 → Int32 → cM → Option (cM)) (x0 : Nat) (x2 : Int32) (x3 : Int32) (M : cM) : b_X8_gather_92 F t84 t92 x0 x2 x3 M = run T_X8_gather P_RX8 false 5 (naL na_X8_gather) (caL (ca_X8_gather F)) (lkN th_X8_gather) (lkN sw_X8_gather) krV kxN (spL [84, 92]) (KL [(84, kd_X8_gather_84 t84), (92, kd_X8_gather_92 t92)]) 91 92 [some (.ref x0), none, some (.int x2), some (.int x3)] [] M := rfl
theorem ok_X8_gather_92 {X : cCtx} {D : Nat} {r : cM} (G : FX X 4 (eV r) cX8_gather RX8 5 D) {F : Nat} (hca : ∀ x ∈ (ca_X8_gather (R' := cM) F), 1 ≤ D ∧ ceS X.1 RX8 (D - 1) x.1 x.2) (k84 : Nat → Int32 → cM → Option (cM)) (hk84 : ∀ x0 x2 M, k84 x0 x2 M = some r → WX X 4 (eV r) 84 [some (.ref x0), none, some (.int x2), none] [] M) (n : Nat) : ∀ x0 x2 x3 M, f_X8_gather_92 F k84 n x0 x2 x3 M = some r → WX X 4 (eV r) 92 [some (.ref x0), none, some (.int x2), some (.int x3)] [] M := by
  induction n with
  | zero => intro x0 x2 x3 M h; cases h
  | succ n ih =>
    intro x0 x2 x3 M h
    exact seg_ok G P_RX8_ok T_X8_gather_ok hca (fun _ h => absurd h List.not_mem_nil) sw_X8_gather_ok krV_ok (kxN_ok (f := eV)) (List.forall_mem_cons.mpr ⟨kf_X8_gather_84 (hk84), List.forall_mem_cons.mpr ⟨kf_X8_gather_92 (ih), fun _ h => absurd h List.not_mem_nil⟩⟩) ((e_X8_gather_92 F (k84) (f_X8_gather_92 F k84 n) x0 x2 x3 M).symm.trans h)
theorem e_X8_gather_84 (F : Nat) (t92 : Nat → Int32 → Int32 → cM → Option (cM)) (t118 : Nat → Int32 → cM → Option (cM)) (x0 : Nat) (x2 : Int32) (M : cM) : b_X8_gather_84 F t92 t118 x0 x2 M = run T_X8_gather P_RX8 false 5 (naL na_X8_gather) (caL (ca_X8_gather F)) (lkN th_X8_gather) (lkN sw_X8_gather) krV kxN (spL [92, 118]) (KL [(92, kd_X8_gather_92 t92), (118, kd_X8_gather_118 t118)]) 91 84 [some (.ref x0), none, some (.int x2), none] [] M := rfl
theorem ok_X8_gather_84 {X : cCtx} {D : Nat} {r : cM} (G : FX X 4 (eV r) cX8_gather RX8 5 D) {F : Nat} (hca : ∀ x ∈ (ca_X8_gather (R' := cM) F), 1 ≤ D ∧ ceS X.1 RX8 (D - 1) x.1 x.2) (n : Nat) : ∀ x0 x2 M, f_X8_gather_84 F n x0 x2 M = some r → WX X 4 (eV r) 84 [some (.ref x0), none, some (.int x2), none] [] M := by
  induction n with
  | zero => intro x0 x2 M h; cases h
  | succ n ih =>
    intro x0 x2 M h
    exact seg_ok G P_RX8_ok T_X8_gather_ok hca (fun _ h => absurd h List.not_mem_nil) sw_X8_gather_ok krV_ok (kxN_ok (f := eV)) (List.forall_mem_cons.mpr ⟨kf_X8_gather_92 (ok_X8_gather_92 G hca (f_X8_gather_84 F n) ih F), List.forall_mem_cons.mpr ⟨kf_X8_gather_118 (ok_X8_gather_118 G hca F), fun _ h => absurd h List.not_mem_nil⟩⟩) ((e_X8_gather_84 F (f_X8_gather_92 F (f_X8_gather_84 F n) F) (f_X8_gather_118 F F) x0 x2 M).symm.trans h)
theorem e_X8_gather_63 (F : Nat) (t63 : Nat → Int32 → cM → Option (cM)) (t84 : Nat → Int32 → cM → Option (cM)) (x0 : Nat) (x2 : Int32) (M : cM) : b_X8_gather_63 F t63 t84 x0 x2 M = run T_X8_gather P_RX8 false 5 (naL na_X8_gather) (caL (ca_X8_gather F)) (lkN th_X8_gather) (lkN sw_X8_gather) krV kxN (spL [63, 84]) (KL [(63, kd_X8_gather_63 t63), (84, kd_X8_gather_84 t84)]) 91 63 [some (.ref x0), none, some (.int x2), none] [] M := rfl
theorem ok_X8_gather_63 {X : cCtx} {D : Nat} {r : cM} (G : FX X 4 (eV r) cX8_gather RX8 5 D) {F : Nat} (hca : ∀ x ∈ (ca_X8_gather (R' := cM) F), 1 ≤ D ∧ ceS X.1 RX8 (D - 1) x.1 x.2) (n : Nat) : ∀ x0 x2 M, f_X8_gather_63 F n x0 x2 M = some r → WX X 4 (eV r) 63 [some (.ref x0), none, some (.int x2), none] [] M := by
  induction n with
  | zero => intro x0 x2 M h; cases h
  | succ n ih =>
    intro x0 x2 M h
    exact seg_ok G P_RX8_ok T_X8_gather_ok hca (fun _ h => absurd h List.not_mem_nil) sw_X8_gather_ok krV_ok (kxN_ok (f := eV)) (List.forall_mem_cons.mpr ⟨kf_X8_gather_63 (ih), List.forall_mem_cons.mpr ⟨kf_X8_gather_84 (ok_X8_gather_84 G hca F), fun _ h => absurd h List.not_mem_nil⟩⟩) ((e_X8_gather_63 F (f_X8_gather_63 F n) (f_X8_gather_84 F F) x0 x2 M).symm.trans h)
theorem e_X8_gather_7 (F : Nat) (t7 : Nat → Int32 → Int32 → cM → Option (cM)) (t63 : Nat → Int32 → cM → Option (cM)) (x0 : Nat) (x1 : Int32) (x2 : Int32) (M : cM) : b_X8_gather_7 F t7 t63 x0 x1 x2 M = run T_X8_gather P_RX8 false 5 (naL na_X8_gather) (caL (ca_X8_gather F)) (lkN th_X8_gather) (lkN sw_X8_gather) krV kxN (spL [7, 63]) (KL [(7, kd_X8_gather_7 t7), (63, kd_X8_gather_63 t63)]) 91 7 [some (.ref x0), some (.int x1), some (.int x2), none] [] M := rfl
theorem ok_X8_gather_7 {X : cCtx} {D : Nat} {r : cM} (G : FX X 4 (eV r) cX8_gather RX8 5 D) {F : Nat} (hca : ∀ x ∈ (ca_X8_gather (R' := cM) F), 1 ≤ D ∧ ceS X.1 RX8 (D - 1) x.1 x.2) (n : Nat) : ∀ x0 x1 x2 M, f_X8_gather_7 F n x0 x1 x2 M = some r → WX X 4 (eV r) 7 [some (.ref x0), some (.int x1), some (.int x2), none] [] M := by
  induction n with
  | zero => intro x0 x1 x2 M h; cases h
  | succ n ih =>
    intro x0 x1 x2 M h
    exact seg_ok G P_RX8_ok T_X8_gather_ok hca (fun _ h => absurd h List.not_mem_nil) sw_X8_gather_ok krV_ok (kxN_ok (f := eV)) (List.forall_mem_cons.mpr ⟨kf_X8_gather_7 (ih), List.forall_mem_cons.mpr ⟨kf_X8_gather_63 (ok_X8_gather_63 G hca F), fun _ h => absurd h List.not_mem_nil⟩⟩) ((e_X8_gather_7 F (f_X8_gather_7 F n) (f_X8_gather_63 F F) x0 x1 x2 M).symm.trans h)
theorem e_X8_gather_0 (F : Nat) (t7 : Nat → Int32 → Int32 → cM → Option (cM)) (x0 : Nat) (x1 : Int32) (M : cM) : b_X8_gather_0 F t7 x0 x1 M = run T_X8_gather P_RX8 false 5 (naL na_X8_gather) (caL (ca_X8_gather F)) (lkN th_X8_gather) (lkN sw_X8_gather) krV kxN (spL [7]) (KL [(7, kd_X8_gather_7 t7)]) 91 0 [some (.ref x0), some (.int x1), none, none] [] M := rfl
theorem ok_X8_gather_0 {X : cCtx} {D : Nat} {r : cM} (G : FX X 4 (eV r) cX8_gather RX8 5 D) {F : Nat} (hca : ∀ x ∈ (ca_X8_gather (R' := cM) F), 1 ≤ D ∧ ceS X.1 RX8 (D - 1) x.1 x.2) : ∀ x0 x1 M, f_X8_gather_0 F x0 x1 M = some r → WX X 4 (eV r) 0 [some (.ref x0), some (.int x1), none, none] [] M := by
  intro x0 x1 M h
  exact seg_ok G P_RX8_ok T_X8_gather_ok hca (fun _ h => absurd h List.not_mem_nil) sw_X8_gather_ok krV_ok (kxN_ok (f := eV)) (List.forall_mem_cons.mpr ⟨kf_X8_gather_7 (ok_X8_gather_7 G hca F), fun _ h => absurd h List.not_mem_nil⟩) ((e_X8_gather_0 F (f_X8_gather_7 F F) x0 x1 M).symm.trans h)
theorem c_X8_gather {q : cL} (hst : q.1.stackTraces = false) {D : Nat} (hD : 3 ≤ D) (F : Nat) (a0 : Nat) (a1 : Int32) (M : cM) (r : cM) (h : f_X8_gather F a0 a1 M = some r) : CTx q yX8_gather (.code yX8_gather cX8_gather 4 none) D [.ref a0, .int a1] M (eV r) ∧ ∃ fs, M[a0]? = some (.inr (6, fs)) := by
  unfold f_X8_gather at h
  split at h
  · next hi => exact ⟨CTx_of (own := RX8) (rk := 5) hst (by decide +kernel) rfl (rfl) (Nat.le_of_ble_eq_true rfl) (fun X hX G => by subst hX; exact ok_X8_gather_0 G (ca_X8_gather_ok hst hD F) a0 a1 M h), isC_of hi⟩
  · cases h
def n_X8_gather {R' : Type} (f : Nat → Int32 → cM → Option (cM)) : cFn R' := fun as M κ κx => match as with
  | [.ref a0, .int a1] => (f a0 a1 M).bind fun p => κ none p
  | _ => none
theorem w_X8_gather : ∀ w ∈ [Cond.instanceMethod yX8_gather, .selects yX8_gather.cls yX8_gather yX8_gather, .initialized yX8_gather.cls, .code yX8_gather cX8_gather 4 none], w ∈ lw_good := List.forall_mem_cons.mpr ⟨lw_good_of (tb_ok 805 (by decide +kernel)) rfl, List.forall_mem_cons.mpr ⟨lw_good_of (tb_ok 806 (by decide +kernel)) rfl, List.forall_mem_cons.mpr ⟨lw_good_of (tb_ok 9 (by decide +kernel)) rfl, List.forall_mem_cons.mpr ⟨lw_good_of (tb_ok 807 (by decide +kernel)) rfl, fun _ h => absurd h List.not_mem_nil⟩⟩⟩⟩
theorem n_X8_gather_ok {R' : Type} {q : cL} {own : String} {d k : Nat} {f : Nat → Int32 → cM → Option (cM)} (hl : Cond.methodLink own k yX8_gather ∈ lw_good) (hf : ∀ a0 a1 M r, f a0 a1 M = some r → CTx q yX8_gather (.code yX8_gather cX8_gather 4 none) d [.ref a0, .int a1] M (eV r) ∧ ∃ fs, M[a0]? = some (.inr (6, fs))) : ceS q own d (3 * k + 1) (n_X8_gather (R' := R') f) := by
  intro as M κ κx r h
  unfold n_X8_gather at h
  split at h
  · obtain ⟨p, h1, h2⟩ := Option.bind_eq_some_iff.mp h
    obtain ⟨hc, fs, ha⟩ := hf _ _ _ _ h1
    exact ⟨eV p, fun _ => h2, fun hne => absurd rfl hne, Or.inr (Or.inl ⟨yX8_gather, cX8_gather, 4, none, k, 1, _, _, 6, TX8, 14, fs, rfl, rfl, hc, ha, rfl, List.forall_mem_cons.mpr ⟨hl, w_X8_gather⟩, ⟨rfl, by decide +kernel, by decide +kernel, by decide +kernel⟩, rfl, by decide⟩)⟩
  · cases h
-- PatchbayScript$Stock.indexOf(I)I
def T_X8_indexOf : List cRow := [(0, .iconst 0, 1, 0), (1, .istore_n 2, 2, 0), (2, .iload_n 2, 3, 0), (3, .aload_n 0, 4, 0), (4, .getfield 59, 7, 0), (7, .if_icmp .ge 21, 10, 28), (10, .aload_n 0, 11, 0), (11, .getfield 26, 14, 0), (14, .iload_n 2, 15, 0), (15, .iaload, 16, 0), (16, .iload_n 1, 17, 0), (17, .if_icmp .ne 5, 20, 22), (20, .iload_n 2, 21, 0), (21, .ireturn, 22, 0), (22, .iinc 2 1, 25, 0), (25, .goto (-23), 28, 2), (28, .iconst (-1), 29, 0), (29, .ireturn, 30, 0)]
theorem T_X8_indexOf_ok : T_X8_indexOf.all (rowB cX8_indexOf) = true := by decide +kernel
def th_X8_indexOf : List (Nat × Nat) := []
def sw_X8_indexOf : List (Nat × (List (Int32 × Nat) × Nat)) := []
theorem sw_X8_indexOf_ok : ∀ q ∈ sw_X8_indexOf, swS cX8_indexOf q := fun _ h => absurd h List.not_mem_nil
def na_X8_indexOf : List (Nat × Nat) := []
def ca_X8_indexOf {R' : Type} (F : Nat) : List (Nat × cFn R') := []
theorem ca_X8_indexOf_ok {R' : Type} {q : cL} (hst : q.1.stackTraces = false) {D : Nat} (hD : 0 ≤ D) (F : Nat) : ∀ x ∈ (ca_X8_indexOf (R' := R') F), 1 ≤ D ∧ ceS q RX8 (D - 1) x.1 x.2 := fun _ h => absurd h List.not_mem_nil
def kd_X8_indexOf_2 (g : Nat → Int32 → Int32 → cM → Option (Int32 × cM)) : cKf (Int32 × cM) := fun vs st M => (lR vs 0).bind fun x0 => (lI vs 1).bind fun x1 => (lI vs 2).bind fun x2 => match st with
  | [] => g x0 x1 x2 M
  | _ => none
theorem kf_X8_indexOf_2 {X : cCtx} {o : cO} {r : Int32 × cM} {g : Nat → Int32 → Int32 → cM → Option (Int32 × cM)} (hg : ∀ x0 x1 x2 M, g x0 x1 x2 M = some r → WX X 3 o 2 [some (.ref x0), some (.int x1), some (.int x2)] [] M) : ∀ vs st M, kd_X8_indexOf_2 g vs st M = some r → WX X 3 o 2 vs st M := by
  intro vs st M h
  unfold kd_X8_indexOf_2 at h
  obtain ⟨x0, h0, h⟩ := Option.bind_eq_some_iff.mp h
  obtain ⟨x1, h1, h⟩ := Option.bind_eq_some_iff.mp h
  obtain ⟨x2, h2, h⟩ := Option.bind_eq_some_iff.mp h
  split at h
  · exact WX_weak (hg _ _ _ _ h) rfl ⟨lR_of h0, lI_of h1, lI_of h2, trivial⟩
  · cases h
theorem e_X8_indexOf_2 (F : Nat) (t2 : Nat → Int32 → Int32 → cM → Option (Int32 × cM)) (x0 : Nat) (x1 : Int32) (x2 : Int32) (M : cM) : b_X8_indexOf_2 F t2 x0 x1 x2 M = run T_X8_indexOf P_RX8 false 0 (naL na_X8_indexOf) (caL (ca_X8_indexOf F)) (lkN th_X8_indexOf) (lkN sw_X8_indexOf) krI kxN (spL [2]) (KL [(2, kd_X8_indexOf_2 t2)]) 21 2 [some (.ref x0), some (.int x1), some (.int x2)] [] M := rfl
theorem ok_X8_indexOf_2 {X : cCtx} {D : Nat} {r : Int32 × cM} (G : FX X 3 (eI r) cX8_indexOf RX8 0 D) {F : Nat} (hca : ∀ x ∈ (ca_X8_indexOf (R' := Int32 × cM) F), 1 ≤ D ∧ ceS X.1 RX8 (D - 1) x.1 x.2) (n : Nat) : ∀ x0 x1 x2 M, f_X8_indexOf_2 F n x0 x1 x2 M = some r → WX X 3 (eI r) 2 [some (.ref x0), some (.int x1), some (.int x2)] [] M := by
  induction n with
  | zero => intro x0 x1 x2 M h; cases h
  | succ n ih =>
    intro x0 x1 x2 M h
    exact seg_ok G P_RX8_ok T_X8_indexOf_ok hca (fun _ h => absurd h List.not_mem_nil) sw_X8_indexOf_ok krI_ok (kxN_ok (f := eI)) (List.forall_mem_cons.mpr ⟨kf_X8_indexOf_2 (ih), fun _ h => absurd h List.not_mem_nil⟩) ((e_X8_indexOf_2 F (f_X8_indexOf_2 F n) x0 x1 x2 M).symm.trans h)
theorem e_X8_indexOf_0 (F : Nat) (t2 : Nat → Int32 → Int32 → cM → Option (Int32 × cM)) (x0 : Nat) (x1 : Int32) (M : cM) : b_X8_indexOf_0 F t2 x0 x1 M = run T_X8_indexOf P_RX8 false 0 (naL na_X8_indexOf) (caL (ca_X8_indexOf F)) (lkN th_X8_indexOf) (lkN sw_X8_indexOf) krI kxN (spL [2]) (KL [(2, kd_X8_indexOf_2 t2)]) 21 0 [some (.ref x0), some (.int x1), none] [] M := rfl
theorem ok_X8_indexOf_0 {X : cCtx} {D : Nat} {r : Int32 × cM} (G : FX X 3 (eI r) cX8_indexOf RX8 0 D) {F : Nat} (hca : ∀ x ∈ (ca_X8_indexOf (R' := Int32 × cM) F), 1 ≤ D ∧ ceS X.1 RX8 (D - 1) x.1 x.2) : ∀ x0 x1 M, f_X8_indexOf_0 F x0 x1 M = some r → WX X 3 (eI r) 0 [some (.ref x0), some (.int x1), none] [] M := by
  intro x0 x1 M h
  exact seg_ok G P_RX8_ok T_X8_indexOf_ok hca (fun _ h => absurd h List.not_mem_nil) sw_X8_indexOf_ok krI_ok (kxN_ok (f := eI)) (List.forall_mem_cons.mpr ⟨kf_X8_indexOf_2 (ok_X8_indexOf_2 G hca F), fun _ h => absurd h List.not_mem_nil⟩) ((e_X8_indexOf_0 F (f_X8_indexOf_2 F F) x0 x1 M).symm.trans h)
theorem c_X8_indexOf {q : cL} (hst : q.1.stackTraces = false) {D : Nat} (hD : 0 ≤ D) (F : Nat) (a0 : Nat) (a1 : Int32) (M : cM) (r : Int32 × cM) (h : f_X8_indexOf F a0 a1 M = some r) : CTx q yX8_indexOf (.code yX8_indexOf cX8_indexOf 3 (some .int)) D [.ref a0, .int a1] M (eI r) ∧ ∃ fs, M[a0]? = some (.inr (6, fs)) := by
  unfold f_X8_indexOf at h
  split at h
  · next hi => exact ⟨CTx_of (own := RX8) (rk := 0) hst (by decide +kernel) rfl (rfl) (Nat.le_of_ble_eq_true rfl) (fun X hX G => by subst hX; exact ok_X8_indexOf_0 G (ca_X8_indexOf_ok hst hD F) a0 a1 M h), isC_of hi⟩
  · cases h
def n_X8_indexOf {R' : Type} (f : Nat → Int32 → cM → Option (Int32 × cM)) : cFn R' := fun as M κ κx => match as with
  | [.ref a0, .int a1] => (f a0 a1 M).bind fun p => κ (some (.int p.1)) p.2
  | _ => none
theorem w_X8_indexOf : ∀ w ∈ [Cond.instanceMethod yX8_indexOf, .selects yX8_indexOf.cls yX8_indexOf yX8_indexOf, .initialized yX8_indexOf.cls, .code yX8_indexOf cX8_indexOf 3 (some .int)], w ∈ lw_good := List.forall_mem_cons.mpr ⟨lw_good_of (tb_ok 872 (by decide +kernel)) rfl, List.forall_mem_cons.mpr ⟨lw_good_of (tb_ok 873 (by decide +kernel)) rfl, List.forall_mem_cons.mpr ⟨lw_good_of (tb_ok 9 (by decide +kernel)) rfl, List.forall_mem_cons.mpr ⟨lw_good_of (tb_ok 874 (by decide +kernel)) rfl, fun _ h => absurd h List.not_mem_nil⟩⟩⟩⟩
theorem n_X8_indexOf_ok {R' : Type} {q : cL} {own : String} {d k : Nat} {f : Nat → Int32 → cM → Option (Int32 × cM)} (hl : Cond.methodLink own k yX8_indexOf ∈ lw_good) (hf : ∀ a0 a1 M r, f a0 a1 M = some r → CTx q yX8_indexOf (.code yX8_indexOf cX8_indexOf 3 (some .int)) d [.ref a0, .int a1] M (eI r) ∧ ∃ fs, M[a0]? = some (.inr (6, fs))) : ceS q own d (3 * k + 1) (n_X8_indexOf (R' := R') f) := by
  intro as M κ κx r h
  unfold n_X8_indexOf at h
  split at h
  · obtain ⟨p, h1, h2⟩ := Option.bind_eq_some_iff.mp h
    obtain ⟨hc, fs, ha⟩ := hf _ _ _ _ h1
    exact ⟨eI p, fun _ => h2, fun hne => absurd rfl hne, Or.inr (Or.inl ⟨yX8_indexOf, cX8_indexOf, 3, (some .int), k, 1, _, _, 6, TX8, 14, fs, rfl, rfl, hc, ha, rfl, List.forall_mem_cons.mpr ⟨hl, w_X8_indexOf⟩, ⟨rfl, by decide +kernel, by decide +kernel, by decide +kernel⟩, rfl, by decide⟩)⟩
  · cases h
-- PatchbayScript$Finder.layerOf(II)I
def T_X2_layerOf : List cRow := [(0, .iload_n 2, 1, 0), (1, .iload_n 1, 2, 0), (2, .if_icmp .lt 5, 5, 7), (5, .iconst 0, 6, 0), (6, .ireturn, 7, 0), (7, .aload_n 0, 8, 0), (8, .getfield 82, 11, 0), (11, .ifCond .eq 17, 14, 28), (14, .iconst 1, 15, 0), (15, .iload_n 1, 16, 0), (16, .iload_n 1, 17, 0), (17, .iconst 1, 18, 0), (18, .isub, 19, 0), (19, .imul, 20, 0), (20, .iconst 2, 21, 0), (21, .idiv, 22, 0), (22, .iadd, 23, 0), (23, .iload_n 2, 24, 0), (24, .iadd, 25, 0), (25, .goto 6, 28, 31), (28, .iload_n 1, 29, 0), (29, .iload_n 2, 30, 0), (30, .isub, 31, 0), (31, .ireturn, 32, 0)]
theorem T_X2_layerOf_ok : T_X2_layerOf.all (rowB cX2_layerOf) = true := by decide +kernel
def th_X2_layerOf : List (Nat × Nat) := []
def sw_X2_layerOf : List (Nat × (List (Int32 × Nat) × Nat)) := []
theorem sw_X2_layerOf_ok : ∀ q ∈ sw_X2_layerOf, swS cX2_layerOf q := fun _ h => absurd h List.not_mem_nil
def na_X2_layerOf : List (Nat × Nat) := []
def ca_X2_layerOf {R' : Type} (F : Nat) : List (Nat × cFn R') := []
theorem ca_X2_layerOf_ok {R' : Type} {q : cL} (hst : q.1.stackTraces = false) {D : Nat} (hD : 0 ≤ D) (F : Nat) : ∀ x ∈ (ca_X2_layerOf (R' := R') F), 1 ≤ D ∧ ceS q RX2 (D - 1) x.1 x.2 := fun _ h => absurd h List.not_mem_nil
theorem e_X2_layerOf_0 (F : Nat) (x0 : Nat) (x1 : Int32) (x2 : Int32) (M : cM) : b_X2_layerOf_0 F x0 x1 x2 M = run T_X2_layerOf P_RX2 false 0 (naL na_X2_layerOf) (caL (ca_X2_layerOf F)) (lkN th_X2_layerOf) (lkN sw_X2_layerOf) krI kxN (spL []) (KL []) 27 0 [some (.ref x0), some (.int x1), some (.int x2)] [] M := rfl
theorem ok_X2_layerOf_0 {X : cCtx} {D : Nat} {r : Int32 × cM} (G : FX X 3 (eI r) cX2_layerOf RX2 0 D) {F : Nat} (hca : ∀ x ∈ (ca_X2_layerOf (R' := Int32 × cM) F), 1 ≤ D ∧ ceS X.1 RX2 (D - 1) x.1 x.2) : ∀ x0 x1 x2 M, f_X2_layerOf_0 F x0 x1 x2 M = some r → WX X 3 (eI r) 0 [some (.ref x0), some (.int x1), some (.int x2)] [] M := by
  intro x0 x1 x2 M h
  exact seg_ok G P_RX2_ok T_X2_layerOf_ok hca (fun _ h => absurd h List.not_mem_nil) sw_X2_layerOf_ok krI_ok (kxN_ok (f := eI)) (fun _ h => absurd h List.not_mem_nil) ((e_X2_layerOf_0 F x0 x1 x2 M).symm.trans h)
theorem c_X2_layerOf {q : cL} (hst : q.1.stackTraces = false) {D : Nat} (hD : 0 ≤ D) (F : Nat) (a0 : Nat) (a1 : Int32) (a2 : Int32) (M : cM) (r : Int32 × cM) (h : f_X2_layerOf F a0 a1 a2 M = some r) : CTx q yX2_layerOf (.code yX2_layerOf cX2_layerOf 3 (some .int)) D [.ref a0, .int a1, .int a2] M (eI r) ∧ ∃ fs, M[a0]? = some (.inr (1, fs)) := by
  unfold f_X2_layerOf at h
  split at h
  · next hi => exact ⟨CTx_of (own := RX2) (rk := 0) hst (by decide +kernel) rfl (rfl) (Nat.le_of_ble_eq_true rfl) (fun X hX G => by subst hX; exact ok_X2_layerOf_0 G (ca_X2_layerOf_ok hst hD F) a0 a1 a2 M h), isC_of hi⟩
  · cases h
def n_X2_layerOf {R' : Type} (f : Nat → Int32 → Int32 → cM → Option (Int32 × cM)) : cFn R' := fun as M κ κx => match as with
  | [.ref a0, .int a1, .int a2] => (f a0 a1 a2 M).bind fun p => κ (some (.int p.1)) p.2
  | _ => none
theorem w_X2_layerOf : ∀ w ∈ [Cond.instanceMethod yX2_layerOf, .selects yX2_layerOf.cls yX2_layerOf yX2_layerOf, .initialized yX2_layerOf.cls, .code yX2_layerOf cX2_layerOf 3 (some .int)], w ∈ lw_good := List.forall_mem_cons.mpr ⟨lw_good_of (tb_ok 881 (by decide +kernel)) rfl, List.forall_mem_cons.mpr ⟨lw_good_of (ts_ok 15 (by decide +kernel)) rfl, List.forall_mem_cons.mpr ⟨lw_good_of (tb_ok 8 (by decide +kernel)) rfl, List.forall_mem_cons.mpr ⟨lw_good_of (tb_ok 882 (by decide +kernel)) rfl, fun _ h => absurd h List.not_mem_nil⟩⟩⟩⟩
theorem n_X2_layerOf_ok {R' : Type} {q : cL} {own : String} {d k : Nat} {f : Nat → Int32 → Int32 → cM → Option (Int32 × cM)} (hl : Cond.methodLink own k yX2_layerOf ∈ lw_good) (hf : ∀ a0 a1 a2 M r, f a0 a1 a2 M = some r → CTx q yX2_layerOf (.code yX2_layerOf cX2_layerOf 3 (some .int)) d [.ref a0, .int a1, .int a2] M (eI r) ∧ ∃ fs, M[a0]? = some (.inr (1, fs))) : ceS q own d (3 * k + 1) (n_X2_layerOf (R' := R') f) := by
  intro as M κ κx r h
  unfold n_X2_layerOf at h
  split at h
  · obtain ⟨p, h1, h2⟩ := Option.bind_eq_some_iff.mp h
    obtain ⟨hc, fs, ha⟩ := hf _ _ _ _ _ h1
    exact ⟨eI p, fun _ => h2, fun hne => absurd rfl hne, Or.inr (Or.inl ⟨yX2_layerOf, cX2_layerOf, 3, (some .int), k, 2, _, _, 1, TX2, 14, fs, rfl, rfl, hc, ha, rfl, List.forall_mem_cons.mpr ⟨hl, w_X2_layerOf⟩, ⟨rfl, by decide +kernel, by decide +kernel, by decide +kernel⟩, rfl, by decide⟩)⟩
  · cases h
-- PatchbayScript$Finder.gatherConstWays(IIII)V
def T_X2_gatherConstWays : List cRow := [(0, .aload_n 0, 1, 0), (1, .getfield 26, 4, 0), (4, .getfield 112, 7, 0), (7, .iload_n 1, 8, 0), (8, .aaload, 9, 0), (9, .getfield 115, 12, 0), (12, .astore 5, 14, 0), (14, .iconst 0, 15, 0), (15, .istore 6, 17, 0), (17, .iload 6, 19, 0), (19, .aload 5, 21, 0), (21, .getfield 118, 24, 0), (24, .if_icmp .ge 109, 27, 133), (27, .iconst 0, 28, 0), (28, .istore 7, 30, 0), (30, .iconst 1, 31, 0), (31, .istore 8, 33, 0), (33, .iload 8, 35, 0), (35, .aload_n 0, 36, 0), (36, .getfield 26, 39, 0), (39, .getfield 147, 42, 0), (42, .iload_n 1, 43, 0), (43, .bipush 21, 45, 0), (45, .imul, 46, 0), (46, .iload 6, 48, 0), (48, .iadd, 49, 0), (49, .iaload, 50, 0), (50, .if_icmp .gt 77, 53, 127), (53, .iload 7, 55, 0), (55, .iload 8, 57, 0), (57, .iconst 1, 58, 0), (58, .isub, 59, 0), (59, .aload 5, 61, 0), (61, .iload 6, 63, 0), (63, .iload 8, 65, 0), (65, .iadd, 66, 0), (66, .iconst 1, 67, 0), (67, .isub, 68, 0), (68, .invokevirtual 150, 71, 0), (71, .invokestatic 153, 74, 0), (74, .istore 7, 76, 0), (76, .iload 4, 78, 0), (78, .iconst (-1), 79, 0), (79, .if_icmp .eq 10, 82, 89), (82, .iload 4, 84, 0), (84, .iload 7, 86, 0), (86, .if_icmp .ne 35, 89, 121), (89, .aload_n 0, 90, 0), (90, .getfield 37, 93, 0), (93, .iload_n 2, 94, 0), (94, .iload 6, 96, 0), (96, .iadd, 97, 0), (97, .dup2, 98, 0), (98, .laload, 99, 0), (99, .aload_n 0, 100, 0), (100, .getfield 37, 103, 0), (103, .iload_n 3, 104, 0), (104, .iload 6, 106, 0), (106, .iadd, 107, 0), (107, .iload 8, 109, 0), (109, .iadd, 110, 0), (110, .laload, 111, 0), (111, .iload 8, 113, 0), (113, .invokestatic 157, 116, 0), (116, .iconst 4, 117, 0), (117, .isub, 118, 0), (118, .lshl, 119, 0), (119, .lor, 120, 0), (120, .lastore, 121, 0), (121, .iinc 8 1, 124, 0), (124, .goto (-91), 127, 33), (127, .iinc 6 1, 130, 0), (130, .goto (-113), 133, 17), (133, .return_, 134, 0)]
theorem T_X2_gatherConstWays_ok : T_X2_gatherConstWays.all (rowB cX2_gatherConstWays) = true := by decide +kernel
def th_X2_gatherConstWays : List (Nat × Nat) := []
def sw_X2_gatherConstWays : List (Nat × (List (Int32 × Nat) × Nat)) := []
theorem sw_X2_gatherConstWays_ok : ∀ q ∈ sw_X2_gatherConstWays, swS cX2_gatherConstWays q := fun _ h => absurd h List.not_mem_nil
def na_X2_gatherConstWays : List (Nat × Nat) := [(451, 2), (459, 3), (471, 1)]
def ca_X2_gatherConstWays {R' : Type} (F : Nat) : List (Nat × cFn R') := [(451, n_X10_at (f_X10_at F)), (459, n_X0_withSign (f_X0_withSign F)), (471, n_X0_weightOfConst (f_X0_weightOfConst F))]
theorem ca_X2_gatherConstWays_ok {R' : Type} {q : cL} (hst : q.1.stackTraces = false) {D : Nat} (hD : 1 ≤ D) (F : Nat) : ∀ x ∈ (ca_X2_gatherConstWays (R' := R') F), 1 ≤ D ∧ ceS q RX2 (D - 1) x.1 x.2 := List.forall_mem_cons.mpr ⟨⟨by omega, n_X10_at_ok (k := 150) (lw_good_of (tb_ok 891 (by decide +kernel)) rfl) (fun a0 a1 M r h => c_X10_at hst (by omega) F a0 a1 M r h)⟩, List.forall_mem_cons.mpr ⟨⟨by omega, n_X0_withSign_ok (k := 153) (lw_good_of (tb_ok 892 (by decide +kernel)) rfl) (fun a0 a1 a2 M r h => c_X0_withSign hst (by omega) F a0 a1 a2 M r h)⟩, List.forall_mem_cons.mpr ⟨⟨by omega, n_X0_weightOfConst_ok (k := 157) (lw_good_of (tb_ok 893 (by decide +kernel)) rfl) (fun a0 M r h => c_X0_weightOfConst hst (by omega) F a0 M r h)⟩, fun _ h => absurd h List.not_mem_nil⟩⟩⟩
def kd_X2_gatherConstWays_17 (g : Nat → Int32 → Int32 → Int32 → Int32 → Nat → Int32 → cM → Option (cM)) : cKf (cM) := fun vs st M => (lR vs 0).bind fun x0 => (lI vs 1).bind fun x1 => (lI vs 2).bind fun x2 => (lI vs 3).bind fun x3 => (lI vs 4).bind fun x4 => (lR vs 5).bind fun x5 => (lI vs 6).bind fun x6 => match st with
  | [] => g x0 x1 x2 x3 x4 x5 x6 M
  | _ => none
theorem kf_X2_gatherConstWays_17 {X : cCtx} {o : cO} {r : cM} {g : Nat → Int32 → Int32 → Int32 → Int32 → Nat → Int32 → cM → Option (cM)} (hg : ∀ x0 x1 x2 x3 x4 x5 x6 M, g x0 x1 x2 x3 x4 x5 x6 M = some r → WX X 9 o 17 [some (.ref x0), some (.int x1), some (.int x2), some (.int x3), some (.int x4), some (.ref x5), some (.int x6), none, none] [] M) : ∀ vs st M, kd_X2_gatherConstWays_17 g vs st M = some r → WX X 9 o 17 vs st M := by
  intro vs st M h
  unfold kd_X2_gatherConstWays_17 at h
  obtain ⟨x0, h0, h⟩ := Option.bind_eq_some_iff.mp h
  obtain ⟨x1, h1, h⟩ := Option.bind_eq_some_iff.mp h
  obtain ⟨x2, h2, h⟩ := Option.bind_eq_some_iff.mp h
  obtain ⟨x3, h3, h⟩ := Option.bind_eq_some_iff.mp h
  obtain ⟨x4, h4, h⟩ := Option.bind_eq_some_iff.mp h
  obtain ⟨x5, h5, h⟩ := Option.bind_eq_some_iff.mp h
  obtain ⟨x6, h6, h⟩ := Option.bind_eq_some_iff.mp h
  split at h
  · exact WX_weak (hg _ _ _ _ _ _ _ _ h) rfl ⟨lR_of h0, lI_of h1, lI_of h2, lI_of h3, lI_of h4, lR_of h5, lI_of h6, trivial⟩
  · cases h
def kd_X2_gatherConstWays_33 (g : Nat → Int32 → Int32 → Int32 → Int32 → Nat → Int32 → Int32 → Int32 → cM → Option (cM)) : cKf (cM) := fun vs st M => (lR vs 0).bind fun x0 => (lI vs 1).bind fun x1 => (lI vs 2).bind fun x2 => (lI vs 3).bind fun x3 => (lI vs 4).bind fun x4 => (lR vs 5).bind fun x5 => (lI vs 6).bind fun x6 => (lI vs 7).bind fun x7 => (lI vs 8).bind fun x8 => match st with
  | [] => g x0 x1 x2 x3 x4 x5 x6 x7 x8 M
  | _ => none
theorem kf_X2_gatherConstWays_33 {X : cCtx} {o : cO} {r : cM} {g : Nat → Int32 → Int32 → Int32 → Int32 → Nat → Int32 → Int32 → Int32 → cM → Option (cM)} (hg : ∀ x0 x1 x2 x3 x4 x5 x6 x7 x8 M, g x0 x1 x2 x3 x4 x5 x6 x7 x8 M = some r → WX X 9 o 33 [some (.ref x0), some (.int x1), some (.int x2), some (.int x3), some (.int x4), some (.ref x5), some (.int x6), some (.int x7), some (.int x8)] [] M) : ∀ vs st M, kd_X2_gatherConstWays_33 g vs st M = some r → WX X 9 o 33 vs st M := by
  intro vs st M h
  unfold kd_X2_gatherConstWays_33 at h
  obtain ⟨x0, h0, h⟩ := Option.bind_eq_some_iff.mp h
  obtain ⟨x1, h1, h⟩ := Option.bind_eq_some_iff.mp h
  obtain ⟨x2, h2, h⟩ := Option.bind_eq_some_iff.mp h
  obtain ⟨x3, h3, h⟩ := Option.bind_eq_some_iff.mp h
  obtain ⟨x4, h4, h⟩ := Option.bind_eq_some_iff.mp h
  obtain ⟨x5, h5, h⟩ := Option.bind_eq_some_iff.mp h
  obtain ⟨x6, h6, h⟩ := Option.bind_eq_some_iff.mp h
  obtain ⟨x7, h7, h⟩ := Option.bind_eq_some_iff.mp h
  obtain ⟨x8, h8, h⟩ := Option.bind_eq_some_iff.mp h
  split at h
  · exact WX_weak (hg _ _ _ _ _ _ _ _ _ _ h) rfl ⟨lR_of h0, lI_of h1, lI_of h2, lI_of h3, lI_of h4, lR_of h5, lI_of h6, lI_of h7, lI_of h8, trivial⟩
  · cases h
def kd_X2_gatherConstWays_89 (g : Nat → Int32 → Int32 → Int32 → Int32 → Nat → Int32 → Int32 → Int32 → cM → Option (cM)) : cKf (cM) := fun vs st M => (lR vs 0).bind fun x0 => (lI vs 1).bind fun x1 => (lI vs 2).bind fun x2 => (lI vs 3).bind fun x3 => (lI vs 4).bind fun x4 => (lR vs 5).bind fun x5 => (lI vs 6).bind fun x6 => (lI vs 7).bind fun x7 => (lI vs 8).bind fun x8 => match st with
  | [] => g x0 x1 x2 x3 x4 x5 x6 x7 x8 M
  | _ => none
theorem kf_X2_gatherConstWays_89 {X : cCtx} {o : cO} {r : cM} {g : Nat → Int32 → Int32 → Int32 → Int32 → Nat → Int32 → Int32 → Int32 → cM → Option (cM)} (hg : ∀ x0 x1 x2 x3 x4 x5 x6 x7 x8 M, g x0 x1 x2 x3 x4 x5 x6 x7 x8 M = some r → WX X 9 o 89 [some (.ref x0), some (.int x1), some (.int x2), some (.int x3), some (.int x4), some (.ref x5), some (.int x6), some (.int x7), some (.int x8)] [] M) : ∀ vs st M, kd_X2_gatherConstWays_89 g vs st M = some r → WX X 9 o 89 vs st M := by
  intro vs st M h
  unfold kd_X2_gatherConstWays_89 at h
  obtain ⟨x0, h0, h⟩ := Option.bind_eq_some_iff.mp h
  obtain ⟨x1, h1, h⟩ := Option.bind_eq_some_iff.mp h
  obtain ⟨x2, h2, h⟩ := Option.bind_eq_some_iff.mp h
  obtain ⟨x3, h3, h⟩ := Option.bind_eq_some_iff.mp h
  obtain ⟨x4, h4, h⟩ := Option.bind_eq_some_iff.mp h
  obtain ⟨x5, h5, h⟩ := Option.bind_eq_some_iff.mp h
  obtain ⟨x6, h6, h⟩ := Option.bind_eq_some_iff.mp h
  obtain ⟨x7, h7, h⟩ := Option.bind_eq_some_iff.mp h
  obtain ⟨x8, h8, h⟩ := Option.bind_eq_some_iff.mp h
  split at h
  · exact WX_weak (hg _ _ _ _ _ _ _ _ _ _ h) rfl ⟨lR_of h0, lI_of h1, lI_of h2, lI_of h3, lI_of h4, lR_of h5, lI_of h6, lI_of h7, lI_of h8, trivial⟩
  · cases h
theorem e_X2_gatherConstWays_89 (F : Nat) (t33 : Nat → Int32 → Int32 → Int32 → Int32 → Nat → Int32 → Int32 → Int32 → cM → Option (cM)) (x0 : Nat) (x1 : Int32) (x2 : Int32) (x3 : Int32) (x4 : Int32) (x5 : Nat) (x6 : Int32) (x7 : Int32) (x8 : Int32) (M : cM) : b_X2_gatherConstWays_89 F t33 x0 x1 x2 x3 x4 x5 x6 x7 x8 M = run T_X2_gatherConstWays P_RX2 false 5 (naL na_X2_gatherConstWays) (caL (ca_X2_gatherConstWays F)) (lkN th_X2_gatherConstWays) (lkN sw_X2_gatherConstWays) krV kxN (spL [33]) (KL [(33, kd_X2_gatherConstWays_33 t33)]) 77 89 [some (.ref x0), some (.int x1), some (.int x2), some (.int x3), some (.int x4), some (.ref x5), some (.int x6), some (.int x7), some (.int x8)] [] M := rfl
theorem ok_X2_gatherConstWays_89 {X : cCtx} {D : Nat} {r : cM} (G : FX X 9 (eV r) cX2_gatherConstWays RX2 5 D) {F : Nat} (hca : ∀ x ∈ (ca_X2_gatherConstWays (R' := cM) F), 1 ≤ D ∧ ceS X.1 RX2 (D - 1) x.1 x.2) (k17 : Nat → Int32 → Int32 → Int32 → Int32 → Nat → Int32 → cM → Option (cM)) (k33 : Nat → Int32 → Int32 → Int32 → Int32 → Nat → Int32 → Int32 → Int32 → cM → Option (cM)) (hk17 : ∀ x0 x1 x2 x3 x4 x5 x6 M, k17 x0 x1 x2 x3 x4 x5 x6 M = some r → WX X 9 (eV r) 17 [some (.ref x0), some (.int x1), some (.int x2), some (.int x3), some (.int x4), some (.ref x5), some (.int x6), none, none] [] M) (hk33 : ∀ x0 x1 x2 x3 x4 x5 x6 x7 x8 M, k33 x0 x1 x2 x3 x4 x5 x6 x7 x8 M = some r → WX X 9 (eV r) 33 [some (.ref x0), some (.int x1), some (.int x2), some (.int x3), some (.int x4), some (.ref x5), some (.int x6), some (.int x7), some (.int x8)] [] M) : ∀ x0 x1 x2 x3 x4 x5 x6 x7 x8 M, f_X2_gatherConstWays_89 F k17 k33 x0 x1 x2 x3 x4 x5 x6 x7 x8 M = some r → WX X 9 (eV r) 89 [some (.ref x0), some (.int x1), some (.int x2), some (.int x3), some (.int x4), some (.ref x5), some (.int x6), some (.int x7), some (.int x8)] [] M := by
  intro x0 x1 x2 x3 x4 x5 x6 x7 x8 M h
  exact seg_ok G P_RX2_ok T_X2_gatherConstWays_ok hca (fun _ h => absurd h List.not_mem_nil) sw_X2_gatherConstWays_ok krV_ok (kxN_ok (f := eV)) (List.forall_mem_cons.mpr ⟨kf_X2_gatherConstWays_33 (hk33), fun _ h => absurd h List.not_mem_nil⟩) ((e_X2_gatherConstWays_89 F (k33) x0 x1 x2 x3 x4 x5 x6 x7 x8 M).symm.trans h)
theorem e_X2_gatherConstWays_33 (F : Nat) (t17 : Nat → Int32 → Int32 → Int32 → Int32 → Nat → Int32 → cM → Option (cM)) (t33 : Nat → Int32 → Int32 → Int32 → Int32 → Nat → Int32 → Int32 → Int32 → cM → Option (cM)) (t89 : Nat → Int32 → Int32 → Int32 → Int32 → Nat → Int32 → Int32 → Int32 → cM → Option (cM)) (x0 : Nat) (x1 : Int32) (x2 : Int32) (x3 : Int32) (x4 : Int32) (x5 : Nat) (x6 : Int32) (x7 : Int32) (x8 : Int32) (M : cM) : b_X2_gatherConstWays_33 F t17 t33 t89 x0 x1 x2 x3 x4 x5 x6 x7 x8 M = run T_X2_gatherConstWays P_RX2 false 5 (naL na_X2_gatherConstWays) (caL (ca_X2_gatherConstWays F)) (lkN th_X2_gatherConstWays) (lkN sw_X2_gatherConstWays) krV kxN (spL [17, 33, 89]) (KL [(17, kd_X2_gatherConstWays_17 t17), (33, kd_X2_gatherConstWays_33 t33), (89, kd_X2_gatherConstWays_89 t89)]) 77 33 [some (.ref x0), some (.int x1), some (.int x2), some (.int x3), some (.int x4), some (.ref x5), some (.int x6), some (.int x7), some (.int x8)] [] M := rfl
theorem ok_X2_gatherConstWays_33 {X : cCtx} {D : Nat} {r : cM} (G : FX X 9 (eV r) cX2_gatherConstWays RX2 5 D) {F : Nat} (hca : ∀ x ∈ (ca_X2_gatherConstWays (R' := cM) F), 1 ≤ D ∧ ceS X.1 RX2 (D - 1) x.1 x.2) (k17 : Nat → Int32 → Int32 → Int32 → Int32 → Nat → Int32 → cM → Option (cM)) (hk17 : ∀ x0 x1 x2 x3 x4 x5 x6 M, k17 x0 x1 x2 x3 x4 x5 x6 M = some r → WX X 9 (eV r) 17 [some (.ref x0), some (.int x1), some (.int x2), some (.int x3), some (.int x4), some (.ref x5), some (.int x6), none, none] [] M) (n : Nat) : ∀ x0 x1 x2 x3 x4 x5 x6 x7 x8 M, f_X2_gatherConstWays_33 F k17 n x0 x1 x2 x3 x4 x5 x6 x7 x8 M = some r → WX X 9 (eV r) 33 [some (.ref x0), some (.int x1), some (.int x2), some (.int x3), some (.int x4), some (.ref x5), some (.int x6), some (.int x7), some (.int x8)] [] M := by
  induction n with
  | zero => intro x0 x1 x2 x3 x4 x5 x6 x7 x8 M h; cases h
  | succ n ih =>
    intro x0 x1 x2 x3 x4 x5 x6 x7 x8 M h
    exact seg_ok G P_RX2_ok T_X2_gatherConstWays_ok hca (fun _ h => absurd h List.not_mem_nil) sw_X2_gatherConstWays_ok krV_ok (kxN_ok (f := eV)) (List.forall_mem_cons.mpr ⟨kf_X2_gatherConstWays_17 (hk17), List.forall_mem_cons.mpr ⟨kf_X2_gatherConstWays_33 (ih), List.forall_mem_cons.mpr ⟨kf_X2_gatherConstWays_89 (ok_X2_gatherConstWays_89 G hca k17 (f_X2_gatherConstWays_33 F k17 n) hk17 ih), fun _ h => absurd h List.not_mem_nil⟩⟩⟩) ((e_X2_gatherConstWays_33 F (k17) (f_X2_gatherConstWays_33 F k17 n) (f_X2_gatherConstWays_89 F k17 (f_X2_gatherConstWays_33 F k17 n)) x0 x1 x2 x3 x4 x5 x6 x7 x8 M).symm.trans h)
theorem e_X2_gatherConstWays_17 (F : Nat) (t33 : Nat → Int32 → Int32 → Int32 → Int32 → Nat → Int32 → Int32 → Int32 → cM → Option (cM)) (x0 : Nat) (x1 : Int32) (x2 : Int32) (x3 : Int32) (x4 : Int32) (x5 : Nat) (x6 : Int32) (M : cM) : b_X2_gatherConstWays_17 F t33 x0 x1 x2 x3 x4 x5 x6 M = run T_X2_gatherConstWays P_RX2 false 5 (naL na_X2_gatherConstWays) (caL (ca_X2_gatherConstWays F)) (lkN th_X2_gatherConstWays) (lkN sw_X2_gatherConstWays) krV kxN (spL [33]) (KL [(33, kd_X2_gatherConstWays_33 t33)]) 77 17 [some (.ref x0), some (.int x1), some (.int x2), some (.int x3), some (.int x4), some (.ref x5), some (.int x6), none, none] [] M := rfl
theorem ok_X2_gatherConstWays_17 {X : cCtx} {D : Nat} {r : cM} (G : FX X 9 (eV r) cX2_gatherConstWays RX2 5 D) {F : Nat} (hca : ∀ x ∈ (ca_X2_gatherConstWays (R' := cM) F), 1 ≤ D ∧ ceS X.1 RX2 (D - 1) x.1 x.2) (n : Nat) : ∀ x0 x1 x2 x3 x4 x5 x6 M, f_X2_gatherConstWays_17 F n x0 x1 x2 x3 x4 x5 x6 M = some r → WX X 9 (eV r) 17 [some (.ref x0), some (.int x1), some (.int x2), some (.int x3), some (.int x4), some (.ref x5), some (.int x6), none, none] [] M := by
  induction n with
  | zero => intro x0 x1 x2 x3 x4 x5 x6 M h; cases h
  | succ n ih =>
    intro x0 x1 x2 x3 x4 x5 x6 M h
    exact seg_ok G P_RX2_ok T_X2_gatherConstWays_ok hca (fun _ h => absurd h List.not_mem_nil) sw_X2_gatherConstWays_ok krV_ok (kxN_ok (f := eV)) (List.forall_mem_cons.mpr ⟨kf_X2_gatherConstWays_33 (ok_X2_gatherConstWays_33 G hca (f_X2_gatherConstWays_17 F n) ih F), fun _ h => absurd h List.not_mem_nil⟩) ((e_X2_gatherConstWays_17 F (f_X2_gatherConstWays_33 F (f_X2_gatherConstWays_17 F n) F) x0 x1 x2 x3 x4 x5 x6 M).symm.trans h)
theorem e_X2_gatherConstWays_0 (F : Nat) (t17 : Nat → Int32 → Int32 → Int32 → Int32 → Nat → Int32 → cM → Option (cM)) (x0 : Nat) (x1 : Int32) (x2 : Int32) (x3 : Int32) (x4 : Int32) (M : cM) : b_X2_gatherConstWays_0 F t17 x0 x1 x2 x3 x4 M = run T_X2_gatherConstWays P_RX2 false 5 (naL na_X2_gatherConstWays) (caL (ca_X2_gatherConstWays F)) (lkN th_X2_gatherConstWays) (lkN sw_X2_gatherConstWays) krV kxN (spL [17]) (KL [(17, kd_X2_gatherConstWays_17 t17)]) 77 0 [some (.ref x0), some (.int x1), some (.int x2), some (.int x3), some (.int x4), none, none, none, none] [] M := rfl
theorem ok_X2_gatherConstWays_0 {X : cCtx} {D : Nat} {r : cM} (G : FX X 9 (eV r) cX2_gatherConstWays RX2 5 D) {F : Nat} (hca : ∀ x ∈ (ca_X2_gatherConstWays (R' := cM) F), 1 ≤ D ∧ ceS X.1 RX2 (D - 1) x.1 x.2) : ∀ x0 x1 x2 x3 x4 M, f_X2_gatherConstWays_0 F x0 x1 x2 x3 x4 M = some r → WX X 9 (eV r) 0 [some (.ref x0), some (.int x1), some (.int x2), some (.int x3), some (.int x4), none, none, none, none] [] M := by
  intro x0 x1 x2 x3 x4 M h
  exact seg_ok G P_RX2_ok T_X2_gatherConstWays_ok hca (fun _ h => absurd h List.not_mem_nil) sw_X2_gatherConstWays_ok krV_ok (kxN_ok (f := eV)) (List.forall_mem_cons.mpr ⟨kf_X2_gatherConstWays_17 (ok_X2_gatherConstWays_17 G hca F), fun _ h => absurd h List.not_mem_nil⟩) ((e_X2_gatherConstWays_0 F (f_X2_gatherConstWays_17 F F) x0 x1 x2 x3 x4 M).symm.trans h)
theorem c_X2_gatherConstWays {q : cL} (hst : q.1.stackTraces = false) {D : Nat} (hD : 1 ≤ D) (F : Nat) (a0 : Nat) (a1 : Int32) (a2 : Int32) (a3 : Int32) (a4 : Int32) (M : cM) (r : cM) (h : f_X2_gatherConstWays F a0 a1 a2 a3 a4 M = some r) : CTx q yX2_gatherConstWays (.code yX2_gatherConstWays cX2_gatherConstWays 9 none) D [.ref a0, .int a1, .int a2, .int a3, .int a4] M (eV r) ∧ ∃ fs, M[a0]? = some (.inr (1, fs)) := by
  unfold f_X2_gatherConstWays at h
  split at h
  · next hi => exact ⟨CTx_of (own := RX2) (rk := 5) hst (by decide +kernel) rfl (rfl) (Nat.le_of_ble_eq_true rfl) (fun X hX G => by subst hX; exact ok_X2_gatherConstWays_0 G (ca_X2_gatherConstWays_ok hst hD F) a0 a1 a2 a3 a4 M h), isC_of hi⟩
  · cases h
def n_X2_gatherConstWays {R' : Type} (f : Nat → Int32 → Int32 → Int32 → Int32 → cM → Option (cM)) : cFn R' := fun as M κ κx => match as with
  | [.ref a0, .int a1, .int a2, .int a3, .int a4] => (f a0 a1 a2 a3 a4 M).bind fun p => κ none p
  | _ => none
theorem w_X2_gatherConstWays : ∀ w ∈ [Cond.instanceMethod yX2_gatherConstWays, .selects yX2_gatherConstWays.cls yX2_gatherConstWays yX2_gatherConstWays, .initialized yX2_gatherConstWays.cls, .code yX2_gatherConstWays cX2_gatherConstWays 9 none], w ∈ lw_good := List.forall_mem_cons.mpr ⟨lw_good_of (tb_ok 889 (by decide +kernel)) rfl, List.forall_mem_cons.mpr ⟨lw_good_of (ts_ok 17 (by decide +kernel)) rfl, List.forall_mem_cons.mpr ⟨lw_good_of (tb_ok 8 (by decide +kernel)) rfl, List.forall_mem_cons.mpr ⟨lw_good_of (tb_ok 890 (by decide +kernel)) rfl, fun _ h => absurd h List.not_mem_nil⟩⟩⟩⟩
theorem n_X2_gatherConstWays_ok {R' : Type} {q : cL} {own : String} {d k : Nat} {f : Nat → Int32 → Int32 → Int32 → Int32 → cM → Option (cM)} (hl : Cond.methodLink own k yX2_gatherConstWays ∈ lw_good) (hf : ∀ a0 a1 a2 a3 a4 M r, f a0 a1 a2 a3 a4 M = some r → CTx q yX2_gatherConstWays (.code yX2_gatherConstWays cX2_gatherConstWays 9 none) d [.ref a0, .int a1, .int a2, .int a3, .int a4] M (eV r) ∧ ∃ fs, M[a0]? = some (.inr (1, fs))) : ceS q own d (3 * k + 1) (n_X2_gatherConstWays (R' := R') f) := by
  intro as M κ κx r h
  unfold n_X2_gatherConstWays at h
  split at h
  · obtain ⟨p, h1, h2⟩ := Option.bind_eq_some_iff.mp h
    obtain ⟨hc, fs, ha⟩ := hf _ _ _ _ _ _ _ h1
    exact ⟨eV p, fun _ => h2, fun hne => absurd rfl hne, Or.inr (Or.inl ⟨yX2_gatherConstWays, cX2_gatherConstWays, 9, none, k, 4, _, _, 1, TX2, 14, fs, rfl, rfl, hc, ha, rfl, List.forall_mem_cons.mpr ⟨hl, w_X2_gatherConstWays⟩, ⟨rfl, by decide +kernel, by decide +kernel, by decide +kernel⟩, rfl, by decide⟩)⟩
  · cases h
-- java/lang/Integer.bitCount(I)I
def T_J6_bitCount_0f7a4 : List cRow := [(0, .iload_n 0, 1, 0), (1, .iload_n 0, 2, 0), (2, .iconst 1, 3, 0), (3, .iushr, 4, 0), (4, .ldc_w 265, 7, 0), (7, .iand, 8, 0), (8, .isub, 9, 0), (9, .istore_n 0, 10, 0), (10, .iload_n 0, 11, 0), (11, .ldc_w 266, 14, 0), (14, .iand, 15, 0), (15, .iload_n 0, 16, 0), (16, .iconst 2, 17, 0), (17, .iushr, 18, 0), (18, .ldc_w 266, 21, 0), (21, .iand, 22, 0), (22, .iadd, 23, 0), (23, .istore_n 0, 24, 0), (24, .iload_n 0, 25, 0), (25, .iload_n 0, 26, 0), (26, .iconst 4, 27, 0), (27, .iushr, 28, 0), (28, .iadd, 29, 0), (29, .ldc_w 267, 32, 0), (32, .iand, 33, 0), (33, .istore_n 0, 34, 0), (34, .iload_n 0, 35, 0), (35, .iload_n 0, 36, 0), (36, .bipush 8, 38, 0), (38, .iushr, 39, 0), (39, .iadd, 40, 0), (40, .istore_n 0, 41, 0), (41, .iload_n 0, 42, 0), (42, .iload_n 0, 43, 0), (43, .bipush 16, 45, 0), (45, .iushr, 46, 0), (46, .iadd, 47, 0), (47, .istore_n 0, 48, 0), (48, .iload_n 0, 49, 0), (49, .bipush 63, 51, 0), (51, .iand, 52, 0), (52, .ireturn, 53, 0)]
theorem T_J6_bitCount_0f7a4_ok : T_J6_bitCount_0f7a4.all (rowB cJ6_bitCount_0f7a4) = true := by decide +kernel
def th_J6_bitCount_0f7a4 : List (Nat × Nat) := []
def sw_J6_bitCount_0f7a4 : List (Nat × (List (Int32 × Nat) × Nat)) := []
theorem sw_J6_bitCount_0f7a4_ok : ∀ q ∈ sw_J6_bitCount_0f7a4, swS cJ6_bitCount_0f7a4 q := fun _ h => absurd h List.not_mem_nil
def na_J6_bitCount_0f7a4 : List (Nat × Nat) := []
def ca_J6_bitCount_0f7a4 {R' : Type} (F : Nat) : List (Nat × cFn R') := []
theorem ca_J6_bitCount_0f7a4_ok {R' : Type} {q : cL} (hst : q.1.stackTraces = false) {D : Nat} (hD : 0 ≤ D) (F : Nat) : ∀ x ∈ (ca_J6_bitCount_0f7a4 (R' := R') F), 1 ≤ D ∧ ceS q RJ6 (D - 1) x.1 x.2 := fun _ h => absurd h List.not_mem_nil
def kd_J6_bitCount_0f7a4_24 (g : Int32 → cM → Option (Int32 × cM)) : cKf (Int32 × cM) := fun vs st M => (lI vs 0).bind fun x0 => match st with
  | [] => g x0 M
  | _ => none
theorem kf_J6_bitCount_0f7a4_24 {X : cCtx} {o : cO} {r : Int32 × cM} {g : Int32 → cM → Option (Int32 × cM)} (hg : ∀ x0 M, g x0 M = some r → WX X 1 o 24 [some (.int x0)] [] M) : ∀ vs st M, kd_J6_bitCount_0f7a4_24 g vs st M = some r → WX X 1 o 24 vs st M := by
  intro vs st M h
  unfold kd_J6_bitCount_0f7a4_24 at h
  obtain ⟨x0, h0, h⟩ := Option.bind_eq_some_iff.mp h
  split at h
  · exact WX_weak (hg _ _ h) rfl ⟨lI_of h0, trivial⟩
  · cases h
theorem e_J6_bitCount_0f7a4_24 (F : Nat) (x0 : Int32) (M : cM) : b_J6_bitCount_0f7a4_24 F x0 M = run T_J6_bitCount_0f7a4 P_RJ6 false 0 (naL na_J6_bitCount_0f7a4) (caL (ca_J6_bitCount_0f7a4 F)) (lkN th_J6_bitCount_0f7a4) (lkN sw_J6_bitCount_0f7a4) krI kxN (spL []) (KL []) 45 24 [some (.int x0)] [] M := rfl
theorem ok_J6_bitCount_0f7a4_24 {X : cCtx} {D : Nat} {r : Int32 × cM} (G : FX X 1 (eI r) cJ6_bitCount_0f7a4 RJ6 0 D) {F : Nat} (hca : ∀ x ∈ (ca_J6_bitCount_0f7a4 (R' := Int32 × cM) F), 1 ≤ D ∧ ceS X.1 RJ6 (D - 1) x.1 x.2) : ∀ x0 M, f_J6_bitCount_0f7a4_24 F x0 M = some r → WX X 1 (eI r) 24 [some (.int x0)] [] M := by
  intro x0 M h
  exact seg_ok G P_RJ6_ok T_J6_bitCount_0f7a4_ok hca (fun _ h => absurd h List.not_mem_nil) sw_J6_bitCount_0f7a4_ok krI_ok (kxN_ok (f := eI)) (fun _ h => absurd h List.not_mem_nil) ((e_J6_bitCount_0f7a4_24 F x0 M).symm.trans h)
theorem e_J6_bitCount_0f7a4_0 (F : Nat) (t24 : Int32 → cM → Option (Int32 × cM)) (x0 : Int32) (M : cM) : b_J6_bitCount_0f7a4_0 F t24 x0 M = run T_J6_bitCount_0f7a4 P_RJ6 false 0 (naL na_J6_bitCount_0f7a4) (caL (ca_J6_bitCount_0f7a4 F)) (lkN th_J6_bitCount_0f7a4) (lkN sw_J6_bitCount_0f7a4) krI kxN (spL [24]) (KL [(24, kd_J6_bitCount_0f7a4_24 t24)]) 45 0 [some (.int x0)] [] M := rfl
theorem ok_J6_bitCount_0f7a4_0 {X : cCtx} {D : Nat} {r : Int32 × cM} (G : FX X 1 (eI r) cJ6_bitCount_0f7a4 RJ6 0 D) {F : Nat} (hca : ∀ x ∈ (ca_J6_bitCount_0f7a4 (R' := Int32 × cM) F), 1 ≤ D ∧ ceS X.1 RJ6 (D - 1) x.1 x.2) : ∀ x0 M, f_J6_bitCount_0f7a4_0 F x0 M = some r → WX X 1 (eI r) 0 [some (.int x0)] [] M := by
  intro x0 M h
  exact seg_ok G P_RJ6_ok T_J6_bitCount_0f7a4_ok hca (fun _ h => absurd h List.not_mem_nil) sw_J6_bitCount_0f7a4_ok krI_ok (kxN_ok (f := eI)) (List.forall_mem_cons.mpr ⟨kf_J6_bitCount_0f7a4_24 (ok_J6_bitCount_0f7a4_24 G hca), fun _ h => absurd h List.not_mem_nil⟩) ((e_J6_bitCount_0f7a4_0 F (f_J6_bitCount_0f7a4_24 F) x0 M).symm.trans h)
theorem c_J6_bitCount_0f7a4 {q : cL} (hst : q.1.stackTraces = false) {D : Nat} (hD : 0 ≤ D) (F : Nat) (a0 : Int32) (M : cM) (r : Int32 × cM) (h : f_J6_bitCount_0f7a4 F a0 M = some r) : CTx q yJ6_bitCount_0f7a4 (.code yJ6_bitCount_0f7a4 cJ6_bitCount_0f7a4 1 (some .int)) D [.int a0] M (eI r) := by
  exact CTx_of (own := RJ6) (rk := 0) hst (by decide +kernel) rfl (rfl) (Nat.le_of_ble_eq_true rfl) (fun X hX G => by subst hX; exact ok_J6_bitCount_0f7a4_0 G (ca_J6_bitCount_0f7a4_ok hst hD F) a0 M h)
def n_J6_bitCount_0f7a4 {R' : Type} (f : Int32 → cM → Option (Int32 × cM)) : cFn R' := fun as M κ κx => match as with
  | [.int a0] => (f a0 M).bind fun p => κ (some (.int p.1)) p.2
  | _ => none
theorem w_J6_bitCount_0f7a4 : ∀ w ∈ [Cond.static yJ6_bitCount_0f7a4, .initialized yJ6_bitCount_0f7a4.cls, .code yJ6_bitCount_0f7a4 cJ6_bitCount_0f7a4 1 (some .int)], w ∈ lw_good := List.forall_mem_cons.mpr ⟨lw_good_of (tb_ok 566 (by decide +kernel)) rfl, List.forall_mem_cons.mpr ⟨lw_good_of (tb_ok 18 (by decide +kernel)) rfl, List.forall_mem_cons.mpr ⟨lw_good_of (tb_ok 567 (by decide +kernel)) rfl, fun _ h => absurd h List.not_mem_nil⟩⟩⟩
theorem n_J6_bitCount_0f7a4_ok {R' : Type} {q : cL} {own : String} {d k : Nat} {f : Int32 → cM → Option (Int32 × cM)} (hl : Cond.methodLink own k yJ6_bitCount_0f7a4 ∈ lw_good) (hf : ∀ a0 M r, f a0 M = some r → CTx q yJ6_bitCount_0f7a4 (.code yJ6_bitCount_0f7a4 cJ6_bitCount_0f7a4 1 (some .int)) d [.int a0] M (eI r)) : ceS q own d (3 * k) (n_J6_bitCount_0f7a4 (R' := R') f) := by
  intro as M κ κx r h
  unfold n_J6_bitCount_0f7a4 at h
  split at h
  · obtain ⟨p, h1, h2⟩ := Option.bind_eq_some_iff.mp h
    exact ⟨eI p, fun _ => h2, fun hne => absurd rfl hne, Or.inl ⟨yJ6_bitCount_0f7a4, cJ6_bitCount_0f7a4, 1, (some .int), k, 1, rfl, hf _ _ _ h1, List.forall_mem_cons.mpr ⟨hl, w_J6_bitCount_0f7a4⟩, ⟨by decide +kernel, by decide +kernel, by decide +kernel⟩, rfl, by decide⟩⟩
  · cases h
-- PatchbayScript$Finder.heavier(JI)J
def T_X2_heavier : List cRow := [(0, .lconst 0, 1, 0), (1, .lstore_n 3, 2, 0), (2, .iconst 0, 3, 0), (3, .istore 5, 5, 0), (5, .lload_n 0, 6, 0), (6, .lconst 0, 7, 0), (7, .lcmp, 8, 0), (8, .ifCond .eq 32, 11, 40), (11, .iload 5, 13, 0), (13, .bipush 12, 15, 0), (15, .if_icmp .gt 25, 18, 40), (18, .iload_n 2, 19, 0), (19, .iload 5, 21, 0), (21, .ishr, 22, 0), (22, .iconst 1, 23, 0), (23, .iand, 24, 0), (24, .ifCond .eq 10, 27, 34), (27, .lload_n 3, 28, 0), (28, .lload_n 0, 29, 0), (29, .iload 5, 31, 0), (31, .lshl, 32, 0), (32, .lor, 33, 0), (33, .lstore_n 3, 34, 0), (34, .iinc 5 1, 37, 0), (37, .goto (-32), 40, 5), (40, .lload_n 3, 41, 0), (41, .lreturn, 42, 0)]
theorem T_X2_heavier_ok : T_X2_heavier.all (rowB cX2_heavier) = true := by decide +kernel
def th_X2_heavier : List (Nat × Nat) := []
def sw_X2_heavier : List (Nat × (List (Int32 × Nat) × Nat)) := []
theorem sw_X2_heavier_ok : ∀ q ∈ sw_X2_heavier, swS cX2_heavier q := fun _ h => absurd h List.not_mem_nil
def na_X2_heavier : List (Nat × Nat) := []
def ca_X2_heavier {R' : Type} (F : Nat) : List (Nat × cFn R') := []
theorem ca_X2_heavier_ok {R' : Type} {q : cL} (hst : q.1.stackTraces = false) {D : Nat} (hD : 0 ≤ D) (F : Nat) : ∀ x ∈ (ca_X2_heavier (R' := R') F), 1 ≤ D ∧ ceS q RX2 (D - 1) x.1 x.2 := fun _ h => absurd h List.not_mem_nil
def kd_X2_heavier_5 (g : Int64 → Int32 → Int64 → Int32 → cM → Option (Int64 × cM)) : cKf (Int64 × cM) := fun vs st M => (lJ vs 0).bind fun x0 => (lI vs 2).bind fun x2 => (lJ vs 3).bind fun x3 => (lI vs 5).bind fun x5 => match st with
  | [] => g x0 x2 x3 x5 M
  | _ => none
theorem kf_X2_heavier_5 {X : cCtx} {o : cO} {r : Int64 × cM} {g : Int64 → Int32 → Int64 → Int32 → cM → Option (Int64 × cM)} (hg : ∀ x0 x2 x3 x5 M, g x0 x2 x3 x5 M = some r → WX X 6 o 5 [some (.long x0), none, some (.int x2), some (.long x3), none, some (.int x5)] [] M) : ∀ vs st M, kd_X2_heavier_5 g vs st M = some r → WX X 6 o 5 vs st M := by
  intro vs st M h
  unfold kd_X2_heavier_5 at h
  obtain ⟨x0, h0, h⟩ := Option.bind_eq_some_iff.mp h
  obtain ⟨x2, h2, h⟩ := Option.bind_eq_some_iff.mp h
  obtain ⟨x3, h3, h⟩ := Option.bind_eq_some_iff.mp h
  obtain ⟨x5, h5, h⟩ := Option.bind_eq_some_iff.mp h
  split at h
  · exact WX_weak (hg _ _ _ _ _ h) rfl ⟨lJ_of h0, lI_of h2, lJ_of h3, lI_of h5, trivial⟩
  · cases h
theorem e_X2_heavier_5 (F : Nat) (t5 : Int64 → Int32 → Int64 → Int32 → cM → Option (Int64 × cM)) (x0 : Int64) (x2 : Int32) (x3 : Int64) (x5 : Int32) (M : cM) : b_X2_heavier_5 F t5 x0 x2 x3 x5 M = run T_X2_heavier P_RX2 false 3 (naL na_X2_heavier) (caL (ca_X2_heavier F)) (lkN th_X2_heavier) (lkN sw_X2_heavier) krJ kxN (spL [5]) (KL [(5, kd_X2_heavier_5 t5)]) 30 5 [some (.long x0), none, some (.int x2), some (.long x3), none, some (.int x5)] [] M := rfl
theorem ok_X2_heavier_5 {X : cCtx} {D : Nat} {r : Int64 × cM} (G : FX X 6 (eJ r) cX2_heavier RX2 3 D) {F : Nat} (hca : ∀ x ∈ (ca_X2_heavier (R' := Int64 × cM) F), 1 ≤ D ∧ ceS X.1 RX2 (D - 1) x.1 x.2) (n : Nat) : ∀ x0 x2 x3 x5 M, f_X2_heavier_5 F n x0 x2 x3 x5 M = some r → WX X 6 (eJ r) 5 [some (.long x0), none, some (.int x2), some (.long x3), none, some (.int x5)] [] M := by
  induction n with
  | zero => intro x0 x2 x3 x5 M h; cases h
  | succ n ih =>
    intro x0 x2 x3 x5 M h
    exact seg_ok G P_RX2_ok T_X2_heavier_ok hca (fun _ h => absurd h List.not_mem_nil) sw_X2_heavier_ok krJ_ok (kxN_ok (f := eJ)) (List.forall_mem_cons.mpr ⟨kf_X2_heavier_5 (ih), fun _ h => absurd h List.not_mem_nil⟩) ((e_X2_heavier_5 F (f_X2_heavier_5 F n) x0 x2 x3 x5 M).symm.trans h)
theorem e_X2_heavier_0 (F : Nat) (t5 : Int64 → Int32 → Int64 → Int32 → cM → Option (Int64 × cM)) (x0 : Int64) (x2 : Int32) (M : cM) : b_X2_heavier_0 F t5 x0 x2 M = run T_X2_heavier P_RX2 false 3 (naL na_X2_heavier) (caL (ca_X2_heavier F)) (lkN th_X2_heavier) (lkN sw_X2_heavier) krJ kxN (spL [5]) (KL [(5, kd_X2_heavier_5 t5)]) 30 0 [some (.long x0), none, some (.int x2), none, none, none] [] M := rfl
theorem ok_X2_heavier_0 {X : cCtx} {D : Nat} {r : Int64 × cM} (G : FX X 6 (eJ r) cX2_heavier RX2 3 D) {F : Nat} (hca : ∀ x ∈ (ca_X2_heavier (R' := Int64 × cM) F), 1 ≤ D ∧ ceS X.1 RX2 (D - 1) x.1 x.2) : ∀ x0 x2 M, f_X2_heavier_0 F x0 x2 M = some r → WX X 6 (eJ r) 0 [some (.long x0), none, some (.int x2), none, none, none] [] M := by
  intro x0 x2 M h
  exact seg_ok G P_RX2_ok T_X2_heavier_ok hca (fun _ h => absurd h List.not_mem_nil) sw_X2_heavier_ok krJ_ok (kxN_ok (f := eJ)) (List.forall_mem_cons.mpr ⟨kf_X2_heavier_5 (ok_X2_heavier_5 G hca F), fun _ h => absurd h List.not_mem_nil⟩) ((e_X2_heavier_0 F (f_X2_heavier_5 F F) x0 x2 M).symm.trans h)
theorem c_X2_heavier {q : cL} (hst : q.1.stackTraces = false) {D : Nat} (hD : 0 ≤ D) (F : Nat) (a0 : Int64) (a1 : Int32) (M : cM) (r : Int64 × cM) (h : f_X2_heavier F a0 a1 M = some r) : CTx q yX2_heavier (.code yX2_heavier cX2_heavier 6 (some .long)) D [.long a0, .int a1] M (eJ r) := by
  exact CTx_of (own := RX2) (rk := 3) hst (by decide +kernel) rfl (rfl) (Nat.le_of_ble_eq_true rfl) (fun X hX G => by subst hX; exact ok_X2_heavier_0 G (ca_X2_heavier_ok hst hD F) a0 a1 M h)
def n_X2_heavier {R' : Type} (f : Int64 → Int32 → cM → Option (Int64 × cM)) : cFn R' := fun as M κ κx => match as with
  | [.long a0, .int a1] => (f a0 a1 M).bind fun p => κ (some (.long p.1)) p.2
  | _ => none
theorem w_X2_heavier : ∀ w ∈ [Cond.static yX2_heavier, .initialized yX2_heavier.cls, .code yX2_heavier cX2_heavier 6 (some .long)], w ∈ lw_good := List.forall_mem_cons.mpr ⟨lw_good_of (tb_ok 900 (by decide +kernel)) rfl, List.forall_mem_cons.mpr ⟨lw_good_of (tb_ok 8 (by decide +kernel)) rfl, List.forall_mem_cons.mpr ⟨lw_good_of (tb_ok 901 (by decide +kernel)) rfl, fun _ h => absurd h List.not_mem_nil⟩⟩⟩
theorem n_X2_heavier_ok {R' : Type} {q : cL} {own : String} {d k : Nat} {f : Int64 → Int32 → cM → Option (Int64 × cM)} (hl : Cond.methodLink own k yX2_heavier ∈ lw_good) (hf : ∀ a0 a1 M r, f a0 a1 M = some r → CTx q yX2_heavier (.code yX2_heavier cX2_heavier 6 (some .long)) d [.long a0, .int a1] M (eJ r)) : ceS q own d (3 * k) (n_X2_heavier (R' := R') f) := by
  intro as M κ κx r h
  unfold n_X2_heavier at h
  split at h
  · obtain ⟨p, h1, h2⟩ := Option.bind_eq_some_iff.mp h
    exact ⟨eJ p, fun _ => h2, fun hne => absurd rfl hne, Or.inl ⟨yX2_heavier, cX2_heavier, 6, (some .long), k, 2, rfl, hf _ _ _ _ h1, List.forall_mem_cons.mpr ⟨hl, w_X2_heavier⟩, ⟨by decide +kernel, by decide +kernel, by decide +kernel⟩, rfl, by decide⟩⟩
  · cases h
-- PatchbayScript$Finder.gatherAtomWays(IIII)V
def T_X2_gatherAtomWays : List cRow := [(0, .aload_n 0, 1, 0), (1, .getfield 26, 4, 0), (4, .getfield 160, 7, 0), (7, .iload_n 1, 8, 0), (8, .iaload, 9, 0), (9, .istore 5, 11, 0), (11, .aload_n 0, 12, 0), (12, .getfield 26, 15, 0), (15, .getfield 163, 18, 0), (18, .iload_n 1, 19, 0), (19, .iaload, 20, 0), (20, .istore 6, 22, 0), (22, .iload 5, 24, 0), (24, .invokestatic 166, 27, 0), (27, .istore 7, 29, 0), (29, .iload 7, 31, 0), (31, .ifCond .le 62, 34, 93), (34, .iload 5, 36, 0), (36, .iload 5, 38, 0), (38, .ineg, 39, 0), (39, .iand, 40, 0), (40, .istore 8, 42, 0), (42, .iload 8, 44, 0), (44, .iconst 1, 45, 0), (45, .isub, 46, 0), (46, .invokestatic 166, 49, 0), (49, .istore 9, 51, 0), (51, .iload 5, 53, 0), (53, .iload 8, 55, 0), (55, .isub, 56, 0), (56, .istore 5, 58, 0), (58, .aload_n 0, 59, 0), (59, .getfield 37, 62, 0), (62, .iload_n 3, 63, 0), (63, .iload 9, 65, 0), (65, .iadd, 66, 0), (66, .dup2, 67, 0), (67, .laload, 68, 0), (68, .aload_n 0, 69, 0), (69, .getfield 37, 72, 0), (72, .iload 4, 74, 0), (74, .iload 9, 76, 0), (76, .iadd, 77, 0), (77, .iload 6, 79, 0), (79, .iadd, 80, 0), (80, .laload, 81, 0), (81, .iload_n 2, 82, 0), (82, .invokestatic 171, 85, 0), (85, .lor, 86, 0), (86, .lastore, 87, 0), (87, .iinc 7 (-1), 90, 0), (90, .goto (-61), 93, 29), (93, .return_, 94, 0)]
theorem T_X2_gatherAtomWays_ok : T_X2_gatherAtomWays.all (rowB cX2_gatherAtomWays) = true := by decide +kernel
def th_X2_gatherAtomWays : List (Nat × Nat) := []
def sw_X2_gatherAtomWays : List (Nat × (List (Int32 × Nat) × Nat)) := []
theorem sw_X2_gatherAtomWays_ok : ∀ q ∈ sw_X2_gatherAtomWays, swS cX2_gatherAtomWays q := fun _ h => absurd h List.not_mem_nil
def na_X2_gatherAtomWays : List (Nat × Nat) := [(498, 1), (513, 2)]
def ca_X2_gatherAtomWays {R' : Type} (F : Nat) : List (Nat × cFn R') := [(498, n_J6_bitCount_0f7a4 (f_J6_bitCount_0f7a4 F)), (513, n_X2_heavier (f_X2_heavier F))]
theorem ca_X2_gatherAtomWays_ok {R' : Type} {q : cL} (hst : q.1.stackTraces = false) {D : Nat} (hD : 1 ≤ D) (F : Nat) : ∀ x ∈ (ca_X2_gatherAtomWays (R' := R') F), 1 ≤ D ∧ ceS q RX2 (D - 1) x.1 x.2 := List.forall_mem_cons.mpr ⟨⟨by omega, n_J6_bitCount_0f7a4_ok (k := 166) (lw_good_of (tb_ok 898 (by decide +kernel)) rfl) (fun a0 M r h => c_J6_bitCount_0f7a4 hst (by omega) F a0 M r h)⟩, List.forall_mem_cons.mpr ⟨⟨by omega, n_X2_heavier_ok (k := 171) (lw_good_of (tb_ok 899 (by decide +kernel)) rfl) (fun a0 a1 M r h => c_X2_heavier hst (by omega) F a0 a1 M r h)⟩, fun _ h => absurd h List.not_mem_nil⟩⟩
def kd_X2_gatherAtomWays_29 (g : Nat → Int32 → Int32 → Int32 → Int32 → Int32 → Int32 → cM → Option (cM)) : cKf (cM) := fun vs st M => (lR vs 0).bind fun x0 => (lI vs 2).bind fun x2 => (lI vs 3).bind fun x3 => (lI vs 4).bind fun x4 => (lI vs 5).bind fun x5 => (lI vs 6).bind fun x6 => (lI vs 7).bind fun x7 => match st with
  | [] => g x0 x2 x3 x4 x5 x6 x7 M
  | _ => none
theorem kf_X2_gatherAtomWays_29 {X : cCtx} {o : cO} {r : cM} {g : Nat → Int32 → Int32 → Int32 → Int32 → Int32 → Int32 → cM → Option (cM)} (hg : ∀ x0 x2 x3 x4 x5 x6 x7 M, g x0 x2 x3 x4 x5 x6 x7 M = some r → WX X 10 o 29 [some (.ref x0), none, some (.int x2), some (.int x3), some (.int x4), some (.int x5), some (.int x6), some (.int x7), none, none] [] M) : ∀ vs st M, kd_X2_gatherAtomWays_29 g vs st M = some r → WX X 10 o 29 vs st M := by
  intro vs st M h
  unfold kd_X2_gatherAtomWays_29 at h
  obtain ⟨x0, h0, h⟩ := Option.bind_eq_some_iff.mp h
  obtain ⟨x2, h2, h⟩ := Option.bind_eq_some_iff.mp h
  obtain ⟨x3, h3, h⟩ := Option.bind_eq_some_iff.mp h
  obtain ⟨x4, h4, h⟩ := Option.bind_eq_some_iff.mp h
  obtain ⟨x5, h5, h⟩ := Option.bind_eq_some_iff.mp h
  obtain ⟨x6, h6, h⟩ := Option.bind_eq_some_iff.mp h
  obtain ⟨x7, h7, h⟩ := Option.bind_eq_some_iff.mp h
  split at h
  · exact WX_weak (hg _ _ _ _ _ _ _ _ h) rfl ⟨lR_of h0, lI_of h2, lI_of h3, lI_of h4, lI_of h5, lI_of h6, lI_of h7, trivial⟩
  · cases h
theorem e_X2_gatherAtomWays_29 (F : Nat) (t29 : Nat → Int32 → Int32 → Int32 → Int32 → Int32 → Int32 → cM → Option (cM)) (x0 : Nat) (x2 : Int32) (x3 : Int32) (x4 : Int32) (x5 : Int32) (x6 : Int32) (x7 : Int32) (M : cM) : b_X2_gatherAtomWays_29 F t29 x0 x2 x3 x4 x5 x6 x7 M = run T_X2_gatherAtomWays P_RX2 false 5 (naL na_X2_gatherAtomWays) (caL (ca_X2_gatherAtomWays F)) (lkN th_X2_gatherAtomWays) (lkN sw_X2_gatherAtomWays) krV kxN (spL [29]) (KL [(29, kd_X2_gatherAtomWays_29 t29)]) 56 29 [some (.ref x0), none, some (.int x2), some (.int x3), some (.int x4), some (.int x5), some (.int x6), some (.int x7), none, none] [] M := rfl
theorem ok_X2_gatherAtomWays_29 {X : cCtx} {D : Nat} {r : cM} (G : FX X 10 (eV r) cX2_gatherAtomWays RX2 5 D) {F : Nat} (hca : ∀ x ∈ (ca_X2_gatherAtomWays (R' := cM) F), 1 ≤ D ∧ ceS X.1 RX2 (D - 1) x.1 x.2) (n : Nat) : ∀ x0 x2 x3 x4 x5 x6 x7 M, f_X2_gatherAtomWays_29 F n x0 x2 x3 x4 x5 x6 x7 M = some r → WX X 10 (eV r) 29 [some (.ref x0), none, some (.int x2), some (.int x3), some (.int x4), some (.int x5), some (.int x6), some (.int x7), none, none] [] M := by
  induction n with
  | zero => intro x0 x2 x3 x4 x5 x6 x7 M h; cases h
  | succ n ih =>
    intro x0 x2 x3 x4 x5 x6 x7 M h
    exact seg_ok G P_RX2_ok T_X2_gatherAtomWays_ok hca (fun _ h => absurd h List.not_mem_nil) sw_X2_gatherAtomWays_ok krV_ok (kxN_ok (f := eV)) (List.forall_mem_cons.mpr ⟨kf_X2_gatherAtomWays_29 (ih), fun _ h => absurd h List.not_mem_nil⟩) ((e_X2_gatherAtomWays_29 F (f_X2_gatherAtomWays_29 F n) x0 x2 x3 x4 x5 x6 x7 M).symm.trans h)
theorem e_X2_gatherAtomWays_0 (F : Nat) (t29 : Nat → Int32 → Int32 → Int32 → Int32 → Int32 → Int32 → cM → Option (cM)) (x0 : Nat) (x1 : Int32) (x2 : Int32) (x3 : Int32) (x4 : Int32) (M : cM) : b_X2_gatherAtomWays_0 F t29 x0 x1 x2 x3 x4 M = run T_X2_gatherAtomWays P_RX2 false 5 (naL na_X2_gatherAtomWays) (caL (ca_X2_gatherAtomWays F)) (lkN th_X2_gatherAtomWays) (lkN sw_X2_gatherAtomWays) krV kxN (spL [29]) (KL [(29, kd_X2_gatherAtomWays_29 t29)]) 56 0 [some (.ref x0), some (.int x1), some (.int x2), some (.int x3), some (.int x4), none, none, none, none, none] [] M := rfl
theorem ok_X2_gatherAtomWays_0 {X : cCtx} {D : Nat} {r : cM} (G : FX X 10 (eV r) cX2_gatherAtomWays RX2 5 D) {F : Nat} (hca : ∀ x ∈ (ca_X2_gatherAtomWays (R' := cM) F), 1 ≤ D ∧ ceS X.1 RX2 (D - 1) x.1 x.2) : ∀ x0 x1 x2 x3 x4 M, f_X2_gatherAtomWays_0 F x0 x1 x2 x3 x4 M = some r → WX X 10 (eV r) 0 [some (.ref x0), some (.int x1), some (.int x2), some (.int x3), some (.int x4), none, none, none, none, none] [] M := by
  intro x0 x1 x2 x3 x4 M h
  exact seg_ok G P_RX2_ok T_X2_gatherAtomWays_ok hca (fun _ h => absurd h List.not_mem_nil) sw_X2_gatherAtomWays_ok krV_ok (kxN_ok (f := eV)) (List.forall_mem_cons.mpr ⟨kf_X2_gatherAtomWays_29 (ok_X2_gatherAtomWays_29 G hca F), fun _ h => absurd h List.not_mem_nil⟩) ((e_X2_gatherAtomWays_0 F (f_X2_gatherAtomWays_29 F F) x0 x1 x2 x3 x4 M).symm.trans h)
theorem c_X2_gatherAtomWays {q : cL} (hst : q.1.stackTraces = false) {D : Nat} (hD : 1 ≤ D) (F : Nat) (a0 : Nat) (a1 : Int32) (a2 : Int32) (a3 : Int32) (a4 : Int32) (M : cM) (r : cM) (h : f_X2_gatherAtomWays F a0 a1 a2 a3 a4 M = some r) : CTx q yX2_gatherAtomWays (.code yX2_gatherAtomWays cX2_gatherAtomWays 10 none) D [.ref a0, .int a1, .int a2, .int a3, .int a4] M (eV r) ∧ ∃ fs, M[a0]? = some (.inr (1, fs)) := by
  unfold f_X2_gatherAtomWays at h
  split at h
  · next hi => exact ⟨CTx_of (own := RX2) (rk := 5) hst (by decide +kernel) rfl (rfl) (Nat.le_of_ble_eq_true rfl) (fun X hX G => by subst hX; exact ok_X2_gatherAtomWays_0 G (ca_X2_gatherAtomWays_ok hst hD F) a0 a1 a2 a3 a4 M h), isC_of hi⟩
  · cases h
def n_X2_gatherAtomWays {R' : Type} (f : Nat → Int32 → Int32 → Int32 → Int32 → cM → Option (cM)) : cFn R' := fun as M κ κx => match as with
  | [.ref a0, .int a1, .int a2, .int a3, .int a4] => (f a0 a1 a2 a3 a4 M).bind fun p => κ none p
  | _ => none
theorem w_X2_gatherAtomWays : ∀ w ∈ [Cond.instanceMethod yX2_gatherAtomWays, .selects yX2_gatherAtomWays.cls yX2_gatherAtomWays yX2_gatherAtomWays, .initialized yX2_gatherAtomWays.cls, .code yX2_gatherAtomWays cX2_gatherAtomWays 10 none], w ∈ lw_good := List.forall_mem_cons.mpr ⟨lw_good_of (tb_ok 896 (by decide +kernel)) rfl, List.forall_mem_cons.mpr ⟨lw_good_of (ts_ok 18 (by decide +kernel)) rfl, List.forall_mem_cons.mpr ⟨lw_good_of (tb_ok 8 (by decide +kernel)) rfl, List.forall_mem_cons.mpr ⟨lw_good_of (tb_ok 897 (by decide +kernel)) rfl, fun _ h => absurd h List.not_mem_nil⟩⟩⟩⟩
theorem n_X2_gatherAtomWays_ok {R' : Type} {q : cL} {own : String} {d k : Nat} {f : Nat → Int32 → Int32 → Int32 → Int32 → cM → Option (cM)} (hl : Cond.methodLink own k yX2_gatherAtomWays ∈ lw_good) (hf : ∀ a0 a1 a2 a3 a4 M r, f a0 a1 a2 a3 a4 M = some r → CTx q yX2_gatherAtomWays (.code yX2_gatherAtomWays cX2_gatherAtomWays 10 none) d [.ref a0, .int a1, .int a2, .int a3, .int a4] M (eV r) ∧ ∃ fs, M[a0]? = some (.inr (1, fs))) : ceS q own d (3 * k + 1) (n_X2_gatherAtomWays (R' := R') f) := by
  intro as M κ κx r h
  unfold n_X2_gatherAtomWays at h
  split at h
  · obtain ⟨p, h1, h2⟩ := Option.bind_eq_some_iff.mp h
    obtain ⟨hc, fs, ha⟩ := hf _ _ _ _ _ _ _ h1
    exact ⟨eV p, fun _ => h2, fun hne => absurd rfl hne, Or.inr (Or.inl ⟨yX2_gatherAtomWays, cX2_gatherAtomWays, 10, none, k, 4, _, _, 1, TX2, 14, fs, rfl, rfl, hc, ha, rfl, List.forall_mem_cons.mpr ⟨hl, w_X2_gatherAtomWays⟩, ⟨rfl, by decide +kernel, by decide +kernel, by decide +kernel⟩, rfl, by decide⟩)⟩
  · cases h
-- PatchbayScript$Finder.gatherLayer(III)V
def T_X2_gatherLayer : List cRow := [(0, .iconst 0, 1, 0), (1, .istore 4, 3, 0), (3, .iload 4, 5, 0), (5, .aload_n 0, 6, 0), (6, .getfield 26, 9, 0), (9, .getfield 109, 12, 0), (12, .if_icmp .ge 189, 15, 201), (15, .iload_n 1, 16, 0), (16, .iconst 4, 17, 0), (17, .imul, 18, 0), (18, .iload 4, 20, 0), (20, .iadd, 21, 0), (21, .bipush 21, 23, 0), (23, .imul, 24, 0), (24, .istore 5, 26, 0), (26, .iload_n 2, 27, 0), (27, .iconst 4, 28, 0), (28, .imul, 29, 0), (29, .iload 4, 31, 0), (31, .iadd, 32, 0), (32, .bipush 21, 34, 0), (34, .imul, 35, 0), (35, .istore 6, 37, 0), (37, .iconst 0, 38, 0), (38, .istore 7, 40, 0), (40, .iload 7, 42, 0), (42, .bipush 21, 44, 0), (44, .if_icmp .ge 20, 47, 64), (47, .aload_n 0, 48, 0), (48, .getfield 37, 51, 0), (51, .iload 5, 53, 0), (53, .iload 7, 55, 0), (55, .iadd, 56, 0), (56, .lconst 0, 57, 0), (57, .lastore, 58, 0), (58, .iinc 7 1, 61, 0), (61, .goto (-21), 64, 40), (64, .aload_n 0, 65, 0), (65, .iload 4, 67, 0), (67, .iload 5, 69, 0), (69, .iload 6, 71, 0), (71, .aload_n 0, 72, 0), (72, .getfield 30, 75, 0), (75, .iload_n 3, 76, 0), (76, .iaload, 77, 0), (77, .invokevirtual 128, 80, 0), (80, .aload_n 0, 81, 0), (81, .getfield 34, 84, 0), (84, .iload_n 3, 85, 0), (85, .iaload, 86, 0), (86, .iconst (-1), 87, 0), (87, .if_icmp .eq 44, 90, 131), (90, .iconst 1, 91, 0), (91, .aload_n 0, 92, 0), (92, .getfield 26, 95, 0), (95, .getfield 132, 98, 0), (98, .aload_n 0, 99, 0), (99, .getfield 34, 102, 0), (102, .iload_n 3, 103, 0), (103, .iaload, 104, 0), (104, .iaload, 105, 0), (105, .iconst 4, 106, 0), (106, .isub, 107, 0), (107, .ishl, 108, 0), (108, .istore 7, 110, 0), (110, .aload_n 0, 111, 0), (111, .aload_n 0, 112, 0), (112, .getfield 34, 115, 0), (115, .iload_n 3, 116, 0), (116, .iaload, 117, 0), (117, .iconst 4, 118, 0), (118, .imul, 119, 0), (119, .iload 4, 121, 0), (121, .iadd, 122, 0), (122, .iload 7, 124, 0), (124, .iload 5, 126, 0), (126, .iload 6, 128, 0), (128, .invokevirtual 135, 131, 0), (131, .iconst 0, 132, 0), (132, .istore 7, 134, 0), (134, .iload 7, 136, 0), (136, .aload_n 0, 137, 0), (137, .getfield 26, 140, 0), (140, .getfield 138, 143, 0), (143, .if_icmp .ge 52, 146, 195), (146, .aload_n 0, 147, 0), (147, .getfield 30, 150, 0), (150, .iload_n 3, 151, 0), (151, .iaload, 152, 0), (152, .iconst (-1), 153, 0), (153, .if_icmp .ne 42, 156, 195), (156, .aload_n 0, 157, 0), (157, .aload_n 0, 158, 0), (158, .getfield 26, 161, 0), (161, .getfield 141, 164, 0), (164, .iload 7, 166, 0), (166, .iaload, 167, 0), (167, .iconst 4, 168, 0), (168, .imul, 169, 0), (169, .iload 4, 171, 0), (171, .iadd, 172, 0), (172, .aload_n 0, 173, 0), (173, .getfield 26, 176, 0), (176, .getfield 144, 179, 0), (179, .iload 7, 181, 0), (181, .iaload, 182, 0), (182, .iload 5, 184, 0), (184, .iload 6, 186, 0), (186, .invokevirtual 135, 189, 0), (189, .iinc 7 1, 192, 0), (192, .goto (-58), 195, 134), (195, .iinc 4 1, 198, 0), (198, .goto (-195), 201, 3), (201, .return_, 202, 0)]
theorem T_X2_gatherLayer_ok : T_X2_gatherLayer.all (rowB cX2_gatherLayer) = true := by decide +kernel
def th_X2_gatherLayer : List (Nat × Nat) := []
def sw_X2_gatherLayer : List (Nat × (List (Int32 × Nat) × Nat)) := []
theorem sw_X2_gatherLayer_ok : ∀ q ∈ sw_X2_gatherLayer, swS cX2_gatherLayer q := fun _ h => absurd h List.not_mem_nil
def na_X2_gatherLayer : List (Nat × Nat) := [(385, 5), (406, 5)]
def ca_X2_gatherLayer {R' : Type} (F : Nat) : List (Nat × cFn R') := [(385, n_X2_gatherConstWays (f_X2_gatherConstWays F)), (406, n_X2_gatherAtomWays (f_X2_gatherAtomWays F))]
theorem ca_X2_gatherLayer_ok {R' : Type} {q : cL} (hst : q.1.stackTraces = false) {D : Nat} (hD : 2 ≤ D) (F : Nat) : ∀ x ∈ (ca_X2_gatherLayer (R' := R') F), 1 ≤ D ∧ ceS q RX2 (D - 1) x.1 x.2 := List.forall_mem_cons.mpr ⟨⟨by omega, n_X2_gatherConstWays_ok (k := 128) (lw_good_of (tb_ok 887 (by decide +kernel)) rfl) (fun a0 a1 a2 a3 a4 M r h => c_X2_gatherConstWays hst (by omega) F a0 a1 a2 a3 a4 M r h)⟩, List.forall_mem_cons.mpr ⟨⟨by omega, n_X2_gatherAtomWays_ok (k := 135) (lw_good_of (tb_ok 894 (by decide +kernel)) rfl) (fun a0 a1 a2 a3 a4 M r h => c_X2_gatherAtomWays hst (by omega) F a0 a1 a2 a3 a4 M r h)⟩, fun _ h => absurd h List.not_mem_nil⟩⟩
def kd_X2_gatherLayer_3 (g : Nat → Int32 → Int32 → Int32 → Int32 → cM → Option (cM)) : cKf (cM) := fun vs st M => (lR vs 0).bind fun x0 => (lI vs 1).bind fun x1 => (lI vs 2).bind fun x2 => (lI vs 3).bind fun x3 => (lI vs 4).bind fun x4 => match st with
  | [] => g x0 x1 x2 x3 x4 M
  | _ => none
theorem kf_X2_gatherLayer_3 {X : cCtx} {o : cO} {r : cM} {g : Nat → Int32 → Int32 → Int32 → Int32 → cM → Option (cM)} (hg : ∀ x0 x1 x2 x3 x4 M, g x0 x1 x2 x3 x4 M = some r → WX X 8 o 3 [some (.ref x0), some (.int x1), some (.int x2), some (.int x3), some (.int x4), none, none, none] [] M) : ∀ vs st M, kd_X2_gatherLayer_3 g vs st M = some r → WX X 8 o 3 vs st M := by
  intro vs st M h
  unfold kd_X2_gatherLayer_3 at h
  obtain ⟨x0, h0, h⟩ := Option.bind_eq_some_iff.mp h
  obtain ⟨x1, h1, h⟩ := Option.bind_eq_some_iff.mp h
  obtain ⟨x2, h2, h⟩ := Option.bind_eq_some_iff.mp h
  obtain ⟨x3, h3, h⟩ := Option.bind_eq_some_iff.mp h
  obtain ⟨x4, h4, h⟩ := Option.bind_eq_some_iff.mp h
  split at h
  · exact WX_weak (hg _ _ _ _ _ _ h) rfl ⟨lR_of h0, lI_of h1, lI_of h2, lI_of h3, lI_of h4, trivial⟩
  · cases h
def kd_X2_gatherLayer_40 (g : Nat → Int32 → Int32 → Int32 → Int32 → Int32 → Int32 → Int32 → cM → Option (cM)) : cKf (cM) := fun vs st M => (lR vs 0).bind fun x0 => (lI vs 1).bind fun x1 => (lI vs 2).bind fun x2 => (lI vs 3).bind fun x3 => (lI vs 4).bind fun x4 => (lI vs 5).bind fun x5 => (lI vs 6).bind fun x6 => (lI vs 7).bind fun x7 => match st with
  | [] => g x0 x1 x2 x3 x4 x5 x6 x7 M
  | _ => none
theorem kf_X2_gatherLayer_40 {X : cCtx} {o : cO} {r : cM} {g : Nat → Int32 → Int32 → Int32 → Int32 → Int32 → Int32 → Int32 → cM → Option (cM)} (hg : ∀ x0 x1 x2 x3 x4 x5 x6 x7 M, g x0 x1 x2 x3 x4 x5 x6 x7 M = some r → WX X 8 o 40 [some (.ref x0), some (.int x1), some (.int x2), some (.int x3), some (.int x4), some (.int x5), some (.int x6), some (.int x7)] [] M) : ∀ vs st M, kd_X2_gatherLayer_40 g vs st M = some r → WX X 8 o 40 vs st M := by
  intro vs st M h
  unfold kd_X2_gatherLayer_40 at h
  obtain ⟨x0, h0, h⟩ := Option.bind_eq_some_iff.mp h
  obtain ⟨x1, h1, h⟩ := Option.bind_eq_some_iff.mp h
  obtain ⟨x2, h2, h⟩ := Option.bind_eq_some_iff.mp h
  obtain ⟨x3, h3, h⟩ := Option.bind_eq_some_iff.mp h
  obtain ⟨x4, h4, h⟩ := Option.bind_eq_some_iff.mp h
  obtain ⟨x5, h5, h⟩ := Option.bind_eq_some_iff.mp h
  obtain ⟨x6, h6, h⟩ := Option.bind_eq_some_iff.mp h
  obtain ⟨x7, h7, h⟩ := Option.bind_eq_some_iff.mp h
  split at h
  · exact WX_weak (hg _ _ _ _ _ _ _ _ _ h) rfl ⟨lR_of h0, lI_of h1, lI_of h2, lI_of h3, lI_of h4, lI_of h5, lI_of h6, lI_of h7, trivial⟩
  · cases h
def kd_X2_gatherLayer_90 (g : Nat → Int32 → Int32 → Int32 → Int32 → Int32 → Int32 → cM → Option (cM)) : cKf (cM) := fun vs st M => (lR vs 0).bind fun x0 => (lI vs 1).bind fun x1 => (lI vs 2).bind fun x2 => (lI vs 3).bind fun x3 => (lI vs 4).bind fun x4 => (lI vs 5).bind fun x5 => (lI vs 6).bind fun x6 => match st with
  | [] => g x0 x1 x2 x3 x4 x5 x6 M
  | _ => none
theorem kf_X2_gatherLayer_90 {X : cCtx} {o : cO} {r : cM} {g : Nat → Int32 → Int32 → Int32 → Int32 → Int32 → Int32 → cM → Option (cM)} (hg : ∀ x0 x1 x2 x3 x4 x5 x6 M, g x0 x1 x2 x3 x4 x5 x6 M = some r → WX X 8 o 90 [some (.ref x0), some (.int x1), some (.int x2), some (.int x3), some (.int x4), some (.int x5), some (.int x6), none] [] M) : ∀ vs st M, kd_X2_gatherLayer_90 g vs st M = some r → WX X 8 o 90 vs st M := by
  intro vs st M h
  unfold kd_X2_gatherLayer_90 at h
  obtain ⟨x0, h0, h⟩ := Option.bind_eq_some_iff.mp h
  obtain ⟨x1, h1, h⟩ := Option.bind_eq_some_iff.mp h
  obtain ⟨x2, h2, h⟩ := Option.bind_eq_some_iff.mp h
  obtain ⟨x3, h3, h⟩ := Option.bind_eq_some_iff.mp h
  obtain ⟨x4, h4, h⟩ := Option.bind_eq_some_iff.mp h
  obtain ⟨x5, h5, h⟩ := Option.bind_eq_some_iff.mp h
  obtain ⟨x6, h6, h⟩ := Option.bind_eq_some_iff.mp h
  split at h
  · exact WX_weak (hg _ _ _ _ _ _ _ _ h) rfl ⟨lR_of h0, lI_of h1, lI_of h2, lI_of h3, lI_of h4, lI_of h5, lI_of h6, trivial⟩
  · cases h
def kd_X2_gatherLayer_134 (g : Nat → Int32 → Int32 → Int32 → Int32 → Int32 → Int32 → Int32 → cM → Option (cM)) : cKf (cM) := fun vs st M => (lR vs 0).bind fun x0 => (lI vs 1).bind fun x1 => (lI vs 2).bind fun x2 => (lI vs 3).bind fun x3 => (lI vs 4).bind fun x4 => (lI vs 5).bind fun x5 => (lI vs 6).bind fun x6 => (lI vs 7).bind fun x7 => match st with
  | [] => g x0 x1 x2 x3 x4 x5 x6 x7 M
  | _ => none
theorem kf_X2_gatherLayer_134 {X : cCtx} {o : cO} {r : cM} {g : Nat → Int32 → Int32 → Int32 → Int32 → Int32 → Int32 → Int32 → cM → Option (cM)} (hg : ∀ x0 x1 x2 x3 x4 x5 x6 x7 M, g x0 x1 x2 x3 x4 x5 x6 x7 M = some r → WX X 8 o 134 [some (.ref x0), some (.int x1), some (.int x2), some (.int x3), some (.int x4), some (.int x5), some (.int x6), some (.int x7)] [] M) : ∀ vs st M, kd_X2_gatherLayer_134 g vs st M = some r → WX X 8 o 134 vs st M := by
  intro vs st M h
  unfold kd_X2_gatherLayer_134 at h
  obtain ⟨x0, h0, h⟩ := Option.bind_eq_some_iff.mp h
  obtain ⟨x1, h1, h⟩ := Option.bind_eq_some_iff.mp h
  obtain ⟨x2, h2, h⟩ := Option.bind_eq_some_iff.mp h
  obtain ⟨x3, h3, h⟩ := Option.bind_eq_some_iff.mp h
  obtain ⟨x4, h4, h⟩ := Option.bind_eq_some_iff.mp h
  obtain ⟨x5, h5, h⟩ := Option.bind_eq_some_iff.mp h
  obtain ⟨x6, h6, h⟩ := Option.bind_eq_some_iff.mp h
  obtain ⟨x7, h7, h⟩ := Option.bind_eq_some_iff.mp h
  split at h
  · exact WX_weak (hg _ _ _ _ _ _ _ _ _ h) rfl ⟨lR_of h0, lI_of h1, lI_of h2, lI_of h3, lI_of h4, lI_of h5, lI_of h6, lI_of h7, trivial⟩
  · cases h
theorem e_X2_gatherLayer_134 (F : Nat) (t3 : Nat → Int32 → Int32 → Int32 → Int32 → cM → Option (cM)) (t134 : Nat → Int32 → Int32 → Int32 → Int32 → Int32 → Int32 → Int32 → cM → Option (cM)) (x0 : Nat) (x1 : Int32) (x2 : Int32) (x3 : Int32) (x4 : Int32) (x5 : Int32) (x6 : Int32) (x7 : Int32) (M : cM) : b_X2_gatherLayer_134 F t3 t134 x0 x1 x2 x3 x4 x5 x6 x7 M = run T_X2_gatherLayer P_RX2 false 5 (naL na_X2_gatherLayer) (caL (ca_X2_gatherLayer F)) (lkN th_X2_gatherLayer) (lkN sw_X2_gatherLayer) krV kxN (spL [3, 134]) (KL [(3, kd_X2_gatherLayer_3 t3), (134, kd_X2_gatherLayer_134 t134)]) 117 134 [some (.ref x0), some (.int x1), some (.int x2), some (.int x3), some (.int x4), some (.int x5), some (.int x6), some (.int x7)] [] M := rfl
theorem ok_X2_gatherLayer_134 {X : cCtx} {D : Nat} {r : cM} (G : FX X 8 (eV r) cX2_gatherLayer RX2 5 D) {F : Nat} (hca : ∀ x ∈ (ca_X2_gatherLayer (R' := cM) F), 1 ≤ D ∧ ceS X.1 RX2 (D - 1) x.1 x.2) (k3 : Nat → Int32 → Int32 → Int32 → Int32 → cM → Option (cM)) (hk3 : ∀ x0 x1 x2 x3 x4 M, k3 x0 x1 x2 x3 x4 M = some r → WX X 8 (eV r) 3 [some (.ref x0), some (.int x1), some (.int x2), some (.int x3), some (.int x4), none, none, none] [] M) (n : Nat) : ∀ x0 x1 x2 x3 x4 x5 x6 x7 M, f_X2_gatherLayer_134 F k3 n x0 x1 x2 x3 x4 x5 x6 x7 M = some r → WX X 8 (eV r) 134 [some (.ref x0), some (.int x1), some (.int x2), some (.int x3), some (.int x4), some (.int x5), some (.int x6), some (.int x7)] [] M := by
  induction n with
  | zero => intro x0 x1 x2 x3 x4 x5 x6 x7 M h; cases h
  | succ n ih =>
    intro x0 x1 x2 x3 x4 x5 x6 x7 M h
    exact seg_ok G P_RX2_ok T_X2_gatherLayer_ok hca (fun _ h => absurd h List.not_mem_nil) sw_X2_gatherLayer_ok krV_ok (kxN_ok (f := eV)) (List.forall_mem_cons.mpr ⟨kf_X2_gatherLayer_3 (hk3), List.forall_mem_cons.mpr ⟨kf_X2_gatherLayer_134 (ih), fun _ h => absurd h List.not_mem_nil⟩⟩) ((e_X2_gatherLayer_134 F (k3) (f_X2_gatherLayer_134 F k3 n) x0 x1 x2 x3 x4 x5 x6 x7 M).symm.trans h)
theorem e_X2_gatherLayer_90 (F : Nat) (t134 : Nat → Int32 → Int32 → Int32 → Int32 → Int32 → Int32 → Int32 → cM → Option (cM)) (x0 : Nat) (x1 : Int32) (x2 : Int32) (x3 : Int32) (x4 : Int32) (x5 : Int32) (x6 : Int32) (M : cM) : b_X2_gatherLayer_90 F t134 x0 x1 x2 x3 x4 x5 x6 M = run T_X2_gatherLayer P_RX2 false 5 (naL na_X2_gatherLayer) (caL (ca_X2_gatherLayer F)) (lkN th_X2_gatherLayer) (lkN sw_X2_gatherLayer) krV kxN (spL [134]) (KL [(134, kd_X2_gatherLayer_134 t134)]) 117 90 [some (.ref x0), some (.int x1), some (.int x2), some (.int x3), some (.int x4), some (.int x5), some (.int x6), none] [] M := rfl
theorem ok_X2_gatherLayer_90 {X : cCtx} {D : Nat} {r : cM} (G : FX X 8 (eV r) cX2_gatherLayer RX2 5 D) {F : Nat} (hca : ∀ x ∈ (ca_X2_gatherLayer (R' := cM) F), 1 ≤ D ∧ ceS X.1 RX2 (D - 1) x.1 x.2) (k3 : Nat → Int32 → Int32 → Int32 → Int32 → cM → Option (cM)) (hk3 : ∀ x0 x1 x2 x3 x4 M, k3 x0 x1 x2 x3 x4 M = some r → WX X 8 (eV r) 3 [some (.ref x0), some (.int x1), some (.int x2), some (.int x3), some (.int x4), none, none, none] [] M) : ∀ x0 x1 x2 x3 x4 x5 x6 M, f_X2_gatherLayer_90 F k3 x0 x1 x2 x3 x4 x5 x6 M = some r → WX X 8 (eV r) 90 [some (.ref x0), some (.int x1), some (.int x2), some (.int x3), some (.int x4), some (.int x5), some (.int x6), none] [] M := by
  intro x0 x1 x2 x3 x4 x5 x6 M h
  exact seg_ok G P_RX2_ok T_X2_gatherLayer_ok hca (fun _ h => absurd h List.not_mem_nil) sw_X2_gatherLayer_ok krV_ok (kxN_ok (f := eV)) (List.forall_mem_cons.mpr ⟨kf_X2_gatherLayer_134 (ok_X2_gatherLayer_134 G hca k3 hk3 F), fun _ h => absurd h List.not_mem_nil⟩) ((e_X2_gatherLayer_90 F (f_X2_gatherLayer_134 F k3 F) x0 x1 x2 x3 x4 x5 x6 M).symm.trans h)
theorem e_X2_gatherLayer_40 (F : Nat) (t40 : Nat → Int32 → Int32 → Int32 → Int32 → Int32 → Int32 → Int32 → cM → Option (cM)) (t90 : Nat → Int32 → Int32 → Int32 → Int32 → Int32 → Int32 → cM → Option (cM)) (t134 : Nat → Int32 → Int32 → Int32 → Int32 → Int32 → Int32 → Int32 → cM → Option (cM)) (x0 : Nat) (x1 : Int32) (x2 : Int32) (x3 : Int32) (x4 : Int32) (x5 : Int32) (x6 : Int32) (x7 : Int32) (M : cM) : b_X2_gatherLayer_40 F t40 t90 t134 x0 x1 x2 x3 x4 x5 x6 x7 M = run T_X2_gatherLayer P_RX2 false 5 (naL na_X2_gatherLayer) (caL (ca_X2_gatherLayer F)) (lkN th_X2_gatherLayer) (lkN sw_X2_gatherLayer) krV kxN (spL [40, 90, 134]) (KL [(40, kd_X2_gatherLayer_40 t40), (90, kd_X2_gatherLayer_90 t90), (134, kd_X2_gatherLayer_134 t134)]) 117 40 [some (.ref x0), some (.int x1), some (.int x2), some (.int x3), some (.int x4), some (.int x5), some (.int x6), some (.int x7)] [] M := rfl
theorem ok_X2_gatherLayer_40 {X : cCtx} {D : Nat} {r : cM} (G : FX X 8 (eV r) cX2_gatherLayer RX2 5 D) {F : Nat} (hca : ∀ x ∈ (ca_X2_gatherLayer (R' := cM) F), 1 ≤ D ∧ ceS X.1 RX2 (D - 1) x.1 x.2) (k3 : Nat → Int32 → Int32 → Int32 → Int32 → cM → Option (cM)) (hk3 : ∀ x0 x1 x2 x3 x4 M, k3 x0 x1 x2 x3 x4 M = some r → WX X 8 (eV r) 3 [some (.ref x0), some (.int x1), some (.int x2), some (.int x3), some (.int x4), none, none, none] [] M) (n : Nat) : ∀ x0 x1 x2 x3 x4 x5 x6 x7 M, f_X2_gatherLayer_40 F k3 n x0 x1 x2 x3 x4 x5 x6 x7 M = some r → WX X 8 (eV r) 40 [some (.ref x0), some (.int x1), some (.int x2), some (.int x3), some (.int x4), some (.int x5), some (.int x6), some (.int x7)] [] M := by
  induction n with
  | zero => intro x0 x1 x2 x3 x4 x5 x6 x7 M h; cases h
  | succ n ih =>
    intro x0 x1 x2 x3 x4 x5 x6 x7 M h
    exact seg_ok G P_RX2_ok T_X2_gatherLayer_ok hca (fun _ h => absurd h List.not_mem_nil) sw_X2_gatherLayer_ok krV_ok (kxN_ok (f := eV)) (List.forall_mem_cons.mpr ⟨kf_X2_gatherLayer_40 (ih), List.forall_mem_cons.mpr ⟨kf_X2_gatherLayer_90 (ok_X2_gatherLayer_90 G hca k3 hk3), List.forall_mem_cons.mpr ⟨kf_X2_gatherLayer_134 (ok_X2_gatherLayer_134 G hca k3 hk3 F), fun _ h => absurd h List.not_mem_nil⟩⟩⟩) ((e_X2_gatherLayer_40 F (f_X2_gatherLayer_40 F k3 n) (f_X2_gatherLayer_90 F k3) (f_X2_gatherLayer_134 F k3 F) x0 x1 x2 x3 x4 x5 x6 x7 M).symm.trans h)
theorem e_X2_gatherLayer_3 (F : Nat) (t40 : Nat → Int32 → Int32 → Int32 → Int32 → Int32 → Int32 → Int32 → cM → Option (cM)) (x0 : Nat) (x1 : Int32) (x2 : Int32) (x3 : Int32) (x4 : Int32) (M : cM) : b_X2_gatherLayer_3 F t40 x0 x1 x2 x3 x4 M = run T_X2_gatherLayer P_RX2 false 5 (naL na_X2_gatherLayer) (caL (ca_X2_gatherLayer F)) (lkN th_X2_gatherLayer) (lkN sw_X2_gatherLayer) krV kxN (spL [40]) (KL [(40, kd_X2_gatherLayer_40 t40)]) 117 3 [some (.ref x0), some (.int x1), some (.int x2), some (.int x3), some (.int x4), none, none, none] [] M := rfl
theorem ok_X2_gatherLayer_3 {X : cCtx} {D : Nat} {r : cM} (G : FX X 8 (eV r) cX2_gatherLayer RX2 5 D) {F : Nat} (hca : ∀ x ∈ (ca_X2_gatherLayer (R' := cM) F), 1 ≤ D ∧ ceS X.1 RX2 (D - 1) x.1 x.2) (n : Nat) : ∀ x0 x1 x2 x3 x4 M, f_X2_gatherLayer_3 F n x0 x1 x2 x3 x4 M = some r → WX X 8 (eV r) 3 [some (.ref x0), some (.int x1), some (.int x2), some (.int x3), some (.int x4), none, none, none] [] M := by
  induction n with
  | zero => intro x0 x1 x2 x3 x4 M h; cases h
  | succ n ih =>
    intro x0 x1 x2 x3 x4 M h
    exact seg_ok G P_RX2_ok T_X2_gatherLayer_ok hca (fun _ h => absurd h List.not_mem_nil) sw_X2_gatherLayer_ok krV_ok (kxN_ok (f := eV)) (List.forall_mem_cons.mpr ⟨kf_X2_gatherLayer_40 (ok_X2_gatherLayer_40 G hca (f_X2_gatherLayer_3 F n) ih F), fun _ h => absurd h List.not_mem_nil⟩) ((e_X2_gatherLayer_3 F (f_X2_gatherLayer_40 F (f_X2_gatherLayer_3 F n) F) x0 x1 x2 x3 x4 M).symm.trans h)
theorem e_X2_gatherLayer_0 (F : Nat) (t3 : Nat → Int32 → Int32 → Int32 → Int32 → cM → Option (cM)) (x0 : Nat) (x1 : Int32) (x2 : Int32) (x3 : Int32) (M : cM) : b_X2_gatherLayer_0 F t3 x0 x1 x2 x3 M = run T_X2_gatherLayer P_RX2 false 5 (naL na_X2_gatherLayer) (caL (ca_X2_gatherLayer F)) (lkN th_X2_gatherLayer) (lkN sw_X2_gatherLayer) krV kxN (spL [3]) (KL [(3, kd_X2_gatherLayer_3 t3)]) 117 0 [some (.ref x0), some (.int x1), some (.int x2), some (.int x3), none, none, none, none] [] M := rfl
theorem ok_X2_gatherLayer_0 {X : cCtx} {D : Nat} {r : cM} (G : FX X 8 (eV r) cX2_gatherLayer RX2 5 D) {F : Nat} (hca : ∀ x ∈ (ca_X2_gatherLayer (R' := cM) F), 1 ≤ D ∧ ceS X.1 RX2 (D - 1) x.1 x.2) : ∀ x0 x1 x2 x3 M, f_X2_gatherLayer_0 F x0 x1 x2 x3 M = some r → WX X 8 (eV r) 0 [some (.ref x0), some (.int x1), some (.int x2), some (.int x3), none, none, none, none] [] M := by
  intro x0 x1 x2 x3 M h
  exact seg_ok G P_RX2_ok T_X2_gatherLayer_ok hca (fun _ h => absurd h List.not_mem_nil) sw_X2_gatherLayer_ok krV_ok (kxN_ok (f := eV)) (List.forall_mem_cons.mpr ⟨kf_X2_gatherLayer_3 (ok_X2_gatherLayer_3 G hca F), fun _ h => absurd h List.not_mem_nil⟩) ((e_X2_gatherLayer_0 F (f_X2_gatherLayer_3 F F) x0 x1 x2 x3 M).symm.trans h)
theorem c_X2_gatherLayer {q : cL} (hst : q.1.stackTraces = false) {D : Nat} (hD : 2 ≤ D) (F : Nat) (a0 : Nat) (a1 : Int32) (a2 : Int32) (a3 : Int32) (M : cM) (r : cM) (h : f_X2_gatherLayer F a0 a1 a2 a3 M = some r) : CTx q yX2_gatherLayer (.code yX2_gatherLayer cX2_gatherLayer 8 none) D [.ref a0, .int a1, .int a2, .int a3] M (eV r) ∧ ∃ fs, M[a0]? = some (.inr (1, fs)) := by
  unfold f_X2_gatherLayer at h
  split at h
  · next hi => exact ⟨CTx_of (own := RX2) (rk := 5) hst (by decide +kernel) rfl (rfl) (Nat.le_of_ble_eq_true rfl) (fun X hX G => by subst hX; exact ok_X2_gatherLayer_0 G (ca_X2_gatherLayer_ok hst hD F) a0 a1 a2 a3 M h), isC_of hi⟩
  · cases h
def n_X2_gatherLayer {R' : Type} (f : Nat → Int32 → Int32 → Int32 → cM → Option (cM)) : cFn R' := fun as M κ κx => match as with
  | [.ref a0, .int a1, .int a2, .int a3] => (f a0 a1 a2 a3 M).bind fun p => κ none p
  | _ => none
theorem w_X2_gatherLayer : ∀ w ∈ [Cond.instanceMethod yX2_gatherLayer, .selects yX2_gatherLayer.cls yX2_gatherLayer yX2_gatherLayer, .initialized yX2_gatherLayer.cls, .code yX2_gatherLayer cX2_gatherLayer 8 none], w ∈ lw_good := List.forall_mem_cons.mpr ⟨lw_good_of (tb_ok 885 (by decide +kernel)) rfl, List.forall_mem_cons.mpr ⟨lw_good_of (ts_ok 16 (by decide +kernel)) rfl, List.forall_mem_cons.mpr ⟨lw_good_of (tb_ok 8 (by decide +kernel)) rfl, List.forall_mem_cons.mpr ⟨lw_good_of (tb_ok 886 (by decide +kernel)) rfl, fun _ h => absurd h List.not_mem_nil⟩⟩⟩⟩
theorem n_X2_gatherLayer_ok {R' : Type} {q : cL} {own : String} {d k : Nat} {f : Nat → Int32 → Int32 → Int32 → cM → Option (cM)} (hl : Cond.methodLink own k yX2_gatherLayer ∈ lw_good) (hf : ∀ a0 a1 a2 a3 M r, f a0 a1 a2 a3 M = some r → CTx q yX2_gatherLayer (.code yX2_gatherLayer cX2_gatherLayer 8 none) d [.ref a0, .int a1, .int a2, .int a3] M (eV r) ∧ ∃ fs, M[a0]? = some (.inr (1, fs))) : ceS q own d (3 * k + 1) (n_X2_gatherLayer (R' := R') f) := by
  intro as M κ κx r h
  unfold n_X2_gatherLayer at h
  split at h
  · obtain ⟨p, h1, h2⟩ := Option.bind_eq_some_iff.mp h
    obtain ⟨hc, fs, ha⟩ := hf _ _ _ _ _ _ h1
    exact ⟨eV p, fun _ => h2, fun hne => absurd rfl hne, Or.inr (Or.inl ⟨yX2_gatherLayer, cX2_gatherLayer, 8, none, k, 3, _, _, 1, TX2, 14, fs, rfl, rfl, hc, ha, rfl, List.forall_mem_cons.mpr ⟨hl, w_X2_gatherLayer⟩, ⟨rfl, by decide +kernel, by decide +kernel, by decide +kernel⟩, rfl, by decide⟩)⟩
  · cases h
