/-! METHODS, part 5 (laid by wip/whole/tools/gen.py) -/
-- PatchbayScript$Finder.gatherWays()V
def T_X2_gatherWays : List cRow := [(0, .iconst 0, 1, 0), (1, .istore_n 1, 2, 0), (2, .iload_n 1, 3, 0), (3, .aload_n 0, 4, 0), (4, .getfield 26, 7, 0), (7, .getfield 109, 10, 0), (10, .if_icmp .ge 65, 13, 75), (13, .aload_n 0, 14, 0), (14, .getfield 47, 17, 0), (17, .iload_n 1, 18, 0), (18, .iconst 0, 19, 0), (19, .iastore, 20, 0), (20, .iconst 0, 21, 0), (21, .istore_n 2, 22, 0), (22, .iload_n 2, 23, 0), (23, .bipush 21, 25, 0), (25, .if_icmp .ge 44, 28, 69), (28, .aload_n 0, 29, 0), (29, .getfield 37, 32, 0), (32, .iload_n 1, 33, 0), (33, .bipush 21, 35, 0), (35, .imul, 36, 0), (36, .iload_n 2, 37, 0), (37, .iadd, 38, 0), (38, .iload_n 2, 39, 0), (39, .aload_n 0, 40, 0), (40, .getfield 26, 43, 0), (43, .getfield 112, 46, 0), (46, .iload_n 1, 47, 0), (47, .aaload, 48, 0), (48, .getfield 115, 51, 0), (51, .getfield 118, 54, 0), (54, .if_icmp .ne 7, 57, 61), (57, .lconst 1, 58, 0), (58, .goto 4, 61, 62), (61, .lconst 0, 62, 0), (62, .lastore, 63, 0), (63, .iinc 2 1, 66, 0), (66, .goto (-44), 69, 22), (69, .iinc 1 1, 72, 0), (72, .goto (-70), 75, 2), (75, .iconst 1, 76, 0), (76, .istore_n 1, 77, 0), (77, .iload_n 1, 78, 0), (78, .iconst 4, 79, 0), (79, .if_icmp .gt 53, 82, 132), (82, .aload_n 0, 83, 0), (83, .getfield 82, 86, 0), (86, .ifCond .eq 9, 89, 95), (89, .iload_n 1, 90, 0), (90, .iconst 1, 91, 0), (91, .isub, 92, 0), (92, .goto 4, 95, 96), (95, .iconst 0, 96, 0), (96, .istore_n 2, 97, 0), (97, .iload_n 2, 98, 0), (98, .ifCond .lt 28, 101, 126), (101, .aload_n 0, 102, 0), (102, .aload_n 0, 103, 0), (103, .iload_n 1, 104, 0), (104, .iload_n 2, 105, 0), (105, .invokevirtual 121, 108, 0), (108, .aload_n 0, 109, 0), (109, .iload_n 1, 110, 0), (110, .iload_n 2, 111, 0), (111, .iconst 1, 112, 0), (112, .iadd, 113, 0), (113, .invokevirtual 121, 116, 0), (116, .iload_n 2, 117, 0), (117, .invokevirtual 125, 120, 0), (120, .iinc 2 (-1), 123, 0), (123, .goto (-26), 126, 97), (126, .iinc 1 1, 129, 0), (129, .goto (-52), 132, 77), (132, .return_, 133, 0)]
theorem T_X2_gatherWays_ok : T_X2_gatherWays.all (rowB cX2_gatherWays) = true := by decide +kernel
def th_X2_gatherWays : List (Nat × Nat) := []
def sw_X2_gatherWays : List (Nat × (List (Int32 × Nat) × Nat)) := []
theorem sw_X2_gatherWays_ok : ∀ q ∈ sw_X2_gatherWays, swS cX2_gatherWays q := fun _ h => absurd h List.not_mem_nil
def na_X2_gatherWays : List (Nat × Nat) := [(364, 3), (376, 4)]
def ca_X2_gatherWays {R' : Type} (F : Nat) : List (Nat × cFn R') := [(364, n_X2_layerOf (f_X2_layerOf F)), (376, n_X2_gatherLayer (f_X2_gatherLayer F))]
theorem ca_X2_gatherWays_ok {R' : Type} {q : cL} (hst : q.1.stackTraces = false) {D : Nat} (hD : 3 ≤ D) (F : Nat) : ∀ x ∈ (ca_X2_gatherWays (R' := R') F), 1 ≤ D ∧ ceS q RX2 (D - 1) x.1 x.2 := List.forall_mem_cons.mpr ⟨⟨by omega, n_X2_layerOf_ok (k := 121) (lw_good_of (tb_ok 879 (by decide +kernel)) rfl) (fun a0 a1 a2 M r h => c_X2_layerOf hst (by omega) F a0 a1 a2 M r h)⟩, List.forall_mem_cons.mpr ⟨⟨by omega, n_X2_gatherLayer_ok (k := 125) (lw_good_of (tb_ok 883 (by decide +kernel)) rfl) (fun a0 a1 a2 a3 M r h => c_X2_gatherLayer hst (by omega) F a0 a1 a2 a3 M r h)⟩, fun _ h => absurd h List.not_mem_nil⟩⟩
def kd_X2_gatherWays_2 (g : Nat → Int32 → cM → Option (cM)) : cKf (cM) := fun vs st M => (lR vs 0).bind fun x0 => (lI vs 1).bind fun x1 => match st with
  | [] => g x0 x1 M
  | _ => none
theorem kf_X2_gatherWays_2 {X : cCtx} {o : cO} {r : cM} {g : Nat → Int32 → cM → Option (cM)} (hg : ∀ x0 x1 M, g x0 x1 M = some r → WX X 3 o 2 [some (.ref x0), some (.int x1), none] [] M) : ∀ vs st M, kd_X2_gatherWays_2 g vs st M = some r → WX X 3 o 2 vs st M := by
  intro vs st M h
  unfold kd_X2_gatherWays_2 at h
  obtain ⟨x0, h0, h⟩ := Option.bind_eq_some_iff.mp h
  obtain ⟨x1, h1, h⟩ := Option.bind_eq_some_iff.mp h
  split at h
  · exact WX_weak (hg _ _ _ h) rfl ⟨lR_of h0, lI_of h1, trivial⟩
  · cases h
def kd_X2_gatherWays_22 (g : Nat → Int32 → Int32 → cM → Option (cM)) : cKf (cM) := fun vs st M => (lR vs 0).bind fun x0 => (lI vs 1).bind fun x1 => (lI vs 2).bind fun x2 => match st with
  | [] => g x0 x1 x2 M
  | _ => none
theorem kf_X2_gatherWays_22 {X : cCtx} {o : cO} {r : cM} {g : Nat → Int32 → Int32 → cM → Option (cM)} (hg : ∀ x0 x1 x2 M, g x0 x1 x2 M = some r → WX X 3 o 22 [some (.ref x0), some (.int x1), some (.int x2)] [] M) : ∀ vs st M, kd_X2_gatherWays_22 g vs st M = some r → WX X 3 o 22 vs st M := by
  intro vs st M h
  unfold kd_X2_gatherWays_22 at h
  obtain ⟨x0, h0, h⟩ := Option.bind_eq_some_iff.mp h
  obtain ⟨x1, h1, h⟩ := Option.bind_eq_some_iff.mp h
  obtain ⟨x2, h2, h⟩ := Option.bind_eq_some_iff.mp h
  split at h
  · exact WX_weak (hg _ _ _ _ h) rfl ⟨lR_of h0, lI_of h1, lI_of h2, trivial⟩
  · cases h
def kd_X2_gatherWays_77 (g : Nat → Int32 → cM → Option (cM)) : cKf (cM) := fun vs st M => (lR vs 0).bind fun x0 => (lI vs 1).bind fun x1 => match st with
  | [] => g x0 x1 M
  | _ => none
theorem kf_X2_gatherWays_77 {X : cCtx} {o : cO} {r : cM} {g : Nat → Int32 → cM → Option (cM)} (hg : ∀ x0 x1 M, g x0 x1 M = some r → WX X 3 o 77 [some (.ref x0), some (.int x1), none] [] M) : ∀ vs st M, kd_X2_gatherWays_77 g vs st M = some r → WX X 3 o 77 vs st M := by
  intro vs st M h
  unfold kd_X2_gatherWays_77 at h
  obtain ⟨x0, h0, h⟩ := Option.bind_eq_some_iff.mp h
  obtain ⟨x1, h1, h⟩ := Option.bind_eq_some_iff.mp h
  split at h
  · exact WX_weak (hg _ _ _ h) rfl ⟨lR_of h0, lI_of h1, trivial⟩
  · cases h
def kd_X2_gatherWays_97 (g : Nat → Int32 → Int32 → cM → Option (cM)) : cKf (cM) := fun vs st M => (lR vs 0).bind fun x0 => (lI vs 1).bind fun x1 => (lI vs 2).bind fun x2 => match st with
  | [] => g x0 x1 x2 M
  | _ => none
theorem kf_X2_gatherWays_97 {X : cCtx} {o : cO} {r : cM} {g : Nat → Int32 → Int32 → cM → Option (cM)} (hg : ∀ x0 x1 x2 M, g x0 x1 x2 M = some r → WX X 3 o 97 [some (.ref x0), some (.int x1), some (.int x2)] [] M) : ∀ vs st M, kd_X2_gatherWays_97 g vs st M = some r → WX X 3 o 97 vs st M := by
  intro vs st M h
  unfold kd_X2_gatherWays_97 at h
  obtain ⟨x0, h0, h⟩ := Option.bind_eq_some_iff.mp h
  obtain ⟨x1, h1, h⟩ := Option.bind_eq_some_iff.mp h
  obtain ⟨x2, h2, h⟩ := Option.bind_eq_some_iff.mp h
  split at h
  · exact WX_weak (hg _ _ _ _ h) rfl ⟨lR_of h0, lI_of h1, lI_of h2, trivial⟩
  · cases h
theorem e_X2_gatherWays_97 (F : Nat) (t77 : Nat → Int32 → cM → Option (cM)) (t97 : Nat → Int32 → Int32 → cM → Option (cM)) (x0 : Nat) (x1 : Int32) (x2 : Int32) (M : cM) : b_X2_gatherWays_97 F t77 t97 x0 x1 x2 M = run T_X2_gatherWays P_RX2 false 5 (naL na_X2_gatherWays) (caL (ca_X2_gatherWays F)) (lkN th_X2_gatherWays) (lkN sw_X2_gatherWays) krV kxN (spL [77, 97]) (KL [(77, kd_X2_gatherWays_77 t77), (97, kd_X2_gatherWays_97 t97)]) 78 97 [some (.ref x0), some (.int x1), some (.int x2)] [] M := rfl
theorem ok_X2_gatherWays_97 {X : cCtx} {D : Nat} {r : cM} (G : FX X 3 (eV r) cX2_gatherWays RX2 5 D) {F : Nat} (hca : ∀ x ∈ (ca_X2_gatherWays (R' := cM) F), 1 ≤ D ∧ ceS X.1 RX2 (D - 1) x.1 x.2) (k77 : Nat → Int32 → cM → Option (cM)) (hk77 : ∀ x0 x1 M, k77 x0 x1 M = some r → WX X 3 (eV r) 77 [some (.ref x0), some (.int x1), none] [] M) (n : Nat) : ∀ x0 x1 x2 M, f_X2_gatherWays_97 F k77 n x0 x1 x2 M = some r → WX X 3 (eV r) 97 [some (.ref x0), some (.int x1), some (.int x2)] [] M := by
  induction n with
  | zero => intro x0 x1 x2 M h; cases h
  | succ n ih =>
    intro x0 x1 x2 M h
    exact seg_ok G P_RX2_ok T_X2_gatherWays_ok hca (fun _ h => absurd h List.not_mem_nil) sw_X2_gatherWays_ok krV_ok (kxN_ok (f := eV)) (List.forall_mem_cons.mpr ⟨kf_X2_gatherWays_77 (hk77), List.forall_mem_cons.mpr ⟨kf_X2_gatherWays_97 (ih), fun _ h => absurd h List.not_mem_nil⟩⟩) ((e_X2_gatherWays_97 F (k77) (f_X2_gatherWays_97 F k77 n) x0 x1 x2 M).symm.trans h)
theorem e_X2_gatherWays_77 (F : Nat) (t97 : Nat → Int32 → Int32 → cM → Option (cM)) (x0 : Nat) (x1 : Int32) (M : cM) : b_X2_gatherWays_77 F t97 x0 x1 M = run T_X2_gatherWays P_RX2 false 5 (naL na_X2_gatherWays) (caL (ca_X2_gatherWays F)) (lkN th_X2_gatherWays) (lkN sw_X2_gatherWays) krV kxN (spL [97]) (KL [(97, kd_X2_gatherWays_97 t97)]) 78 77 [some (.ref x0), some (.int x1), none] [] M := rfl
theorem ok_X2_gatherWays_77 {X : cCtx} {D : Nat} {r : cM} (G : FX X 3 (eV r) cX2_gatherWays RX2 5 D) {F : Nat} (hca : ∀ x ∈ (ca_X2_gatherWays (R' := cM) F), 1 ≤ D ∧ ceS X.1 RX2 (D - 1) x.1 x.2) (n : Nat) : ∀ x0 x1 M, f_X2_gatherWays_77 F n x0 x1 M = some r → WX X 3 (eV r) 77 [some (.ref x0), some (.int x1), none] [] M := by
  induction n with
  | zero => intro x0 x1 M h; cases h
  | succ n ih =>
    intro x0 x1 M h
    exact seg_ok G P_RX2_ok T_X2_gatherWays_ok hca (fun _ h => absurd h List.not_mem_nil) sw_X2_gatherWays_ok krV_ok (kxN_ok (f := eV)) (List.forall_mem_cons.mpr ⟨kf_X2_gatherWays_97 (ok_X2_gatherWays_97 G hca (f_X2_gatherWays_77 F n) ih F), fun _ h => absurd h List.not_mem_nil⟩) ((e_X2_gatherWays_77 F (f_X2_gatherWays_97 F (f_X2_gatherWays_77 F n) F) x0 x1 M).symm.trans h)
theorem e_X2_gatherWays_22 (F : Nat) (t2 : Nat → Int32 → cM → Option (cM)) (t22 : Nat → Int32 → Int32 → cM → Option (cM)) (x0 : Nat) (x1 : Int32) (x2 : Int32) (M : cM) : b_X2_gatherWays_22 F t2 t22 x0 x1 x2 M = run T_X2_gatherWays P_RX2 false 5 (naL na_X2_gatherWays) (caL (ca_X2_gatherWays F)) (lkN th_X2_gatherWays) (lkN sw_X2_gatherWays) krV kxN (spL [2, 22]) (KL [(2, kd_X2_gatherWays_2 t2), (22, kd_X2_gatherWays_22 t22)]) 78 22 [some (.ref x0), some (.int x1), some (.int x2)] [] M := rfl
theorem ok_X2_gatherWays_22 {X : cCtx} {D : Nat} {r : cM} (G : FX X 3 (eV r) cX2_gatherWays RX2 5 D) {F : Nat} (hca : ∀ x ∈ (ca_X2_gatherWays (R' := cM) F), 1 ≤ D ∧ ceS X.1 RX2 (D - 1) x.1 x.2) (k2 : Nat → Int32 → cM → Option (cM)) (hk2 : ∀ x0 x1 M, k2 x0 x1 M = some r → WX X 3 (eV r) 2 [some (.ref x0), some (.int x1), none] [] M) (n : Nat) : ∀ x0 x1 x2 M, f_X2_gatherWays_22 F k2 n x0 x1 x2 M = some r → WX X 3 (eV r) 22 [some (.ref x0), some (.int x1), some (.int x2)] [] M := by
  induction n with
  | zero => intro x0 x1 x2 M h; cases h
  | succ n ih =>
    intro x0 x1 x2 M h
    exact seg_ok G P_RX2_ok T_X2_gatherWays_ok hca (fun _ h => absurd h List.not_mem_nil) sw_X2_gatherWays_ok krV_ok (kxN_ok (f := eV)) (List.forall_mem_cons.mpr ⟨kf_X2_gatherWays_2 (hk2), List.forall_mem_cons.mpr ⟨kf_X2_gatherWays_22 (ih), fun _ h => absurd h List.not_mem_nil⟩⟩) ((e_X2_gatherWays_22 F (k2) (f_X2_gatherWays_22 F k2 n) x0 x1 x2 M).symm.trans h)
theorem e_X2_gatherWays_2 (F : Nat) (t22 : Nat → Int32 → Int32 → cM → Option (cM)) (t77 : Nat → Int32 → cM → Option (cM)) (x0 : Nat) (x1 : Int32) (M : cM) : b_X2_gatherWays_2 F t22 t77 x0 x1 M = run T_X2_gatherWays P_RX2 false 5 (naL na_X2_gatherWays) (caL (ca_X2_gatherWays F)) (lkN th_X2_gatherWays) (lkN sw_X2_gatherWays) krV kxN (spL [22, 77]) (KL [(22, kd_X2_gatherWays_22 t22), (77, kd_X2_gatherWays_77 t77)]) 78 2 [some (.ref x0), some (.int x1), none] [] M := rfl
theorem ok_X2_gatherWays_2 {X : cCtx} {D : Nat} {r : cM} (G : FX X 3 (eV r) cX2_gatherWays RX2 5 D) {F : Nat} (hca : ∀ x ∈ (ca_X2_gatherWays (R' := cM) F), 1 ≤ D ∧ ceS X.1 RX2 (D - 1) x.1 x.2) (n : Nat) : ∀ x0 x1 M, f_X2_gatherWays_2 F n x0 x1 M = some r → WX X 3 (eV r) 2 [some (.ref x0), some (.int x1), none] [] M := by
  induction n with
  | zero => intro x0 x1 M h; cases h
  | succ n ih =>
    intro x0 x1 M h
    exact seg_ok G P_RX2_ok T_X2_gatherWays_ok hca (fun _ h => absurd h List.not_mem_nil) sw_X2_gatherWays_ok krV_ok (kxN_ok (f := eV)) (List.forall_mem_cons.mpr ⟨kf_X2_gatherWays_22 (ok_X2_gatherWays_22 G hca (f_X2_gatherWays_2 F n) ih F), List.forall_mem_cons.mpr ⟨kf_X2_gatherWays_77 (ok_X2_gatherWays_77 G hca F), fun _ h => absurd h List.not_mem_nil⟩⟩) ((e_X2_gatherWays_2 F (f_X2_gatherWays_22 F (f_X2_gatherWays_2 F n) F) (f_X2_gatherWays_77 F F) x0 x1 M).symm.trans h)
theorem e_X2_gatherWays_0 (F : Nat) (t2 : Nat → Int32 → cM → Option (cM)) (x0 : Nat) (M : cM) : b_X2_gatherWays_0 F t2 x0 M = run T_X2_gatherWays P_RX2 false 5 (naL na_X2_gatherWays) (caL (ca_X2_gatherWays F)) (lkN th_X2_gatherWays) (lkN sw_X2_gatherWays) krV kxN (spL [2]) (KL [(2, kd_X2_gatherWays_2 t2)]) 78 0 [some (.ref x0), none, none] [] M := rfl
theorem ok_X2_gatherWays_0 {X : cCtx} {D : Nat} {r : cM} (G : FX X 3 (eV r) cX2_gatherWays RX2 5 D) {F : Nat} (hca : ∀ x ∈ (ca_X2_gatherWays (R' := cM) F), 1 ≤ D ∧ ceS X.1 RX2 (D - 1) x.1 x.2) : ∀ x0 M, f_X2_gatherWays_0 F x0 M = some r → WX X 3 (eV r) 0 [some (.ref x0), none, none] [] M := by
  intro x0 M h
  exact seg_ok G P_RX2_ok T_X2_gatherWays_ok hca (fun _ h => absurd h List.not_mem_nil) sw_X2_gatherWays_ok krV_ok (kxN_ok (f := eV)) (List.forall_mem_cons.mpr ⟨kf_X2_gatherWays_2 (ok_X2_gatherWays_2 G hca F), fun _ h => absurd h List.not_mem_nil⟩) ((e_X2_gatherWays_0 F (f_X2_gatherWays_2 F F) x0 M).symm.trans h)
theorem c_X2_gatherWays {q : cL} (hst : q.1.stackTraces = false) {D : Nat} (hD : 3 ≤ D) (F : Nat) (a0 : Nat) (M : cM) (r : cM) (h : f_X2_gatherWays F a0 M = some r) : CTx q yX2_gatherWays (.code yX2_gatherWays cX2_gatherWays 3 none) D [.ref a0] M (eV r) ∧ ∃ fs, M[a0]? = some (.inr (1, fs)) := by
  unfold f_X2_gatherWays at h
  split at h
  · next hi => exact ⟨CTx_of (own := RX2) (rk := 5) hst (by decide +kernel) rfl (rfl) (Nat.le_of_ble_eq_true rfl) (fun X hX G => by subst hX; exact ok_X2_gatherWays_0 G (ca_X2_gatherWays_ok hst hD F) a0 M h), isC_of hi⟩
  · cases h
def n_X2_gatherWays {R' : Type} (f : Nat → cM → Option (cM)) : cFn R' := fun as M κ κx => match as with
  | [.ref a0] => (f a0 M).bind fun p => κ none p
  | _ => none
theorem w_X2_gatherWays : ∀ w ∈ [Cond.instanceMethod yX2_gatherWays, .selects yX2_gatherWays.cls yX2_gatherWays yX2_gatherWays, .initialized yX2_gatherWays.cls, .code yX2_gatherWays cX2_gatherWays 3 none], w ∈ lw_good := List.forall_mem_cons.mpr ⟨lw_good_of (tb_ok 877 (by decide +kernel)) rfl, List.forall_mem_cons.mpr ⟨lw_good_of (ts_ok 14 (by decide +kernel)) rfl, List.forall_mem_cons.mpr ⟨lw_good_of (tb_ok 8 (by decide +kernel)) rfl, List.forall_mem_cons.mpr ⟨lw_good_of (tb_ok 878 (by decide +kernel)) rfl, fun _ h => absurd h List.not_mem_nil⟩⟩⟩⟩
theorem n_X2_gatherWays_ok {R' : Type} {q : cL} {own : String} {d k : Nat} {f : Nat → cM → Option (cM)} (hl : Cond.methodLink own k yX2_gatherWays ∈ lw_good) (hf : ∀ a0 M r, f a0 M = some r → CTx q yX2_gatherWays (.code yX2_gatherWays cX2_gatherWays 3 none) d [.ref a0] M (eV r) ∧ ∃ fs, M[a0]? = some (.inr (1, fs))) : ceS q own d (3 * k + 1) (n_X2_gatherWays (R' := R') f) := by
  intro as M κ κx r h
  unfold n_X2_gatherWays at h
  split at h
  · obtain ⟨p, h1, h2⟩ := Option.bind_eq_some_iff.mp h
    obtain ⟨hc, fs, ha⟩ := hf _ _ _ h1
    exact ⟨eV p, fun _ => h2, fun hne => absurd rfl hne, Or.inr (Or.inl ⟨yX2_gatherWays, cX2_gatherWays, 3, none, k, 0, _, _, 1, TX2, 14, fs, rfl, rfl, hc, ha, rfl, List.forall_mem_cons.mpr ⟨hl, w_X2_gatherWays⟩, ⟨rfl, by decide +kernel, by decide +kernel, by decide +kernel⟩, rfl, by decide⟩)⟩
  · cases h
-- PatchbayScript$Finder.keyOf(II)J
def T_X2_keyOf : List cRow := [(0, .aload_n 0, 1, 0), (1, .getfield 98, 4, 0), (4, .ldc2_w 190, 7, 0), (7, .lmul, 8, 0), (8, .iload_n 1, 9, 0), (9, .i2l, 10, 0), (10, .ladd, 11, 0), (11, .lstore_n 3, 12, 0), (12, .iconst 0, 13, 0), (13, .istore 5, 15, 0), (15, .iload 5, 17, 0), (17, .iconst 4, 18, 0), (18, .if_icmp .ge 44, 21, 62), (21, .lload_n 3, 22, 0), (22, .ldc2_w 192, 25, 0), (25, .lmul, 26, 0), (26, .iload 5, 28, 0), (28, .aload_n 0, 29, 0), (29, .getfield 26, 32, 0), (32, .getfield 109, 35, 0), (35, .if_icmp .ge 17, 38, 52), (38, .aload_n 0, 39, 0), (39, .getfield 47, 42, 0), (42, .iload_n 2, 43, 0), (43, .iconst 4, 44, 0), (44, .imul, 45, 0), (45, .iload 5, 47, 0), (47, .iadd, 48, 0), (48, .iaload, 49, 0), (49, .goto 4, 52, 53), (52, .iconst 0, 53, 0), (53, .i2l, 54, 0), (54, .ladd, 55, 0), (55, .lstore_n 3, 56, 0), (56, .iinc 5 1, 59, 0), (59, .goto (-44), 62, 15), (62, .lload_n 3, 63, 0), (63, .lreturn, 64, 0)]
theorem T_X2_keyOf_ok : T_X2_keyOf.all (rowB cX2_keyOf) = true := by decide +kernel
def th_X2_keyOf : List (Nat × Nat) := []
def sw_X2_keyOf : List (Nat × (List (Int32 × Nat) × Nat)) := []
theorem sw_X2_keyOf_ok : ∀ q ∈ sw_X2_keyOf, swS cX2_keyOf q := fun _ h => absurd h List.not_mem_nil
def na_X2_keyOf : List (Nat × Nat) := []
def ca_X2_keyOf {R' : Type} (F : Nat) : List (Nat × cFn R') := []
theorem ca_X2_keyOf_ok {R' : Type} {q : cL} (hst : q.1.stackTraces = false) {D : Nat} (hD : 0 ≤ D) (F : Nat) : ∀ x ∈ (ca_X2_keyOf (R' := R') F), 1 ≤ D ∧ ceS q RX2 (D - 1) x.1 x.2 := fun _ h => absurd h List.not_mem_nil
def kd_X2_keyOf_15 (g : Nat → Int32 → Int64 → Int32 → cM → Option (Int64 × cM)) : cKf (Int64 × cM) := fun vs st M => (lR vs 0).bind fun x0 => (lI vs 2).bind fun x2 => (lJ vs 3).bind fun x3 => (lI vs 5).bind fun x5 => match st with
  | [] => g x0 x2 x3 x5 M
  | _ => none
theorem kf_X2_keyOf_15 {X : cCtx} {o : cO} {r : Int64 × cM} {g : Nat → Int32 → Int64 → Int32 → cM → Option (Int64 × cM)} (hg : ∀ x0 x2 x3 x5 M, g x0 x2 x3 x5 M = some r → WX X 6 o 15 [some (.ref x0), none, some (.int x2), some (.long x3), none, some (.int x5)] [] M) : ∀ vs st M, kd_X2_keyOf_15 g vs st M = some r → WX X 6 o 15 vs st M := by
  intro vs st M h
  unfold kd_X2_keyOf_15 at h
  obtain ⟨x0, h0, h⟩ := Option.bind_eq_some_iff.mp h
  obtain ⟨x2, h2, h⟩ := Option.bind_eq_some_iff.mp h
  obtain ⟨x3, h3, h⟩ := Option.bind_eq_some_iff.mp h
  obtain ⟨x5, h5, h⟩ := Option.bind_eq_some_iff.mp h
  split at h
  · exact WX_weak (hg _ _ _ _ _ h) rfl ⟨lR_of h0, lI_of h2, lJ_of h3, lI_of h5, trivial⟩
  · cases h
theorem e_X2_keyOf_15 (F : Nat) (t15 : Nat → Int32 → Int64 → Int32 → cM → Option (Int64 × cM)) (x0 : Nat) (x2 : Int32) (x3 : Int64) (x5 : Int32) (M : cM) : b_X2_keyOf_15 F t15 x0 x2 x3 x5 M = run T_X2_keyOf P_RX2 false 3 (naL na_X2_keyOf) (caL (ca_X2_keyOf F)) (lkN th_X2_keyOf) (lkN sw_X2_keyOf) krJ kxN (spL [15]) (KL [(15, kd_X2_keyOf_15 t15)]) 41 15 [some (.ref x0), none, some (.int x2), some (.long x3), none, some (.int x5)] [] M := rfl
theorem ok_X2_keyOf_15 {X : cCtx} {D : Nat} {r : Int64 × cM} (G : FX X 6 (eJ r) cX2_keyOf RX2 3 D) {F : Nat} (hca : ∀ x ∈ (ca_X2_keyOf (R' := Int64 × cM) F), 1 ≤ D ∧ ceS X.1 RX2 (D - 1) x.1 x.2) (n : Nat) : ∀ x0 x2 x3 x5 M, f_X2_keyOf_15 F n x0 x2 x3 x5 M = some r → WX X 6 (eJ r) 15 [some (.ref x0), none, some (.int x2), some (.long x3), none, some (.int x5)] [] M := by
  induction n with
  | zero => intro x0 x2 x3 x5 M h; cases h
  | succ n ih =>
    intro x0 x2 x3 x5 M h
    exact seg_ok G P_RX2_ok T_X2_keyOf_ok hca (fun _ h => absurd h List.not_mem_nil) sw_X2_keyOf_ok krJ_ok (kxN_ok (f := eJ)) (List.forall_mem_cons.mpr ⟨kf_X2_keyOf_15 (ih), fun _ h => absurd h List.not_mem_nil⟩) ((e_X2_keyOf_15 F (f_X2_keyOf_15 F n) x0 x2 x3 x5 M).symm.trans h)
theorem e_X2_keyOf_0 (F : Nat) (t15 : Nat → Int32 → Int64 → Int32 → cM → Option (Int64 × cM)) (x0 : Nat) (x1 : Int32) (x2 : Int32) (M : cM) : b_X2_keyOf_0 F t15 x0 x1 x2 M = run T_X2_keyOf P_RX2 false 3 (naL na_X2_keyOf) (caL (ca_X2_keyOf F)) (lkN th_X2_keyOf) (lkN sw_X2_keyOf) krJ kxN (spL [15]) (KL [(15, kd_X2_keyOf_15 t15)]) 41 0 [some (.ref x0), some (.int x1), some (.int x2), none, none, none] [] M := rfl
theorem ok_X2_keyOf_0 {X : cCtx} {D : Nat} {r : Int64 × cM} (G : FX X 6 (eJ r) cX2_keyOf RX2 3 D) {F : Nat} (hca : ∀ x ∈ (ca_X2_keyOf (R' := Int64 × cM) F), 1 ≤ D ∧ ceS X.1 RX2 (D - 1) x.1 x.2) : ∀ x0 x1 x2 M, f_X2_keyOf_0 F x0 x1 x2 M = some r → WX X 6 (eJ r) 0 [some (.ref x0), some (.int x1), some (.int x2), none, none, none] [] M := by
  intro x0 x1 x2 M h
  exact seg_ok G P_RX2_ok T_X2_keyOf_ok hca (fun _ h => absurd h List.not_mem_nil) sw_X2_keyOf_ok krJ_ok (kxN_ok (f := eJ)) (List.forall_mem_cons.mpr ⟨kf_X2_keyOf_15 (ok_X2_keyOf_15 G hca F), fun _ h => absurd h List.not_mem_nil⟩) ((e_X2_keyOf_0 F (f_X2_keyOf_15 F F) x0 x1 x2 M).symm.trans h)
theorem c_X2_keyOf {q : cL} (hst : q.1.stackTraces = false) {D : Nat} (hD : 0 ≤ D) (F : Nat) (a0 : Nat) (a1 : Int32) (a2 : Int32) (M : cM) (r : Int64 × cM) (h : f_X2_keyOf F a0 a1 a2 M = some r) : CTx q yX2_keyOf (.code yX2_keyOf cX2_keyOf 6 (some .long)) D [.ref a0, .int a1, .int a2] M (eJ r) ∧ ∃ fs, M[a0]? = some (.inr (1, fs)) := by
  unfold f_X2_keyOf at h
  split at h
  · next hi => exact ⟨CTx_of (own := RX2) (rk := 3) hst (by decide +kernel) rfl (rfl) (Nat.le_of_ble_eq_true rfl) (fun X hX G => by subst hX; exact ok_X2_keyOf_0 G (ca_X2_keyOf_ok hst hD F) a0 a1 a2 M h), isC_of hi⟩
  · cases h
def n_X2_keyOf {R' : Type} (f : Nat → Int32 → Int32 → cM → Option (Int64 × cM)) : cFn R' := fun as M κ κx => match as with
  | [.ref a0, .int a1, .int a2] => (f a0 a1 a2 M).bind fun p => κ (some (.long p.1)) p.2
  | _ => none
theorem w_X2_keyOf : ∀ w ∈ [Cond.instanceMethod yX2_keyOf, .selects yX2_keyOf.cls yX2_keyOf yX2_keyOf, .initialized yX2_keyOf.cls, .code yX2_keyOf cX2_keyOf 6 (some .long)], w ∈ lw_good := List.forall_mem_cons.mpr ⟨lw_good_of (tb_ok 913 (by decide +kernel)) rfl, List.forall_mem_cons.mpr ⟨lw_good_of (ts_ok 21 (by decide +kernel)) rfl, List.forall_mem_cons.mpr ⟨lw_good_of (tb_ok 8 (by decide +kernel)) rfl, List.forall_mem_cons.mpr ⟨lw_good_of (tb_ok 914 (by decide +kernel)) rfl, fun _ h => absurd h List.not_mem_nil⟩⟩⟩⟩
theorem n_X2_keyOf_ok {R' : Type} {q : cL} {own : String} {d k : Nat} {f : Nat → Int32 → Int32 → cM → Option (Int64 × cM)} (hl : Cond.methodLink own k yX2_keyOf ∈ lw_good) (hf : ∀ a0 a1 a2 M r, f a0 a1 a2 M = some r → CTx q yX2_keyOf (.code yX2_keyOf cX2_keyOf 6 (some .long)) d [.ref a0, .int a1, .int a2] M (eJ r) ∧ ∃ fs, M[a0]? = some (.inr (1, fs))) : ceS q own d (3 * k + 1) (n_X2_keyOf (R' := R') f) := by
  intro as M κ κx r h
  unfold n_X2_keyOf at h
  split at h
  · obtain ⟨p, h1, h2⟩ := Option.bind_eq_some_iff.mp h
    obtain ⟨hc, fs, ha⟩ := hf _ _ _ _ _ h1
    exact ⟨eJ p, fun _ => h2, fun hne => absurd rfl hne, Or.inr (Or.inl ⟨yX2_keyOf, cX2_keyOf, 6, (some .long), k, 2, _, _, 1, TX2, 14, fs, rfl, rfl, hc, ha, rfl, List.forall_mem_cons.mpr ⟨hl, w_X2_keyOf⟩, ⟨rfl, by decide +kernel, by decide +kernel, by decide +kernel⟩, rfl, by decide⟩)⟩
  · cases h
-- PatchbayScript$Finder.stepOverSign(II)C
def T_X2_stepOverSign : List cRow := [(0, .aload_n 0, 1, 0), (1, .getfield 26, 4, 0), (4, .getfield 112, 7, 0), (7, .iconst 0, 8, 0), (8, .aaload, 9, 0), (9, .getfield 115, 12, 0), (12, .aload_n 0, 13, 0), (13, .getfield 47, 16, 0), (16, .iload_n 1, 17, 0), (17, .iconst 4, 18, 0), (18, .imul, 19, 0), (19, .iaload, 20, 0), (20, .iload_n 2, 21, 0), (21, .iadd, 22, 0), (22, .iconst 1, 23, 0), (23, .isub, 24, 0), (24, .invokevirtual 150, 27, 0), (27, .istore_n 3, 28, 0), (28, .iconst 0, 29, 0), (29, .istore 4, 31, 0), (31, .iload 4, 33, 0), (33, .aload_n 0, 34, 0), (34, .getfield 26, 37, 0), (37, .getfield 109, 40, 0), (40, .if_icmp .ge 67, 43, 107), (43, .aload_n 0, 44, 0), (44, .getfield 47, 47, 0), (47, .iload_n 1, 48, 0), (48, .iconst 4, 49, 0), (49, .imul, 50, 0), (50, .iload 4, 52, 0), (52, .iadd, 53, 0), (53, .iaload, 54, 0), (54, .istore 5, 56, 0), (56, .aload_n 0, 57, 0), (57, .getfield 26, 60, 0), (60, .getfield 112, 63, 0), (63, .iload 4, 65, 0), (65, .aaload, 66, 0), (66, .getfield 115, 69, 0), (69, .iload 5, 71, 0), (71, .iload_n 2, 72, 0), (72, .iadd, 73, 0), (73, .iconst 1, 74, 0), (74, .isub, 75, 0), (75, .invokevirtual 150, 78, 0), (78, .iload_n 3, 79, 0), (79, .if_icmp .eq 5, 82, 84), (82, .iconst 0, 83, 0), (83, .ireturn, 84, 0), (84, .aload_n 0, 85, 0), (85, .getfield 47, 88, 0), (88, .iload_n 1, 89, 0), (89, .iconst 1, 90, 0), (90, .iadd, 91, 0), (91, .iconst 4, 92, 0), (92, .imul, 93, 0), (93, .iload 4, 95, 0), (95, .iadd, 96, 0), (96, .iload 5, 98, 0), (98, .iload_n 2, 99, 0), (99, .iadd, 100, 0), (100, .iastore, 101, 0), (101, .iinc 4 1, 104, 0), (104, .goto (-73), 107, 31), (107, .iload_n 3, 108, 0), (108, .ireturn, 109, 0)]
theorem T_X2_stepOverSign_ok : T_X2_stepOverSign.all (rowB cX2_stepOverSign) = true := by decide +kernel
def th_X2_stepOverSign : List (Nat × Nat) := []
def sw_X2_stepOverSign : List (Nat × (List (Int32 × Nat) × Nat)) := []
theorem sw_X2_stepOverSign_ok : ∀ q ∈ sw_X2_stepOverSign, swS cX2_stepOverSign q := fun _ h => absurd h List.not_mem_nil
def na_X2_stepOverSign : List (Nat × Nat) := [(451, 2)]
def ca_X2_stepOverSign {R' : Type} (F : Nat) : List (Nat × cFn R') := [(451, n_X10_at (f_X10_at F))]
theorem ca_X2_stepOverSign_ok {R' : Type} {q : cL} (hst : q.1.stackTraces = false) {D : Nat} (hD : 1 ≤ D) (F : Nat) : ∀ x ∈ (ca_X2_stepOverSign (R' := R') F), 1 ≤ D ∧ ceS q RX2 (D - 1) x.1 x.2 := List.forall_mem_cons.mpr ⟨⟨by omega, n_X10_at_ok (k := 150) (lw_good_of (tb_ok 891 (by decide +kernel)) rfl) (fun a0 a1 M r h => c_X10_at hst (by omega) F a0 a1 M r h)⟩, fun _ h => absurd h List.not_mem_nil⟩
def kd_X2_stepOverSign_31 (g : Nat → Int32 → Int32 → Int32 → Int32 → cM → Option (Int32 × cM)) : cKf (Int32 × cM) := fun vs st M => (lR vs 0).bind fun x0 => (lI vs 1).bind fun x1 => (lI vs 2).bind fun x2 => (lI vs 3).bind fun x3 => (lI vs 4).bind fun x4 => match st with
  | [] => g x0 x1 x2 x3 x4 M
  | _ => none
theorem kf_X2_stepOverSign_31 {X : cCtx} {o : cO} {r : Int32 × cM} {g : Nat → Int32 → Int32 → Int32 → Int32 → cM → Option (Int32 × cM)} (hg : ∀ x0 x1 x2 x3 x4 M, g x0 x1 x2 x3 x4 M = some r → WX X 6 o 31 [some (.ref x0), some (.int x1), some (.int x2), some (.int x3), some (.int x4), none] [] M) : ∀ vs st M, kd_X2_stepOverSign_31 g vs st M = some r → WX X 6 o 31 vs st M := by
  intro vs st M h
  unfold kd_X2_stepOverSign_31 at h
  obtain ⟨x0, h0, h⟩ := Option.bind_eq_some_iff.mp h
  obtain ⟨x1, h1, h⟩ := Option.bind_eq_some_iff.mp h
  obtain ⟨x2, h2, h⟩ := Option.bind_eq_some_iff.mp h
  obtain ⟨x3, h3, h⟩ := Option.bind_eq_some_iff.mp h
  obtain ⟨x4, h4, h⟩ := Option.bind_eq_some_iff.mp h
  split at h
  · exact WX_weak (hg _ _ _ _ _ _ h) rfl ⟨lR_of h0, lI_of h1, lI_of h2, lI_of h3, lI_of h4, trivial⟩
  · cases h
def kd_X2_stepOverSign_56 (g : Nat → Int32 → Int32 → Int32 → Int32 → Int32 → cM → Option (Int32 × cM)) : cKf (Int32 × cM) := fun vs st M => (lR vs 0).bind fun x0 => (lI vs 1).bind fun x1 => (lI vs 2).bind fun x2 => (lI vs 3).bind fun x3 => (lI vs 4).bind fun x4 => (lI vs 5).bind fun x5 => match st with
  | [] => g x0 x1 x2 x3 x4 x5 M
  | _ => none
theorem kf_X2_stepOverSign_56 {X : cCtx} {o : cO} {r : Int32 × cM} {g : Nat → Int32 → Int32 → Int32 → Int32 → Int32 → cM → Option (Int32 × cM)} (hg : ∀ x0 x1 x2 x3 x4 x5 M, g x0 x1 x2 x3 x4 x5 M = some r → WX X 6 o 56 [some (.ref x0), some (.int x1), some (.int x2), some (.int x3), some (.int x4), some (.int x5)] [] M) : ∀ vs st M, kd_X2_stepOverSign_56 g vs st M = some r → WX X 6 o 56 vs st M := by
  intro vs st M h
  unfold kd_X2_stepOverSign_56 at h
  obtain ⟨x0, h0, h⟩ := Option.bind_eq_some_iff.mp h
  obtain ⟨x1, h1, h⟩ := Option.bind_eq_some_iff.mp h
  obtain ⟨x2, h2, h⟩ := Option.bind_eq_some_iff.mp h
  obtain ⟨x3, h3, h⟩ := Option.bind_eq_some_iff.mp h
  obtain ⟨x4, h4, h⟩ := Option.bind_eq_some_iff.mp h
  obtain ⟨x5, h5, h⟩ := Option.bind_eq_some_iff.mp h
  split at h
  · exact WX_weak (hg _ _ _ _ _ _ _ h) rfl ⟨lR_of h0, lI_of h1, lI_of h2, lI_of h3, lI_of h4, lI_of h5, trivial⟩
  · cases h
theorem e_X2_stepOverSign_56 (F : Nat) (t31 : Nat → Int32 → Int32 → Int32 → Int32 → cM → Option (Int32 × cM)) (x0 : Nat) (x1 : Int32) (x2 : Int32) (x3 : Int32) (x4 : Int32) (x5 : Int32) (M : cM) : b_X2_stepOverSign_56 F t31 x0 x1 x2 x3 x4 x5 M = run T_X2_stepOverSign P_RX2 false 2 (naL na_X2_stepOverSign) (caL (ca_X2_stepOverSign F)) (lkN th_X2_stepOverSign) (lkN sw_X2_stepOverSign) krI kxN (spL [31]) (KL [(31, kd_X2_stepOverSign_31 t31)]) 70 56 [some (.ref x0), some (.int x1), some (.int x2), some (.int x3), some (.int x4), some (.int x5)] [] M := rfl
theorem ok_X2_stepOverSign_56 {X : cCtx} {D : Nat} {r : Int32 × cM} (G : FX X 6 (eI r) cX2_stepOverSign RX2 2 D) {F : Nat} (hca : ∀ x ∈ (ca_X2_stepOverSign (R' := Int32 × cM) F), 1 ≤ D ∧ ceS X.1 RX2 (D - 1) x.1 x.2) (k31 : Nat → Int32 → Int32 → Int32 → Int32 → cM → Option (Int32 × cM)) (hk31 : ∀ x0 x1 x2 x3 x4 M, k31 x0 x1 x2 x3 x4 M = some r → WX X 6 (eI r) 31 [some (.ref x0), some (.int x1), some (.int x2), some (.int x3), some (.int x4), none] [] M) : ∀ x0 x1 x2 x3 x4 x5 M, f_X2_stepOverSign_56 F k31 x0 x1 x2 x3 x4 x5 M = some r → WX X 6 (eI r) 56 [some (.ref x0), some (.int x1), some (.int x2), some (.int x3), some (.int x4), some (.int x5)] [] M := by
  intro x0 x1 x2 x3 x4 x5 M h
  exact seg_ok G P_RX2_ok T_X2_stepOverSign_ok hca (fun _ h => absurd h List.not_mem_nil) sw_X2_stepOverSign_ok krI_ok (kxN_ok (f := eI)) (List.forall_mem_cons.mpr ⟨kf_X2_stepOverSign_31 (hk31), fun _ h => absurd h List.not_mem_nil⟩) ((e_X2_stepOverSign_56 F (k31) x0 x1 x2 x3 x4 x5 M).symm.trans h)
theorem e_X2_stepOverSign_31 (F : Nat) (t56 : Nat → Int32 → Int32 → Int32 → Int32 → Int32 → cM → Option (Int32 × cM)) (x0 : Nat) (x1 : Int32) (x2 : Int32) (x3 : Int32) (x4 : Int32) (M : cM) : b_X2_stepOverSign_31 F t56 x0 x1 x2 x3 x4 M = run T_X2_stepOverSign P_RX2 false 2 (naL na_X2_stepOverSign) (caL (ca_X2_stepOverSign F)) (lkN th_X2_stepOverSign) (lkN sw_X2_stepOverSign) krI kxN (spL [56]) (KL [(56, kd_X2_stepOverSign_56 t56)]) 70 31 [some (.ref x0), some (.int x1), some (.int x2), some (.int x3), some (.int x4), none] [] M := rfl
theorem ok_X2_stepOverSign_31 {X : cCtx} {D : Nat} {r : Int32 × cM} (G : FX X 6 (eI r) cX2_stepOverSign RX2 2 D) {F : Nat} (hca : ∀ x ∈ (ca_X2_stepOverSign (R' := Int32 × cM) F), 1 ≤ D ∧ ceS X.1 RX2 (D - 1) x.1 x.2) (n : Nat) : ∀ x0 x1 x2 x3 x4 M, f_X2_stepOverSign_31 F n x0 x1 x2 x3 x4 M = some r → WX X 6 (eI r) 31 [some (.ref x0), some (.int x1), some (.int x2), some (.int x3), some (.int x4), none] [] M := by
  induction n with
  | zero => intro x0 x1 x2 x3 x4 M h; cases h
  | succ n ih =>
    intro x0 x1 x2 x3 x4 M h
    exact seg_ok G P_RX2_ok T_X2_stepOverSign_ok hca (fun _ h => absurd h List.not_mem_nil) sw_X2_stepOverSign_ok krI_ok (kxN_ok (f := eI)) (List.forall_mem_cons.mpr ⟨kf_X2_stepOverSign_56 (ok_X2_stepOverSign_56 G hca (f_X2_stepOverSign_31 F n) ih), fun _ h => absurd h List.not_mem_nil⟩) ((e_X2_stepOverSign_31 F (f_X2_stepOverSign_56 F (f_X2_stepOverSign_31 F n)) x0 x1 x2 x3 x4 M).symm.trans h)
theorem e_X2_stepOverSign_0 (F : Nat) (t31 : Nat → Int32 → Int32 → Int32 → Int32 → cM → Option (Int32 × cM)) (x0 : Nat) (x1 : Int32) (x2 : Int32) (M : cM) : b_X2_stepOverSign_0 F t31 x0 x1 x2 M = run T_X2_stepOverSign P_RX2 false 2 (naL na_X2_stepOverSign) (caL (ca_X2_stepOverSign F)) (lkN th_X2_stepOverSign) (lkN sw_X2_stepOverSign) krI kxN (spL [31]) (KL [(31, kd_X2_stepOverSign_31 t31)]) 70 0 [some (.ref x0), some (.int x1), some (.int x2), none, none, none] [] M := rfl
theorem ok_X2_stepOverSign_0 {X : cCtx} {D : Nat} {r : Int32 × cM} (G : FX X 6 (eI r) cX2_stepOverSign RX2 2 D) {F : Nat} (hca : ∀ x ∈ (ca_X2_stepOverSign (R' := Int32 × cM) F), 1 ≤ D ∧ ceS X.1 RX2 (D - 1) x.1 x.2) : ∀ x0 x1 x2 M, f_X2_stepOverSign_0 F x0 x1 x2 M = some r → WX X 6 (eI r) 0 [some (.ref x0), some (.int x1), some (.int x2), none, none, none] [] M := by
  intro x0 x1 x2 M h
  exact seg_ok G P_RX2_ok T_X2_stepOverSign_ok hca (fun _ h => absurd h List.not_mem_nil) sw_X2_stepOverSign_ok krI_ok (kxN_ok (f := eI)) (List.forall_mem_cons.mpr ⟨kf_X2_stepOverSign_31 (ok_X2_stepOverSign_31 G hca F), fun _ h => absurd h List.not_mem_nil⟩) ((e_X2_stepOverSign_0 F (f_X2_stepOverSign_31 F F) x0 x1 x2 M).symm.trans h)
theorem c_X2_stepOverSign {q : cL} (hst : q.1.stackTraces = false) {D : Nat} (hD : 1 ≤ D) (F : Nat) (a0 : Nat) (a1 : Int32) (a2 : Int32) (M : cM) (r : Int32 × cM) (h : f_X2_stepOverSign F a0 a1 a2 M = some r) : CTx q yX2_stepOverSign (.code yX2_stepOverSign cX2_stepOverSign 6 (some .char)) D [.ref a0, .int a1, .int a2] M (eI r) ∧ ∃ fs, M[a0]? = some (.inr (1, fs)) := by
  unfold f_X2_stepOverSign at h
  split at h
  · next hi => exact ⟨CTx_of (own := RX2) (rk := 2) hst (by decide +kernel) rfl (rfl) (Nat.le_of_ble_eq_true rfl) (fun X hX G => by subst hX; exact ok_X2_stepOverSign_0 G (ca_X2_stepOverSign_ok hst hD F) a0 a1 a2 M h), isC_of hi⟩
  · cases h
def n_X2_stepOverSign {R' : Type} (f : Nat → Int32 → Int32 → cM → Option (Int32 × cM)) : cFn R' := fun as M κ κx => match as with
  | [.ref a0, .int a1, .int a2] => (f a0 a1 a2 M).bind fun p => κ (some (.int p.1)) p.2
  | _ => none
theorem w_X2_stepOverSign : ∀ w ∈ [Cond.instanceMethod yX2_stepOverSign, .selects yX2_stepOverSign.cls yX2_stepOverSign yX2_stepOverSign, .initialized yX2_stepOverSign.cls, .code yX2_stepOverSign cX2_stepOverSign 6 (some .char)], w ∈ lw_good := List.forall_mem_cons.mpr ⟨lw_good_of (tb_ok 924 (by decide +kernel)) rfl, List.forall_mem_cons.mpr ⟨lw_good_of (ts_ok 23 (by decide +kernel)) rfl, List.forall_mem_cons.mpr ⟨lw_good_of (tb_ok 8 (by decide +kernel)) rfl, List.forall_mem_cons.mpr ⟨lw_good_of (tb_ok 925 (by decide +kernel)) rfl, fun _ h => absurd h List.not_mem_nil⟩⟩⟩⟩
theorem n_X2_stepOverSign_ok {R' : Type} {q : cL} {own : String} {d k : Nat} {f : Nat → Int32 → Int32 → cM → Option (Int32 × cM)} (hl : Cond.methodLink own k yX2_stepOverSign ∈ lw_good) (hf : ∀ a0 a1 a2 M r, f a0 a1 a2 M = some r → CTx q yX2_stepOverSign (.code yX2_stepOverSign cX2_stepOverSign 6 (some .char)) d [.ref a0, .int a1, .int a2] M (eI r) ∧ ∃ fs, M[a0]? = some (.inr (1, fs))) : ceS q own d (3 * k + 1) (n_X2_stepOverSign (R' := R') f) := by
  intro as M κ κx r h
  unfold n_X2_stepOverSign at h
  split at h
  · obtain ⟨p, h1, h2⟩ := Option.bind_eq_some_iff.mp h
    obtain ⟨hc, fs, ha⟩ := hf _ _ _ _ _ h1
    exact ⟨eI p, fun _ => h2, fun hne => absurd rfl hne, Or.inr (Or.inl ⟨yX2_stepOverSign, cX2_stepOverSign, 6, (some .char), k, 2, _, _, 1, TX2, 14, fs, rfl, rfl, hc, ha, rfl, List.forall_mem_cons.mpr ⟨hl, w_X2_stepOverSign⟩, ⟨rfl, by decide +kernel, by decide +kernel, by decide +kernel⟩, rfl, by decide⟩)⟩
  · cases h
-- PatchbayScript$Finder.stepsOver(II)Z
def T_X2_stepsOver : List cRow := [(0, .iconst 0, 1, 0), (1, .istore_n 3, 2, 0), (2, .iload_n 3, 3, 0), (3, .aload_n 0, 4, 0), (4, .getfield 26, 7, 0), (7, .getfield 109, 10, 0), (10, .if_icmp .ge 72, 13, 82), (13, .aload_n 0, 14, 0), (14, .getfield 47, 17, 0), (17, .iload_n 2, 18, 0), (18, .iconst 4, 19, 0), (19, .imul, 20, 0), (20, .iload_n 3, 21, 0), (21, .iadd, 22, 0), (22, .iaload, 23, 0), (23, .istore 4, 25, 0), (25, .aload_n 0, 26, 0), (26, .getfield 26, 29, 0), (29, .getfield 160, 32, 0), (32, .iload_n 1, 33, 0), (33, .iconst 4, 34, 0), (34, .imul, 35, 0), (35, .iload_n 3, 36, 0), (36, .iadd, 37, 0), (37, .iaload, 38, 0), (38, .iload 4, 40, 0), (40, .ishr, 41, 0), (41, .iconst 1, 42, 0), (42, .iand, 43, 0), (43, .ifCond .ne 5, 46, 48), (46, .iconst 0, 47, 0), (47, .ireturn, 48, 0), (48, .aload_n 0, 49, 0), (49, .getfield 47, 52, 0), (52, .iload_n 2, 53, 0), (53, .iconst 1, 54, 0), (54, .iadd, 55, 0), (55, .iconst 4, 56, 0), (56, .imul, 57, 0), (57, .iload_n 3, 58, 0), (58, .iadd, 59, 0), (59, .iload 4, 61, 0), (61, .aload_n 0, 62, 0), (62, .getfield 26, 65, 0), (65, .getfield 163, 68, 0), (68, .iload_n 1, 69, 0), (69, .iconst 4, 70, 0), (70, .imul, 71, 0), (71, .iload_n 3, 72, 0), (72, .iadd, 73, 0), (73, .iaload, 74, 0), (74, .iadd, 75, 0), (75, .iastore, 76, 0), (76, .iinc 3 1, 79, 0), (79, .goto (-77), 82, 2), (82, .iconst 1, 83, 0), (83, .ireturn, 84, 0)]
theorem T_X2_stepsOver_ok : T_X2_stepsOver.all (rowB cX2_stepsOver) = true := by decide +kernel
def th_X2_stepsOver : List (Nat × Nat) := []
def sw_X2_stepsOver : List (Nat × (List (Int32 × Nat) × Nat)) := []
theorem sw_X2_stepsOver_ok : ∀ q ∈ sw_X2_stepsOver, swS cX2_stepsOver q := fun _ h => absurd h List.not_mem_nil
def na_X2_stepsOver : List (Nat × Nat) := []
def ca_X2_stepsOver {R' : Type} (F : Nat) : List (Nat × cFn R') := []
theorem ca_X2_stepsOver_ok {R' : Type} {q : cL} (hst : q.1.stackTraces = false) {D : Nat} (hD : 0 ≤ D) (F : Nat) : ∀ x ∈ (ca_X2_stepsOver (R' := R') F), 1 ≤ D ∧ ceS q RX2 (D - 1) x.1 x.2 := fun _ h => absurd h List.not_mem_nil
def kd_X2_stepsOver_2 (g : Nat → Int32 → Int32 → Int32 → cM → Option (Int32 × cM)) : cKf (Int32 × cM) := fun vs st M => (lR vs 0).bind fun x0 => (lI vs 1).bind fun x1 => (lI vs 2).bind fun x2 => (lI vs 3).bind fun x3 => match st with
  | [] => g x0 x1 x2 x3 M
  | _ => none
theorem kf_X2_stepsOver_2 {X : cCtx} {o : cO} {r : Int32 × cM} {g : Nat → Int32 → Int32 → Int32 → cM → Option (Int32 × cM)} (hg : ∀ x0 x1 x2 x3 M, g x0 x1 x2 x3 M = some r → WX X 5 o 2 [some (.ref x0), some (.int x1), some (.int x2), some (.int x3), none] [] M) : ∀ vs st M, kd_X2_stepsOver_2 g vs st M = some r → WX X 5 o 2 vs st M := by
  intro vs st M h
  unfold kd_X2_stepsOver_2 at h
  obtain ⟨x0, h0, h⟩ := Option.bind_eq_some_iff.mp h
  obtain ⟨x1, h1, h⟩ := Option.bind_eq_some_iff.mp h
  obtain ⟨x2, h2, h⟩ := Option.bind_eq_some_iff.mp h
  obtain ⟨x3, h3, h⟩ := Option.bind_eq_some_iff.mp h
  split at h
  · exact WX_weak (hg _ _ _ _ _ h) rfl ⟨lR_of h0, lI_of h1, lI_of h2, lI_of h3, trivial⟩
  · cases h
def kd_X2_stepsOver_48 (g : Nat → Int32 → Int32 → Int32 → Int32 → cM → Option (Int32 × cM)) : cKf (Int32 × cM) := fun vs st M => (lR vs 0).bind fun x0 => (lI vs 1).bind fun x1 => (lI vs 2).bind fun x2 => (lI vs 3).bind fun x3 => (lI vs 4).bind fun x4 => match st with
  | [] => g x0 x1 x2 x3 x4 M
  | _ => none
theorem kf_X2_stepsOver_48 {X : cCtx} {o : cO} {r : Int32 × cM} {g : Nat → Int32 → Int32 → Int32 → Int32 → cM → Option (Int32 × cM)} (hg : ∀ x0 x1 x2 x3 x4 M, g x0 x1 x2 x3 x4 M = some r → WX X 5 o 48 [some (.ref x0), some (.int x1), some (.int x2), some (.int x3), some (.int x4)] [] M) : ∀ vs st M, kd_X2_stepsOver_48 g vs st M = some r → WX X 5 o 48 vs st M := by
  intro vs st M h
  unfold kd_X2_stepsOver_48 at h
  obtain ⟨x0, h0, h⟩ := Option.bind_eq_some_iff.mp h
  obtain ⟨x1, h1, h⟩ := Option.bind_eq_some_iff.mp h
  obtain ⟨x2, h2, h⟩ := Option.bind_eq_some_iff.mp h
  obtain ⟨x3, h3, h⟩ := Option.bind_eq_some_iff.mp h
  obtain ⟨x4, h4, h⟩ := Option.bind_eq_some_iff.mp h
  split at h
  · exact WX_weak (hg _ _ _ _ _ _ h) rfl ⟨lR_of h0, lI_of h1, lI_of h2, lI_of h3, lI_of h4, trivial⟩
  · cases h
theorem e_X2_stepsOver_48 (F : Nat) (t2 : Nat → Int32 → Int32 → Int32 → cM → Option (Int32 × cM)) (x0 : Nat) (x1 : Int32) (x2 : Int32) (x3 : Int32) (x4 : Int32) (M : cM) : b_X2_stepsOver_48 F t2 x0 x1 x2 x3 x4 M = run T_X2_stepsOver P_RX2 false 1 (naL na_X2_stepsOver) (caL (ca_X2_stepsOver F)) (lkN th_X2_stepsOver) (lkN sw_X2_stepsOver) krI kxN (spL [2]) (KL [(2, kd_X2_stepsOver_2 t2)]) 60 48 [some (.ref x0), some (.int x1), some (.int x2), some (.int x3), some (.int x4)] [] M := rfl
theorem ok_X2_stepsOver_48 {X : cCtx} {D : Nat} {r : Int32 × cM} (G : FX X 5 (eI r) cX2_stepsOver RX2 1 D) {F : Nat} (hca : ∀ x ∈ (ca_X2_stepsOver (R' := Int32 × cM) F), 1 ≤ D ∧ ceS X.1 RX2 (D - 1) x.1 x.2) (k2 : Nat → Int32 → Int32 → Int32 → cM → Option (Int32 × cM)) (hk2 : ∀ x0 x1 x2 x3 M, k2 x0 x1 x2 x3 M = some r → WX X 5 (eI r) 2 [some (.ref x0), some (.int x1), some (.int x2), some (.int x3), none] [] M) : ∀ x0 x1 x2 x3 x4 M, f_X2_stepsOver_48 F k2 x0 x1 x2 x3 x4 M = some r → WX X 5 (eI r) 48 [some (.ref x0), some (.int x1), some (.int x2), some (.int x3), some (.int x4)] [] M := by
  intro x0 x1 x2 x3 x4 M h
  exact seg_ok G P_RX2_ok T_X2_stepsOver_ok hca (fun _ h => absurd h List.not_mem_nil) sw_X2_stepsOver_ok krI_ok (kxN_ok (f := eI)) (List.forall_mem_cons.mpr ⟨kf_X2_stepsOver_2 (hk2), fun _ h => absurd h List.not_mem_nil⟩) ((e_X2_stepsOver_48 F (k2) x0 x1 x2 x3 x4 M).symm.trans h)
theorem e_X2_stepsOver_2 (F : Nat) (t48 : Nat → Int32 → Int32 → Int32 → Int32 → cM → Option (Int32 × cM)) (x0 : Nat) (x1 : Int32) (x2 : Int32) (x3 : Int32) (M : cM) : b_X2_stepsOver_2 F t48 x0 x1 x2 x3 M = run T_X2_stepsOver P_RX2 false 1 (naL na_X2_stepsOver) (caL (ca_X2_stepsOver F)) (lkN th_X2_stepsOver) (lkN sw_X2_stepsOver) krI kxN (spL [48]) (KL [(48, kd_X2_stepsOver_48 t48)]) 60 2 [some (.ref x0), some (.int x1), some (.int x2), some (.int x3), none] [] M := rfl
theorem ok_X2_stepsOver_2 {X : cCtx} {D : Nat} {r : Int32 × cM} (G : FX X 5 (eI r) cX2_stepsOver RX2 1 D) {F : Nat} (hca : ∀ x ∈ (ca_X2_stepsOver (R' := Int32 × cM) F), 1 ≤ D ∧ ceS X.1 RX2 (D - 1) x.1 x.2) (n : Nat) : ∀ x0 x1 x2 x3 M, f_X2_stepsOver_2 F n x0 x1 x2 x3 M = some r → WX X 5 (eI r) 2 [some (.ref x0), some (.int x1), some (.int x2), some (.int x3), none] [] M := by
  induction n with
  | zero => intro x0 x1 x2 x3 M h; cases h
  | succ n ih =>
    intro x0 x1 x2 x3 M h
    exact seg_ok G P_RX2_ok T_X2_stepsOver_ok hca (fun _ h => absurd h List.not_mem_nil) sw_X2_stepsOver_ok krI_ok (kxN_ok (f := eI)) (List.forall_mem_cons.mpr ⟨kf_X2_stepsOver_48 (ok_X2_stepsOver_48 G hca (f_X2_stepsOver_2 F n) ih), fun _ h => absurd h List.not_mem_nil⟩) ((e_X2_stepsOver_2 F (f_X2_stepsOver_48 F (f_X2_stepsOver_2 F n)) x0 x1 x2 x3 M).symm.trans h)
theorem e_X2_stepsOver_0 (F : Nat) (t2 : Nat → Int32 → Int32 → Int32 → cM → Option (Int32 × cM)) (x0 : Nat) (x1 : Int32) (x2 : Int32) (M : cM) : b_X2_stepsOver_0 F t2 x0 x1 x2 M = run T_X2_stepsOver P_RX2 false 1 (naL na_X2_stepsOver) (caL (ca_X2_stepsOver F)) (lkN th_X2_stepsOver) (lkN sw_X2_stepsOver) krI kxN (spL [2]) (KL [(2, kd_X2_stepsOver_2 t2)]) 60 0 [some (.ref x0), some (.int x1), some (.int x2), none, none] [] M := rfl
theorem ok_X2_stepsOver_0 {X : cCtx} {D : Nat} {r : Int32 × cM} (G : FX X 5 (eI r) cX2_stepsOver RX2 1 D) {F : Nat} (hca : ∀ x ∈ (ca_X2_stepsOver (R' := Int32 × cM) F), 1 ≤ D ∧ ceS X.1 RX2 (D - 1) x.1 x.2) : ∀ x0 x1 x2 M, f_X2_stepsOver_0 F x0 x1 x2 M = some r → WX X 5 (eI r) 0 [some (.ref x0), some (.int x1), some (.int x2), none, none] [] M := by
  intro x0 x1 x2 M h
  exact seg_ok G P_RX2_ok T_X2_stepsOver_ok hca (fun _ h => absurd h List.not_mem_nil) sw_X2_stepsOver_ok krI_ok (kxN_ok (f := eI)) (List.forall_mem_cons.mpr ⟨kf_X2_stepsOver_2 (ok_X2_stepsOver_2 G hca F), fun _ h => absurd h List.not_mem_nil⟩) ((e_X2_stepsOver_0 F (f_X2_stepsOver_2 F F) x0 x1 x2 M).symm.trans h)
theorem c_X2_stepsOver {q : cL} (hst : q.1.stackTraces = false) {D : Nat} (hD : 0 ≤ D) (F : Nat) (a0 : Nat) (a1 : Int32) (a2 : Int32) (M : cM) (r : Int32 × cM) (h : f_X2_stepsOver F a0 a1 a2 M = some r) : CTx q yX2_stepsOver (.code yX2_stepsOver cX2_stepsOver 5 (some .boolean)) D [.ref a0, .int a1, .int a2] M (eI r) ∧ ∃ fs, M[a0]? = some (.inr (1, fs)) := by
  unfold f_X2_stepsOver at h
  split at h
  · next hi => exact ⟨CTx_of (own := RX2) (rk := 1) hst (by decide +kernel) rfl (rfl) (Nat.le_of_ble_eq_true rfl) (fun X hX G => by subst hX; exact ok_X2_stepsOver_0 G (ca_X2_stepsOver_ok hst hD F) a0 a1 a2 M h), isC_of hi⟩
  · cases h
def n_X2_stepsOver {R' : Type} (f : Nat → Int32 → Int32 → cM → Option (Int32 × cM)) : cFn R' := fun as M κ κx => match as with
  | [.ref a0, .int a1, .int a2] => (f a0 a1 a2 M).bind fun p => κ (some (.int p.1)) p.2
  | _ => none
theorem w_X2_stepsOver : ∀ w ∈ [Cond.instanceMethod yX2_stepsOver, .selects yX2_stepsOver.cls yX2_stepsOver yX2_stepsOver, .initialized yX2_stepsOver.cls, .code yX2_stepsOver cX2_stepsOver 5 (some .boolean)], w ∈ lw_good := List.forall_mem_cons.mpr ⟨lw_good_of (tb_ok 932 (by decide +kernel)) rfl, List.forall_mem_cons.mpr ⟨lw_good_of (ts_ok 25 (by decide +kernel)) rfl, List.forall_mem_cons.mpr ⟨lw_good_of (tb_ok 8 (by decide +kernel)) rfl, List.forall_mem_cons.mpr ⟨lw_good_of (tb_ok 933 (by decide +kernel)) rfl, fun _ h => absurd h List.not_mem_nil⟩⟩⟩⟩
theorem n_X2_stepsOver_ok {R' : Type} {q : cL} {own : String} {d k : Nat} {f : Nat → Int32 → Int32 → cM → Option (Int32 × cM)} (hl : Cond.methodLink own k yX2_stepsOver ∈ lw_good) (hf : ∀ a0 a1 a2 M r, f a0 a1 a2 M = some r → CTx q yX2_stepsOver (.code yX2_stepsOver cX2_stepsOver 5 (some .boolean)) d [.ref a0, .int a1, .int a2] M (eI r) ∧ ∃ fs, M[a0]? = some (.inr (1, fs))) : ceS q own d (3 * k + 1) (n_X2_stepsOver (R' := R') f) := by
  intro as M κ κx r h
  unfold n_X2_stepsOver at h
  split at h
  · obtain ⟨p, h1, h2⟩ := Option.bind_eq_some_iff.mp h
    obtain ⟨hc, fs, ha⟩ := hf _ _ _ _ _ h1
    exact ⟨eI p, fun _ => h2, fun hne => absurd rfl hne, Or.inr (Or.inl ⟨yX2_stepsOver, cX2_stepsOver, 5, (some .boolean), k, 2, _, _, 1, TX2, 14, fs, rfl, rfl, hc, ha, rfl, List.forall_mem_cons.mpr ⟨hl, w_X2_stepsOver⟩, ⟨rfl, by decide +kernel, by decide +kernel, by decide +kernel⟩, rfl, by decide⟩)⟩
  · cases h
def n_X2_atomEndings {R' : Type} (f : Nat → Int32 → Int32 → Int64 → cM → Option (Int64 × cM)) : cFn R' := fun as M κ κx => match as with
  | [.ref a0, .int a1, .int a2, .long a3] => (f a0 a1 a2 a3 M).bind fun p => κ (some (.long p.1)) p.2
  | _ => none
theorem w_X2_atomEndings : ∀ w ∈ [Cond.instanceMethod yX2_atomEndings, .selects yX2_atomEndings.cls yX2_atomEndings yX2_atomEndings, .initialized yX2_atomEndings.cls, .code yX2_atomEndings cX2_atomEndings 9 (some .long)], w ∈ lw_good := List.forall_mem_cons.mpr ⟨lw_good_of (tb_ok 928 (by decide +kernel)) rfl, List.forall_mem_cons.mpr ⟨lw_good_of (ts_ok 24 (by decide +kernel)) rfl, List.forall_mem_cons.mpr ⟨lw_good_of (tb_ok 8 (by decide +kernel)) rfl, List.forall_mem_cons.mpr ⟨lw_good_of (tb_ok 929 (by decide +kernel)) rfl, fun _ h => absurd h List.not_mem_nil⟩⟩⟩⟩
theorem n_X2_atomEndings_ok {R' : Type} {q : cL} {own : String} {d k : Nat} {f : Nat → Int32 → Int32 → Int64 → cM → Option (Int64 × cM)} (hl : Cond.methodLink own k yX2_atomEndings ∈ lw_good) (hf : ∀ a0 a1 a2 a3 M r, f a0 a1 a2 a3 M = some r → CTx q yX2_atomEndings (.code yX2_atomEndings cX2_atomEndings 9 (some .long)) d [.ref a0, .int a1, .int a2, .long a3] M (eJ r) ∧ ∃ fs, M[a0]? = some (.inr (1, fs))) : ceS q own d (3 * k + 1) (n_X2_atomEndings (R' := R') f) := by
  intro as M κ κx r h
  unfold n_X2_atomEndings at h
  split at h
  · obtain ⟨p, h1, h2⟩ := Option.bind_eq_some_iff.mp h
    obtain ⟨hc, fs, ha⟩ := hf _ _ _ _ _ _ h1
    exact ⟨eJ p, fun _ => h2, fun hne => absurd rfl hne, Or.inr (Or.inl ⟨yX2_atomEndings, cX2_atomEndings, 9, (some .long), k, 3, _, _, 1, TX2, 14, fs, rfl, rfl, hc, ha, rfl, List.forall_mem_cons.mpr ⟨hl, w_X2_atomEndings⟩, ⟨rfl, by decide +kernel, by decide +kernel, by decide +kernel⟩, rfl, by decide⟩)⟩
  · cases h
def n_X2_constEndings {R' : Type} (f : Nat → Int32 → Int32 → cM → Option (Int64 × cM)) : cFn R' := fun as M κ κx => match as with
  | [.ref a0, .int a1, .int a2] => (f a0 a1 a2 M).bind fun p => κ (some (.long p.1)) p.2
  | _ => none
theorem w_X2_constEndings : ∀ w ∈ [Cond.instanceMethod yX2_constEndings, .selects yX2_constEndings.cls yX2_constEndings yX2_constEndings, .initialized yX2_constEndings.cls, .code yX2_constEndings cX2_constEndings 8 (some .long)], w ∈ lw_good := List.forall_mem_cons.mpr ⟨lw_good_of (tb_ok 920 (by decide +kernel)) rfl, List.forall_mem_cons.mpr ⟨lw_good_of (ts_ok 22 (by decide +kernel)) rfl, List.forall_mem_cons.mpr ⟨lw_good_of (tb_ok 8 (by decide +kernel)) rfl, List.forall_mem_cons.mpr ⟨lw_good_of (tb_ok 921 (by decide +kernel)) rfl, fun _ h => absurd h List.not_mem_nil⟩⟩⟩⟩
theorem n_X2_constEndings_ok {R' : Type} {q : cL} {own : String} {d k : Nat} {f : Nat → Int32 → Int32 → cM → Option (Int64 × cM)} (hl : Cond.methodLink own k yX2_constEndings ∈ lw_good) (hf : ∀ a0 a1 a2 M r, f a0 a1 a2 M = some r → CTx q yX2_constEndings (.code yX2_constEndings cX2_constEndings 8 (some .long)) d [.ref a0, .int a1, .int a2] M (eJ r) ∧ ∃ fs, M[a0]? = some (.inr (1, fs))) : ceS q own d (3 * k + 1) (n_X2_constEndings (R' := R') f) := by
  intro as M κ κx r h
  unfold n_X2_constEndings at h
  split at h
  · obtain ⟨p, h1, h2⟩ := Option.bind_eq_some_iff.mp h
    obtain ⟨hc, fs, ha⟩ := hf _ _ _ _ _ h1
    exact ⟨eJ p, fun _ => h2, fun hne => absurd rfl hne, Or.inr (Or.inl ⟨yX2_constEndings, cX2_constEndings, 8, (some .long), k, 2, _, _, 1, TX2, 14, fs, rfl, rfl, hc, ha, rfl, List.forall_mem_cons.mpr ⟨hl, w_X2_constEndings⟩, ⟨rfl, by decide +kernel, by decide +kernel, by decide +kernel⟩, rfl, by decide⟩)⟩
  · cases h
def n_X2_endings {R' : Type} (f : Nat → Int32 → Int32 → Int64 → cM → Option (Int64 × cM)) : cFn R' := fun as M κ κx => match as with
  | [.ref a0, .int a1, .int a2, .long a3] => (f a0 a1 a2 a3 M).bind fun p => κ (some (.long p.1)) p.2
  | _ => none
theorem w_X2_endings : ∀ w ∈ [Cond.instanceMethod yX2_endings, .selects yX2_endings.cls yX2_endings yX2_endings, .initialized yX2_endings.cls, .code yX2_endings cX2_endings 13 (some .long)], w ∈ lw_good := List.forall_mem_cons.mpr ⟨lw_good_of (tb_ok 908 (by decide +kernel)) rfl, List.forall_mem_cons.mpr ⟨lw_good_of (ts_ok 20 (by decide +kernel)) rfl, List.forall_mem_cons.mpr ⟨lw_good_of (tb_ok 8 (by decide +kernel)) rfl, List.forall_mem_cons.mpr ⟨lw_good_of (tb_ok 909 (by decide +kernel)) rfl, fun _ h => absurd h List.not_mem_nil⟩⟩⟩⟩
theorem n_X2_endings_ok {R' : Type} {q : cL} {own : String} {d k : Nat} {f : Nat → Int32 → Int32 → Int64 → cM → Option (Int64 × cM)} (hl : Cond.methodLink own k yX2_endings ∈ lw_good) (hf : ∀ a0 a1 a2 a3 M r, f a0 a1 a2 a3 M = some r → CTx q yX2_endings (.code yX2_endings cX2_endings 13 (some .long)) d [.ref a0, .int a1, .int a2, .long a3] M (eJ r) ∧ ∃ fs, M[a0]? = some (.inr (1, fs))) : ceS q own d (3 * k + 1) (n_X2_endings (R' := R') f) := by
  intro as M κ κx r h
  unfold n_X2_endings at h
  split at h
  · obtain ⟨p, h1, h2⟩ := Option.bind_eq_some_iff.mp h
    obtain ⟨hc, fs, ha⟩ := hf _ _ _ _ _ _ h1
    exact ⟨eJ p, fun _ => h2, fun hne => absurd rfl hne, Or.inr (Or.inl ⟨yX2_endings, cX2_endings, 13, (some .long), k, 3, _, _, 1, TX2, 14, fs, rfl, rfl, hc, ha, rfl, List.forall_mem_cons.mpr ⟨hl, w_X2_endings⟩, ⟨rfl, by decide +kernel, by decide +kernel, by decide +kernel⟩, rfl, by decide⟩)⟩
  · cases h
-- PatchbayScript$Finder.atomEndings(IIJ)J
def T_X2_atomEndings : List cRow := [(0, .lconst 0, 1, 0), (1, .lstore 5, 3, 0), (3, .aload_n 0, 4, 0), (4, .getfield 34, 7, 0), (7, .iload_n 2, 8, 0), (8, .iaload, 9, 0), (9, .istore 7, 11, 0), (11, .iload 7, 13, 0), (13, .iconst (-1), 14, 0), (14, .if_icmp .eq 38, 17, 52), (17, .aload_n 0, 18, 0), (18, .iload 7, 20, 0), (20, .iload_n 2, 21, 0), (21, .invokevirtual 201, 24, 0), (24, .ifCond .eq 28, 27, 52), (27, .aload_n 0, 28, 0), (28, .iload_n 1, 29, 0), (29, .iload_n 2, 30, 0), (30, .iconst 1, 31, 0), (31, .iadd, 32, 0), (32, .ldc2_w 175, 35, 0), (35, .invokevirtual 198, 38, 0), (38, .aload_n 0, 39, 0), (39, .getfield 26, 42, 0), (42, .getfield 132, 45, 0), (45, .iload 7, 47, 0), (47, .iaload, 48, 0), (48, .iconst 4, 49, 0), (49, .isub, 50, 0), (50, .lshl, 51, 0), (51, .lreturn, 52, 0), (52, .iconst 0, 53, 0), (53, .istore 8, 55, 0), (55, .iload 8, 57, 0), (57, .aload_n 0, 58, 0), (58, .getfield 26, 61, 0), (61, .getfield 138, 64, 0), (64, .if_icmp .ge 73, 67, 137), (67, .aload_n 0, 68, 0), (68, .getfield 30, 71, 0), (71, .iload_n 2, 72, 0), (72, .iaload, 73, 0), (73, .iconst (-1), 74, 0), (74, .if_icmp .ne 63, 77, 137), (77, .lload 5, 79, 0), (79, .lload_n 3, 80, 0), (80, .lcmp, 81, 0), (81, .ifCond .eq 56, 84, 137), (84, .aload_n 0, 85, 0), (85, .aload_n 0, 86, 0), (86, .getfield 26, 89, 0), (89, .getfield 141, 92, 0), (92, .iload 8, 94, 0), (94, .iaload, 95, 0), (95, .iload_n 2, 96, 0), (96, .invokevirtual 201, 99, 0), (99, .ifCond .eq 32, 102, 131), (102, .lload 5, 104, 0), (104, .aload_n 0, 105, 0), (105, .iload_n 1, 106, 0), (106, .iload_n 2, 107, 0), (107, .iconst 1, 108, 0), (108, .iadd, 109, 0), (109, .ldc2_w 175, 112, 0), (112, .invokevirtual 198, 115, 0), (115, .aload_n 0, 116, 0), (116, .getfield 26, 119, 0), (119, .getfield 144, 122, 0), (122, .iload 8, 124, 0), (124, .iaload, 125, 0), (125, .invokestatic 171, 128, 0), (128, .lor, 129, 0), (129, .lstore 5, 131, 0), (131, .iinc 8 1, 134, 0), (134, .goto (-79), 137, 55), (137, .lload 5, 139, 0), (139, .lreturn, 140, 0)]
theorem T_X2_atomEndings_ok : T_X2_atomEndings.all (rowB cX2_atomEndings) = true := by decide +kernel
def th_X2_atomEndings : List (Nat × Nat) := []
def sw_X2_atomEndings : List (Nat × (List (Int32 × Nat) × Nat)) := []
theorem sw_X2_atomEndings_ok : ∀ q ∈ sw_X2_atomEndings, swS cX2_atomEndings q := fun _ h => absurd h List.not_mem_nil
def na_X2_atomEndings : List (Nat × Nat) := [(604, 3), (595, 4), (513, 2)]
def ca_X2_atomEndings {R' : Type} (F : Nat) (g_X2_endings : Nat → Int32 → Int32 → Int64 → cM → Option (Int64 × cM)) : List (Nat × cFn R') := [(604, n_X2_stepsOver (f_X2_stepsOver F)), (595, n_X2_endings (g_X2_endings)), (513, n_X2_heavier (f_X2_heavier F))]
theorem ca_X2_atomEndings_ok {R' : Type} {q : cL} (hst : q.1.stackTraces = false) {D : Nat} (hD : 1 ≤ D) (F : Nat) (g_X2_endings : Nat → Int32 → Int32 → Int64 → cM → Option (Int64 × cM)) (h_X2_endings : ∀ a0 a1 a2 a3 M r, g_X2_endings a0 a1 a2 a3 M = some r → CTx q yX2_endings (.code yX2_endings cX2_endings 13 (some .long)) (D - 1) [.ref a0, .int a1, .int a2, .long a3] M (eJ r) ∧ ∃ fs, M[a0]? = some (.inr (1, fs))) : ∀ x ∈ (ca_X2_atomEndings (R' := R') F g_X2_endings), 1 ≤ D ∧ ceS q RX2 (D - 1) x.1 x.2 := List.forall_mem_cons.mpr ⟨⟨by omega, n_X2_stepsOver_ok (k := 201) (lw_good_of (tb_ok 930 (by decide +kernel)) rfl) (fun a0 a1 a2 M r h => c_X2_stepsOver hst (by omega) F a0 a1 a2 M r h)⟩, List.forall_mem_cons.mpr ⟨⟨by omega, n_X2_endings_ok (k := 198) (lw_good_of (tb_ok 906 (by decide +kernel)) rfl) (h_X2_endings)⟩, List.forall_mem_cons.mpr ⟨⟨by omega, n_X2_heavier_ok (k := 171) (lw_good_of (tb_ok 899 (by decide +kernel)) rfl) (fun a0 a1 M r h => c_X2_heavier hst (by omega) F a0 a1 M r h)⟩, fun _ h => absurd h List.not_mem_nil⟩⟩⟩
def kd_X2_atomEndings_55 (g : Nat → Int32 → Int32 → Int64 → Int64 → Int32 → cM → Option (Int64 × cM)) : cKf (Int64 × cM) := fun vs st M => (lR vs 0).bind fun x0 => (lI vs 1).bind fun x1 => (lI vs 2).bind fun x2 => (lJ vs 3).bind fun x3 => (lJ vs 5).bind fun x5 => (lI vs 8).bind fun x8 => match st with
  | [] => g x0 x1 x2 x3 x5 x8 M
  | _ => none
theorem kf_X2_atomEndings_55 {X : cCtx} {o : cO} {r : Int64 × cM} {g : Nat → Int32 → Int32 → Int64 → Int64 → Int32 → cM → Option (Int64 × cM)} (hg : ∀ x0 x1 x2 x3 x5 x8 M, g x0 x1 x2 x3 x5 x8 M = some r → WX X 9 o 55 [some (.ref x0), some (.int x1), some (.int x2), some (.long x3), none, some (.long x5), none, none, some (.int x8)] [] M) : ∀ vs st M, kd_X2_atomEndings_55 g vs st M = some r → WX X 9 o 55 vs st M := by
  intro vs st M h
  unfold kd_X2_atomEndings_55 at h
  obtain ⟨x0, h0, h⟩ := Option.bind_eq_some_iff.mp h
  obtain ⟨x1, h1, h⟩ := Option.bind_eq_some_iff.mp h
  obtain ⟨x2, h2, h⟩ := Option.bind_eq_some_iff.mp h
  obtain ⟨x3, h3, h⟩ := Option.bind_eq_some_iff.mp h
  obtain ⟨x5, h5, h⟩ := Option.bind_eq_some_iff.mp h
  obtain ⟨x8, h8, h⟩ := Option.bind_eq_some_iff.mp h
  split at h
  · exact WX_weak (hg _ _ _ _ _ _ _ h) rfl ⟨lR_of h0, lI_of h1, lI_of h2, lJ_of h3, lJ_of h5, lI_of h8, trivial⟩
  · cases h
def kd_X2_atomEndings_102 (g : Nat → Int32 → Int32 → Int64 → Int64 → Int32 → cM → Option (Int64 × cM)) : cKf (Int64 × cM) := fun vs st M => (lR vs 0).bind fun x0 => (lI vs 1).bind fun x1 => (lI vs 2).bind fun x2 => (lJ vs 3).bind fun x3 => (lJ vs 5).bind fun x5 => (lI vs 8).bind fun x8 => match st with
  | [] => g x0 x1 x2 x3 x5 x8 M
  | _ => none
theorem kf_X2_atomEndings_102 {X : cCtx} {o : cO} {r : Int64 × cM} {g : Nat → Int32 → Int32 → Int64 → Int64 → Int32 → cM → Option (Int64 × cM)} (hg : ∀ x0 x1 x2 x3 x5 x8 M, g x0 x1 x2 x3 x5 x8 M = some r → WX X 9 o 102 [some (.ref x0), some (.int x1), some (.int x2), some (.long x3), none, some (.long x5), none, none, some (.int x8)] [] M) : ∀ vs st M, kd_X2_atomEndings_102 g vs st M = some r → WX X 9 o 102 vs st M := by
  intro vs st M h
  unfold kd_X2_atomEndings_102 at h
  obtain ⟨x0, h0, h⟩ := Option.bind_eq_some_iff.mp h
  obtain ⟨x1, h1, h⟩ := Option.bind_eq_some_iff.mp h
  obtain ⟨x2, h2, h⟩ := Option.bind_eq_some_iff.mp h
  obtain ⟨x3, h3, h⟩ := Option.bind_eq_some_iff.mp h
  obtain ⟨x5, h5, h⟩ := Option.bind_eq_some_iff.mp h
  obtain ⟨x8, h8, h⟩ := Option.bind_eq_some_iff.mp h
  split at h
  · exact WX_weak (hg _ _ _ _ _ _ _ h) rfl ⟨lR_of h0, lI_of h1, lI_of h2, lJ_of h3, lJ_of h5, lI_of h8, trivial⟩
  · cases h
theorem e_X2_atomEndings_102 (F : Nat) (g_X2_endings : Nat → Int32 → Int32 → Int64 → cM → Option (Int64 × cM)) (t55 : Nat → Int32 → Int32 → Int64 → Int64 → Int32 → cM → Option (Int64 × cM)) (x0 : Nat) (x1 : Int32) (x2 : Int32) (x3 : Int64) (x5 : Int64) (x8 : Int32) (M : cM) : b_X2_atomEndings_102 F g_X2_endings t55 x0 x1 x2 x3 x5 x8 M = run T_X2_atomEndings P_RX2 false 3 (naL na_X2_atomEndings) (caL (ca_X2_atomEndings F g_X2_endings)) (lkN th_X2_atomEndings) (lkN sw_X2_atomEndings) krJ kxN (spL [55]) (KL [(55, kd_X2_atomEndings_55 t55)]) 80 102 [some (.ref x0), some (.int x1), some (.int x2), some (.long x3), none, some (.long x5), none, none, some (.int x8)] [] M := rfl
theorem ok_X2_atomEndings_102 {X : cCtx} {D : Nat} {r : Int64 × cM} (G : FX X 9 (eJ r) cX2_atomEndings RX2 3 D) {F : Nat} (g_X2_endings : Nat → Int32 → Int32 → Int64 → cM → Option (Int64 × cM)) (hca : ∀ x ∈ (ca_X2_atomEndings (R' := Int64 × cM) F g_X2_endings), 1 ≤ D ∧ ceS X.1 RX2 (D - 1) x.1 x.2) (k55 : Nat → Int32 → Int32 → Int64 → Int64 → Int32 → cM → Option (Int64 × cM)) (hk55 : ∀ x0 x1 x2 x3 x5 x8 M, k55 x0 x1 x2 x3 x5 x8 M = some r → WX X 9 (eJ r) 55 [some (.ref x0), some (.int x1), some (.int x2), some (.long x3), none, some (.long x5), none, none, some (.int x8)] [] M) : ∀ x0 x1 x2 x3 x5 x8 M, f_X2_atomEndings_102 F g_X2_endings k55 x0 x1 x2 x3 x5 x8 M = some r → WX X 9 (eJ r) 102 [some (.ref x0), some (.int x1), some (.int x2), some (.long x3), none, some (.long x5), none, none, some (.int x8)] [] M := by
  intro x0 x1 x2 x3 x5 x8 M h
  exact seg_ok G P_RX2_ok T_X2_atomEndings_ok hca (fun _ h => absurd h List.not_mem_nil) sw_X2_atomEndings_ok krJ_ok (kxN_ok (f := eJ)) (List.forall_mem_cons.mpr ⟨kf_X2_atomEndings_55 (hk55), fun _ h => absurd h List.not_mem_nil⟩) ((e_X2_atomEndings_102 F g_X2_endings (k55) x0 x1 x2 x3 x5 x8 M).symm.trans h)
theorem e_X2_atomEndings_55 (F : Nat) (g_X2_endings : Nat → Int32 → Int32 → Int64 → cM → Option (Int64 × cM)) (t55 : Nat → Int32 → Int32 → Int64 → Int64 → Int32 → cM → Option (Int64 × cM)) (t102 : Nat → Int32 → Int32 → Int64 → Int64 → Int32 → cM → Option (Int64 × cM)) (x0 : Nat) (x1 : Int32) (x2 : Int32) (x3 : Int64) (x5 : Int64) (x8 : Int32) (M : cM) : b_X2_atomEndings_55 F g_X2_endings t55 t102 x0 x1 x2 x3 x5 x8 M = run T_X2_atomEndings P_RX2 false 3 (naL na_X2_atomEndings) (caL (ca_X2_atomEndings F g_X2_endings)) (lkN th_X2_atomEndings) (lkN sw_X2_atomEndings) krJ kxN (spL [55, 102]) (KL [(55, kd_X2_atomEndings_55 t55), (102, kd_X2_atomEndings_102 t102)]) 80 55 [some (.ref x0), some (.int x1), some (.int x2), some (.long x3), none, some (.long x5), none, none, some (.int x8)] [] M := rfl
theorem ok_X2_atomEndings_55 {X : cCtx} {D : Nat} {r : Int64 × cM} (G : FX X 9 (eJ r) cX2_atomEndings RX2 3 D) {F : Nat} (g_X2_endings : Nat → Int32 → Int32 → Int64 → cM → Option (Int64 × cM)) (hca : ∀ x ∈ (ca_X2_atomEndings (R' := Int64 × cM) F g_X2_endings), 1 ≤ D ∧ ceS X.1 RX2 (D - 1) x.1 x.2) (n : Nat) : ∀ x0 x1 x2 x3 x5 x8 M, f_X2_atomEndings_55 F g_X2_endings n x0 x1 x2 x3 x5 x8 M = some r → WX X 9 (eJ r) 55 [some (.ref x0), some (.int x1), some (.int x2), some (.long x3), none, some (.long x5), none, none, some (.int x8)] [] M := by
  induction n with
  | zero => intro x0 x1 x2 x3 x5 x8 M h; cases h
  | succ n ih =>
    intro x0 x1 x2 x3 x5 x8 M h
    exact seg_ok G P_RX2_ok T_X2_atomEndings_ok hca (fun _ h => absurd h List.not_mem_nil) sw_X2_atomEndings_ok krJ_ok (kxN_ok (f := eJ)) (List.forall_mem_cons.mpr ⟨kf_X2_atomEndings_55 (ih), List.forall_mem_cons.mpr ⟨kf_X2_atomEndings_102 (ok_X2_atomEndings_102 G g_X2_endings hca (f_X2_atomEndings_55 F g_X2_endings n) ih), fun _ h => absurd h List.not_mem_nil⟩⟩) ((e_X2_atomEndings_55 F g_X2_endings (f_X2_atomEndings_55 F g_X2_endings n) (f_X2_atomEndings_102 F g_X2_endings (f_X2_atomEndings_55 F g_X2_endings n)) x0 x1 x2 x3 x5 x8 M).symm.trans h)
theorem e_X2_atomEndings_0 (F : Nat) (g_X2_endings : Nat → Int32 → Int32 → Int64 → cM → Option (Int64 × cM)) (t55 : Nat → Int32 → Int32 → Int64 → Int64 → Int32 → cM → Option (Int64 × cM)) (x0 : Nat) (x1 : Int32) (x2 : Int32) (x3 : Int64) (M : cM) : b_X2_atomEndings_0 F g_X2_endings t55 x0 x1 x2 x3 M = run T_X2_atomEndings P_RX2 false 3 (naL na_X2_atomEndings) (caL (ca_X2_atomEndings F g_X2_endings)) (lkN th_X2_atomEndings) (lkN sw_X2_atomEndings) krJ kxN (spL [55]) (KL [(55, kd_X2_atomEndings_55 t55)]) 80 0 [some (.ref x0), some (.int x1), some (.int x2), some (.long x3), none, none, none, none, none] [] M := rfl
theorem ok_X2_atomEndings_0 {X : cCtx} {D : Nat} {r : Int64 × cM} (G : FX X 9 (eJ r) cX2_atomEndings RX2 3 D) {F : Nat} (g_X2_endings : Nat → Int32 → Int32 → Int64 → cM → Option (Int64 × cM)) (hca : ∀ x ∈ (ca_X2_atomEndings (R' := Int64 × cM) F g_X2_endings), 1 ≤ D ∧ ceS X.1 RX2 (D - 1) x.1 x.2) : ∀ x0 x1 x2 x3 M, f_X2_atomEndings_0 F g_X2_endings x0 x1 x2 x3 M = some r → WX X 9 (eJ r) 0 [some (.ref x0), some (.int x1), some (.int x2), some (.long x3), none, none, none, none, none] [] M := by
  intro x0 x1 x2 x3 M h
  exact seg_ok G P_RX2_ok T_X2_atomEndings_ok hca (fun _ h => absurd h List.not_mem_nil) sw_X2_atomEndings_ok krJ_ok (kxN_ok (f := eJ)) (List.forall_mem_cons.mpr ⟨kf_X2_atomEndings_55 (ok_X2_atomEndings_55 G g_X2_endings hca F), fun _ h => absurd h List.not_mem_nil⟩) ((e_X2_atomEndings_0 F g_X2_endings (f_X2_atomEndings_55 F g_X2_endings F) x0 x1 x2 x3 M).symm.trans h)
theorem c_X2_atomEndings {q : cL} (hst : q.1.stackTraces = false) {D : Nat} (hD : 1 ≤ D) (F : Nat) (g_X2_endings : Nat → Int32 → Int32 → Int64 → cM → Option (Int64 × cM)) (h_X2_endings : ∀ a0 a1 a2 a3 M r, g_X2_endings a0 a1 a2 a3 M = some r → CTx q yX2_endings (.code yX2_endings cX2_endings 13 (some .long)) (D - 1) [.ref a0, .int a1, .int a2, .long a3] M (eJ r) ∧ ∃ fs, M[a0]? = some (.inr (1, fs))) (a0 : Nat) (a1 : Int32) (a2 : Int32) (a3 : Int64) (M : cM) (r : Int64 × cM) (h : f_X2_atomEndings F g_X2_endings a0 a1 a2 a3 M = some r) : CTx q yX2_atomEndings (.code yX2_atomEndings cX2_atomEndings 9 (some .long)) D [.ref a0, .int a1, .int a2, .long a3] M (eJ r) ∧ ∃ fs, M[a0]? = some (.inr (1, fs)) := by
  unfold f_X2_atomEndings at h
  split at h
  · next hi => exact ⟨CTx_of (own := RX2) (rk := 3) hst (by decide +kernel) rfl (rfl) (Nat.le_of_ble_eq_true rfl) (fun X hX G => by subst hX; exact ok_X2_atomEndings_0 G g_X2_endings (ca_X2_atomEndings_ok hst hD F g_X2_endings h_X2_endings) a0 a1 a2 a3 M h), isC_of hi⟩
  · cases h
-- PatchbayScript$Finder.constEndings(II)J
def T_X2_constEndings : List cRow := [(0, .lconst 0, 1, 0), (1, .lstore_n 3, 2, 0), (2, .iconst 0, 3, 0), (3, .istore 5, 5, 0), (5, .iconst 1, 6, 0), (6, .istore 6, 8, 0), (8, .iload 6, 10, 0), (10, .iconst 4, 11, 0), (11, .if_icmp .gt 82, 14, 93), (14, .aload_n 0, 15, 0), (15, .iload_n 2, 16, 0), (16, .iload 6, 18, 0), (18, .invokevirtual 194, 21, 0), (21, .istore 7, 23, 0), (23, .iload 7, 25, 0), (25, .ifCond .ne 6, 28, 31), (28, .goto 65, 31, 93), (31, .iload 5, 33, 0), (33, .iload 6, 35, 0), (35, .iconst 1, 36, 0), (36, .isub, 37, 0), (37, .iload 7, 39, 0), (39, .invokestatic 153, 42, 0), (42, .istore 5, 44, 0), (44, .aload_n 0, 45, 0), (45, .getfield 30, 48, 0), (48, .iload_n 2, 49, 0), (49, .iaload, 50, 0), (50, .iconst (-1), 51, 0), (51, .if_icmp .eq 14, 54, 65), (54, .aload_n 0, 55, 0), (55, .getfield 30, 58, 0), (58, .iload_n 2, 59, 0), (59, .iaload, 60, 0), (60, .iload 5, 62, 0), (62, .if_icmp .ne 25, 65, 87), (65, .lload_n 3, 66, 0), (66, .aload_n 0, 67, 0), (67, .iload_n 1, 68, 0), (68, .iload_n 2, 69, 0), (69, .iconst 1, 70, 0), (70, .iadd, 71, 0), (71, .ldc2_w 175, 74, 0), (74, .invokevirtual 198, 77, 0), (77, .iload 6, 79, 0), (79, .invokestatic 157, 82, 0), (82, .iconst 4, 83, 0), (83, .isub, 84, 0), (84, .lshl, 85, 0), (85, .lor, 86, 0), (86, .lstore_n 3, 87, 0), (87, .iinc 6 1, 90, 0), (90, .goto (-82), 93, 8), (93, .lload_n 3, 94, 0), (94, .lreturn, 95, 0)]
theorem T_X2_constEndings_ok : T_X2_constEndings.all (rowB cX2_constEndings) = true := by decide +kernel
def th_X2_constEndings : List (Nat × Nat) := []
def sw_X2_constEndings : List (Nat × (List (Int32 × Nat) × Nat)) := []
theorem sw_X2_constEndings_ok : ∀ q ∈ sw_X2_constEndings, swS cX2_constEndings q := fun _ h => absurd h List.not_mem_nil
def na_X2_constEndings : List (Nat × Nat) := [(583, 3), (459, 3), (595, 4), (471, 1)]
def ca_X2_constEndings {R' : Type} (F : Nat) (g_X2_endings : Nat → Int32 → Int32 → Int64 → cM → Option (Int64 × cM)) : List (Nat × cFn R') := [(583, n_X2_stepOverSign (f_X2_stepOverSign F)), (459, n_X0_withSign (f_X0_withSign F)), (595, n_X2_endings (g_X2_endings)), (471, n_X0_weightOfConst (f_X0_weightOfConst F))]
theorem ca_X2_constEndings_ok {R' : Type} {q : cL} (hst : q.1.stackTraces = false) {D : Nat} (hD : 2 ≤ D) (F : Nat) (g_X2_endings : Nat → Int32 → Int32 → Int64 → cM → Option (Int64 × cM)) (h_X2_endings : ∀ a0 a1 a2 a3 M r, g_X2_endings a0 a1 a2 a3 M = some r → CTx q yX2_endings (.code yX2_endings cX2_endings 13 (some .long)) (D - 1) [.ref a0, .int a1, .int a2, .long a3] M (eJ r) ∧ ∃ fs, M[a0]? = some (.inr (1, fs))) : ∀ x ∈ (ca_X2_constEndings (R' := R') F g_X2_endings), 1 ≤ D ∧ ceS q RX2 (D - 1) x.1 x.2 := List.forall_mem_cons.mpr ⟨⟨by omega, n_X2_stepOverSign_ok (k := 194) (lw_good_of (tb_ok 922 (by decide +kernel)) rfl) (fun a0 a1 a2 M r h => c_X2_stepOverSign hst (by omega) F a0 a1 a2 M r h)⟩, List.forall_mem_cons.mpr ⟨⟨by omega, n_X0_withSign_ok (k := 153) (lw_good_of (tb_ok 892 (by decide +kernel)) rfl) (fun a0 a1 a2 M r h => c_X0_withSign hst (by omega) F a0 a1 a2 M r h)⟩, List.forall_mem_cons.mpr ⟨⟨by omega, n_X2_endings_ok (k := 198) (lw_good_of (tb_ok 906 (by decide +kernel)) rfl) (h_X2_endings)⟩, List.forall_mem_cons.mpr ⟨⟨by omega, n_X0_weightOfConst_ok (k := 157) (lw_good_of (tb_ok 893 (by decide +kernel)) rfl) (fun a0 M r h => c_X0_weightOfConst hst (by omega) F a0 M r h)⟩, fun _ h => absurd h List.not_mem_nil⟩⟩⟩⟩
def kd_X2_constEndings_8 (g : Nat → Int32 → Int32 → Int64 → Int32 → Int32 → cM → Option (Int64 × cM)) : cKf (Int64 × cM) := fun vs st M => (lR vs 0).bind fun x0 => (lI vs 1).bind fun x1 => (lI vs 2).bind fun x2 => (lJ vs 3).bind fun x3 => (lI vs 5).bind fun x5 => (lI vs 6).bind fun x6 => match st with
  | [] => g x0 x1 x2 x3 x5 x6 M
  | _ => none
theorem kf_X2_constEndings_8 {X : cCtx} {o : cO} {r : Int64 × cM} {g : Nat → Int32 → Int32 → Int64 → Int32 → Int32 → cM → Option (Int64 × cM)} (hg : ∀ x0 x1 x2 x3 x5 x6 M, g x0 x1 x2 x3 x5 x6 M = some r → WX X 8 o 8 [some (.ref x0), some (.int x1), some (.int x2), some (.long x3), none, some (.int x5), some (.int x6), none] [] M) : ∀ vs st M, kd_X2_constEndings_8 g vs st M = some r → WX X 8 o 8 vs st M := by
  intro vs st M h
  unfold kd_X2_constEndings_8 at h
  obtain ⟨x0, h0, h⟩ := Option.bind_eq_some_iff.mp h
  obtain ⟨x1, h1, h⟩ := Option.bind_eq_some_iff.mp h
  obtain ⟨x2, h2, h⟩ := Option.bind_eq_some_iff.mp h
  obtain ⟨x3, h3, h⟩ := Option.bind_eq_some_iff.mp h
  obtain ⟨x5, h5, h⟩ := Option.bind_eq_some_iff.mp h
  obtain ⟨x6, h6, h⟩ := Option.bind_eq_some_iff.mp h
  split at h
  · exact WX_weak (hg _ _ _ _ _ _ _ h) rfl ⟨lR_of h0, lI_of h1, lI_of h2, lJ_of h3, lI_of h5, lI_of h6, trivial⟩
  · cases h
def kd_X2_constEndings_65 (g : Nat → Int32 → Int32 → Int64 → Int32 → Int32 → cM → Option (Int64 × cM)) : cKf (Int64 × cM) := fun vs st M => (lR vs 0).bind fun x0 => (lI vs 1).bind fun x1 => (lI vs 2).bind fun x2 => (lJ vs 3).bind fun x3 => (lI vs 5).bind fun x5 => (lI vs 6).bind fun x6 => match st with
  | [] => g x0 x1 x2 x3 x5 x6 M
  | _ => none
theorem kf_X2_constEndings_65 {X : cCtx} {o : cO} {r : Int64 × cM} {g : Nat → Int32 → Int32 → Int64 → Int32 → Int32 → cM → Option (Int64 × cM)} (hg : ∀ x0 x1 x2 x3 x5 x6 M, g x0 x1 x2 x3 x5 x6 M = some r → WX X 8 o 65 [some (.ref x0), some (.int x1), some (.int x2), some (.long x3), none, some (.int x5), some (.int x6), none] [] M) : ∀ vs st M, kd_X2_constEndings_65 g vs st M = some r → WX X 8 o 65 vs st M := by
  intro vs st M h
  unfold kd_X2_constEndings_65 at h
  obtain ⟨x0, h0, h⟩ := Option.bind_eq_some_iff.mp h
  obtain ⟨x1, h1, h⟩ := Option.bind_eq_some_iff.mp h
  obtain ⟨x2, h2, h⟩ := Option.bind_eq_some_iff.mp h
  obtain ⟨x3, h3, h⟩ := Option.bind_eq_some_iff.mp h
  obtain ⟨x5, h5, h⟩ := Option.bind_eq_some_iff.mp h
  obtain ⟨x6, h6, h⟩ := Option.bind_eq_some_iff.mp h
  split at h
  · exact WX_weak (hg _ _ _ _ _ _ _ h) rfl ⟨lR_of h0, lI_of h1, lI_of h2, lJ_of h3, lI_of h5, lI_of h6, trivial⟩
  · cases h
theorem e_X2_constEndings_65 (F : Nat) (g_X2_endings : Nat → Int32 → Int32 → Int64 → cM → Option (Int64 × cM)) (t8 : Nat → Int32 → Int32 → Int64 → Int32 → Int32 → cM → Option (Int64 × cM)) (x0 : Nat) (x1 : Int32) (x2 : Int32) (x3 : Int64) (x5 : Int32) (x6 : Int32) (M : cM) : b_X2_constEndings_65 F g_X2_endings t8 x0 x1 x2 x3 x5 x6 M = run T_X2_constEndings P_RX2 false 3 (naL na_X2_constEndings) (caL (ca_X2_constEndings F g_X2_endings)) (lkN th_X2_constEndings) (lkN sw_X2_constEndings) krJ kxN (spL [8]) (KL [(8, kd_X2_constEndings_8 t8)]) 58 65 [some (.ref x0), some (.int x1), some (.int x2), some (.long x3), none, some (.int x5), some (.int x6), none] [] M := rfl
theorem ok_X2_constEndings_65 {X : cCtx} {D : Nat} {r : Int64 × cM} (G : FX X 8 (eJ r) cX2_constEndings RX2 3 D) {F : Nat} (g_X2_endings : Nat → Int32 → Int32 → Int64 → cM → Option (Int64 × cM)) (hca : ∀ x ∈ (ca_X2_constEndings (R' := Int64 × cM) F g_X2_endings), 1 ≤ D ∧ ceS X.1 RX2 (D - 1) x.1 x.2) (k8 : Nat → Int32 → Int32 → Int64 → Int32 → Int32 → cM → Option (Int64 × cM)) (hk8 : ∀ x0 x1 x2 x3 x5 x6 M, k8 x0 x1 x2 x3 x5 x6 M = some r → WX X 8 (eJ r) 8 [some (.ref x0), some (.int x1), some (.int x2), some (.long x3), none, some (.int x5), some (.int x6), none] [] M) : ∀ x0 x1 x2 x3 x5 x6 M, f_X2_constEndings_65 F g_X2_endings k8 x0 x1 x2 x3 x5 x6 M = some r → WX X 8 (eJ r) 65 [some (.ref x0), some (.int x1), some (.int x2), some (.long x3), none, some (.int x5), some (.int x6), none] [] M := by
  intro x0 x1 x2 x3 x5 x6 M h
  exact seg_ok G P_RX2_ok T_X2_constEndings_ok hca (fun _ h => absurd h List.not_mem_nil) sw_X2_constEndings_ok krJ_ok (kxN_ok (f := eJ)) (List.forall_mem_cons.mpr ⟨kf_X2_constEndings_8 (hk8), fun _ h => absurd h List.not_mem_nil⟩) ((e_X2_constEndings_65 F g_X2_endings (k8) x0 x1 x2 x3 x5 x6 M).symm.trans h)
theorem e_X2_constEndings_8 (F : Nat) (g_X2_endings : Nat → Int32 → Int32 → Int64 → cM → Option (Int64 × cM)) (t8 : Nat → Int32 → Int32 → Int64 → Int32 → Int32 → cM → Option (Int64 × cM)) (t65 : Nat → Int32 → Int32 → Int64 → Int32 → Int32 → cM → Option (Int64 × cM)) (x0 : Nat) (x1 : Int32) (x2 : Int32) (x3 : Int64) (x5 : Int32) (x6 : Int32) (M : cM) : b_X2_constEndings_8 F g_X2_endings t8 t65 x0 x1 x2 x3 x5 x6 M = run T_X2_constEndings P_RX2 false 3 (naL na_X2_constEndings) (caL (ca_X2_constEndings F g_X2_endings)) (lkN th_X2_constEndings) (lkN sw_X2_constEndings) krJ kxN (spL [8, 65]) (KL [(8, kd_X2_constEndings_8 t8), (65, kd_X2_constEndings_65 t65)]) 58 8 [some (.ref x0), some (.int x1), some (.int x2), some (.long x3), none, some (.int x5), some (.int x6), none] [] M := rfl
theorem ok_X2_constEndings_8 {X : cCtx} {D : Nat} {r : Int64 × cM} (G : FX X 8 (eJ r) cX2_constEndings RX2 3 D) {F : Nat} (g_X2_endings : Nat → Int32 → Int32 → Int64 → cM → Option (Int64 × cM)) (hca : ∀ x ∈ (ca_X2_constEndings (R' := Int64 × cM) F g_X2_endings), 1 ≤ D ∧ ceS X.1 RX2 (D - 1) x.1 x.2) (n : Nat) : ∀ x0 x1 x2 x3 x5 x6 M, f_X2_constEndings_8 F g_X2_endings n x0 x1 x2 x3 x5 x6 M = some r → WX X 8 (eJ r) 8 [some (.ref x0), some (.int x1), some (.int x2), some (.long x3), none, some (.int x5), some (.int x6), none] [] M := by
  induction n with
  | zero => intro x0 x1 x2 x3 x5 x6 M h; cases h
  | succ n ih =>
    intro x0 x1 x2 x3 x5 x6 M h
    exact seg_ok G P_RX2_ok T_X2_constEndings_ok hca (fun _ h => absurd h List.not_mem_nil) sw_X2_constEndings_ok krJ_ok (kxN_ok (f := eJ)) (List.forall_mem_cons.mpr ⟨kf_X2_constEndings_8 (ih), List.forall_mem_cons.mpr ⟨kf_X2_constEndings_65 (ok_X2_constEndings_65 G g_X2_endings hca (f_X2_constEndings_8 F g_X2_endings n) ih), fun _ h => absurd h List.not_mem_nil⟩⟩) ((e_X2_constEndings_8 F g_X2_endings (f_X2_constEndings_8 F g_X2_endings n) (f_X2_constEndings_65 F g_X2_endings (f_X2_constEndings_8 F g_X2_endings n)) x0 x1 x2 x3 x5 x6 M).symm.trans h)
theorem e_X2_constEndings_0 (F : Nat) (g_X2_endings : Nat → Int32 → Int32 → Int64 → cM → Option (Int64 × cM)) (t8 : Nat → Int32 → Int32 → Int64 → Int32 → Int32 → cM → Option (Int64 × cM)) (x0 : Nat) (x1 : Int32) (x2 : Int32) (M : cM) : b_X2_constEndings_0 F g_X2_endings t8 x0 x1 x2 M = run T_X2_constEndings P_RX2 false 3 (naL na_X2_constEndings) (caL (ca_X2_constEndings F g_X2_endings)) (lkN th_X2_constEndings) (lkN sw_X2_constEndings) krJ kxN (spL [8]) (KL [(8, kd_X2_constEndings_8 t8)]) 58 0 [some (.ref x0), some (.int x1), some (.int x2), none, none, none, none, none] [] M := rfl
theorem ok_X2_constEndings_0 {X : cCtx} {D : Nat} {r : Int64 × cM} (G : FX X 8 (eJ r) cX2_constEndings RX2 3 D) {F : Nat} (g_X2_endings : Nat → Int32 → Int32 → Int64 → cM → Option (Int64 × cM)) (hca : ∀ x ∈ (ca_X2_constEndings (R' := Int64 × cM) F g_X2_endings), 1 ≤ D ∧ ceS X.1 RX2 (D - 1) x.1 x.2) : ∀ x0 x1 x2 M, f_X2_constEndings_0 F g_X2_endings x0 x1 x2 M = some r → WX X 8 (eJ r) 0 [some (.ref x0), some (.int x1), some (.int x2), none, none, none, none, none] [] M := by
  intro x0 x1 x2 M h
  exact seg_ok G P_RX2_ok T_X2_constEndings_ok hca (fun _ h => absurd h List.not_mem_nil) sw_X2_constEndings_ok krJ_ok (kxN_ok (f := eJ)) (List.forall_mem_cons.mpr ⟨kf_X2_constEndings_8 (ok_X2_constEndings_8 G g_X2_endings hca F), fun _ h => absurd h List.not_mem_nil⟩) ((e_X2_constEndings_0 F g_X2_endings (f_X2_constEndings_8 F g_X2_endings F) x0 x1 x2 M).symm.trans h)
theorem c_X2_constEndings {q : cL} (hst : q.1.stackTraces = false) {D : Nat} (hD : 2 ≤ D) (F : Nat) (g_X2_endings : Nat → Int32 → Int32 → Int64 → cM → Option (Int64 × cM)) (h_X2_endings : ∀ a0 a1 a2 a3 M r, g_X2_endings a0 a1 a2 a3 M = some r → CTx q yX2_endings (.code yX2_endings cX2_endings 13 (some .long)) (D - 1) [.ref a0, .int a1, .int a2, .long a3] M (eJ r) ∧ ∃ fs, M[a0]? = some (.inr (1, fs))) (a0 : Nat) (a1 : Int32) (a2 : Int32) (M : cM) (r : Int64 × cM) (h : f_X2_constEndings F g_X2_endings a0 a1 a2 M = some r) : CTx q yX2_constEndings (.code yX2_constEndings cX2_constEndings 8 (some .long)) D [.ref a0, .int a1, .int a2] M (eJ r) ∧ ∃ fs, M[a0]? = some (.inr (1, fs)) := by
  unfold f_X2_constEndings at h
  split at h
  · next hi => exact ⟨CTx_of (own := RX2) (rk := 3) hst (by decide +kernel) rfl (rfl) (Nat.le_of_ble_eq_true rfl) (fun X hX G => by subst hX; exact ok_X2_constEndings_0 G g_X2_endings (ca_X2_constEndings_ok hst hD F g_X2_endings h_X2_endings) a0 a1 a2 M h), isC_of hi⟩
  · cases h
-- PatchbayScript$Finder.endings(IIJ)J
def T_X2_endings : List cRow := [(0, .aload_n 0, 1, 0), (1, .iload_n 1, 2, 0), (2, .iload_n 2, 3, 0), (3, .invokevirtual 121, 6, 0), (6, .istore 5, 8, 0), (8, .ldc2_w 175, 11, 0), (11, .lstore 6, 13, 0), (13, .iconst 0, 14, 0), (14, .istore 8, 16, 0), (16, .iload 8, 18, 0), (18, .aload_n 0, 19, 0), (19, .getfield 26, 22, 0), (22, .getfield 109, 25, 0), (25, .if_icmp .ge 41, 28, 66), (28, .lload 6, 30, 0), (30, .aload_n 0, 31, 0), (31, .getfield 37, 34, 0), (34, .iload 5, 36, 0), (36, .iconst 4, 37, 0), (37, .imul, 38, 0), (38, .iload 8, 40, 0), (40, .iadd, 41, 0), (41, .bipush 21, 43, 0), (43, .imul, 44, 0), (44, .aload_n 0, 45, 0), (45, .getfield 47, 48, 0), (48, .iload_n 2, 49, 0), (49, .iconst 4, 50, 0), (50, .imul, 51, 0), (51, .iload 8, 53, 0), (53, .iadd, 54, 0), (54, .iaload, 55, 0), (55, .iadd, 56, 0), (56, .laload, 57, 0), (57, .land, 58, 0), (58, .lstore 6, 60, 0), (60, .iinc 8 1, 63, 0), (63, .goto (-47), 66, 16), (66, .lload 6, 68, 0), (68, .lload_n 3, 69, 0), (69, .land, 70, 0), (70, .lconst 0, 71, 0), (71, .lcmp, 72, 0), (72, .ifCond .eq 24, 75, 96), (75, .aload_n 0, 76, 0), (76, .getfield 26, 79, 0), (79, .getfield 109, 82, 0), (82, .iconst 1, 83, 0), (83, .if_icmp .eq 13, 86, 96), (86, .iload_n 2, 87, 0), (87, .iload_n 1, 88, 0), (88, .if_icmp .ge 8, 91, 96), (91, .iload_n 2, 92, 0), (92, .iconst 4, 93, 0), (93, .if_icmp .lt 8, 96, 101), (96, .lload 6, 98, 0), (98, .lload_n 3, 99, 0), (99, .land, 100, 0), (100, .lreturn, 101, 0), (101, .aload_n 0, 102, 0), (102, .iload 5, 104, 0), (104, .iload_n 2, 105, 0), (105, .invokevirtual 177, 108, 0), (108, .lstore 8, 110, 0), (110, .lload 8, 112, 0), (112, .ldc2_w 181, 115, 0), (115, .lmul, 116, 0), (116, .bipush 53, 118, 0), (118, .lushr, 119, 0), (119, .l2i, 120, 0), (120, .istore 10, 122, 0), (122, .aload_n 0, 123, 0), (123, .getfield 41, 126, 0), (126, .iload 10, 128, 0), (128, .laload, 129, 0), (129, .lload 8, 131, 0), (131, .lcmp, 132, 0), (132, .ifCond .eq 38, 135, 170), (135, .aload_n 0, 136, 0), (136, .iload_n 1, 137, 0), (137, .iload_n 2, 138, 0), (138, .invokevirtual 183, 141, 0), (141, .aload_n 0, 142, 0), (142, .iload_n 1, 143, 0), (143, .iload_n 2, 144, 0), (144, .lload 6, 146, 0), (146, .invokevirtual 186, 149, 0), (149, .lor, 150, 0), (150, .lstore 11, 152, 0), (152, .aload_n 0, 153, 0), (153, .getfield 41, 156, 0), (156, .iload 10, 158, 0), (158, .lload 8, 160, 0), (160, .lastore, 161, 0), (161, .aload_n 0, 162, 0), (162, .getfield 44, 165, 0), (165, .iload 10, 167, 0), (167, .lload 11, 169, 0), (169, .lastore, 170, 0), (170, .aload_n 0, 171, 0), (171, .getfield 44, 174, 0), (174, .iload 10, 176, 0), (176, .laload, 177, 0), (177, .lreturn, 178, 0)]
theorem T_X2_endings_ok : T_X2_endings.all (rowB cX2_endings) = true := by decide +kernel
def th_X2_endings : List (Nat × Nat) := []
def sw_X2_endings : List (Nat × (List (Int32 × Nat) × Nat)) := []
theorem sw_X2_endings_ok : ∀ q ∈ sw_X2_endings, swS cX2_endings q := fun _ h => absurd h List.not_mem_nil
def na_X2_endings : List (Nat × Nat) := [(364, 3), (532, 3), (550, 3), (559, 4)]
def ca_X2_endings {R' : Type} (F : Nat) (g_X2_constEndings : Nat → Int32 → Int32 → cM → Option (Int64 × cM)) (g_X2_atomEndings : Nat → Int32 → Int32 → Int64 → cM → Option (Int64 × cM)) : List (Nat × cFn R') := [(364, n_X2_layerOf (f_X2_layerOf F)), (532, n_X2_keyOf (f_X2_keyOf F)), (550, n_X2_constEndings (g_X2_constEndings)), (559, n_X2_atomEndings (g_X2_atomEndings))]
theorem ca_X2_endings_ok {R' : Type} {q : cL} (hst : q.1.stackTraces = false) {D : Nat} (hD : 1 ≤ D) (F : Nat) (g_X2_constEndings : Nat → Int32 → Int32 → cM → Option (Int64 × cM)) (g_X2_atomEndings : Nat → Int32 → Int32 → Int64 → cM → Option (Int64 × cM)) (h_X2_constEndings : ∀ a0 a1 a2 M r, g_X2_constEndings a0 a1 a2 M = some r → CTx q yX2_constEndings (.code yX2_constEndings cX2_constEndings 8 (some .long)) (D - 1) [.ref a0, .int a1, .int a2] M (eJ r) ∧ ∃ fs, M[a0]? = some (.inr (1, fs))) (h_X2_atomEndings : ∀ a0 a1 a2 a3 M r, g_X2_atomEndings a0 a1 a2 a3 M = some r → CTx q yX2_atomEndings (.code yX2_atomEndings cX2_atomEndings 9 (some .long)) (D - 1) [.ref a0, .int a1, .int a2, .long a3] M (eJ r) ∧ ∃ fs, M[a0]? = some (.inr (1, fs))) : ∀ x ∈ (ca_X2_endings (R' := R') F g_X2_constEndings g_X2_atomEndings), 1 ≤ D ∧ ceS q RX2 (D - 1) x.1 x.2 := List.forall_mem_cons.mpr ⟨⟨by omega, n_X2_layerOf_ok (k := 121) (lw_good_of (tb_ok 879 (by decide +kernel)) rfl) (fun a0 a1 a2 M r h => c_X2_layerOf hst (by omega) F a0 a1 a2 M r h)⟩, List.forall_mem_cons.mpr ⟨⟨by omega, n_X2_keyOf_ok (k := 177) (lw_good_of (tb_ok 911 (by decide +kernel)) rfl) (fun a0 a1 a2 M r h => c_X2_keyOf hst (by omega) F a0 a1 a2 M r h)⟩, List.forall_mem_cons.mpr ⟨⟨by omega, n_X2_constEndings_ok (k := 183) (lw_good_of (tb_ok 918 (by decide +kernel)) rfl) (h_X2_constEndings)⟩, List.forall_mem_cons.mpr ⟨⟨by omega, n_X2_atomEndings_ok (k := 186) (lw_good_of (tb_ok 926 (by decide +kernel)) rfl) (h_X2_atomEndings)⟩, fun _ h => absurd h List.not_mem_nil⟩⟩⟩⟩
def kd_X2_endings_16 (g : Nat → Int32 → Int32 → Int64 → Int32 → Int64 → Int32 → cM → Option (Int64 × cM)) : cKf (Int64 × cM) := fun vs st M => (lR vs 0).bind fun x0 => (lI vs 1).bind fun x1 => (lI vs 2).bind fun x2 => (lJ vs 3).bind fun x3 => (lI vs 5).bind fun x5 => (lJ vs 6).bind fun x6 => (lI vs 8).bind fun x8 => match st with
  | [] => g x0 x1 x2 x3 x5 x6 x8 M
  | _ => none
theorem kf_X2_endings_16 {X : cCtx} {o : cO} {r : Int64 × cM} {g : Nat → Int32 → Int32 → Int64 → Int32 → Int64 → Int32 → cM → Option (Int64 × cM)} (hg : ∀ x0 x1 x2 x3 x5 x6 x8 M, g x0 x1 x2 x3 x5 x6 x8 M = some r → WX X 13 o 16 [some (.ref x0), some (.int x1), some (.int x2), some (.long x3), none, some (.int x5), some (.long x6), none, some (.int x8), none, none, none, none] [] M) : ∀ vs st M, kd_X2_endings_16 g vs st M = some r → WX X 13 o 16 vs st M := by
  intro vs st M h
  unfold kd_X2_endings_16 at h
  obtain ⟨x0, h0, h⟩ := Option.bind_eq_some_iff.mp h
  obtain ⟨x1, h1, h⟩ := Option.bind_eq_some_iff.mp h
  obtain ⟨x2, h2, h⟩ := Option.bind_eq_some_iff.mp h
  obtain ⟨x3, h3, h⟩ := Option.bind_eq_some_iff.mp h
  obtain ⟨x5, h5, h⟩ := Option.bind_eq_some_iff.mp h
  obtain ⟨x6, h6, h⟩ := Option.bind_eq_some_iff.mp h
  obtain ⟨x8, h8, h⟩ := Option.bind_eq_some_iff.mp h
  split at h
  · exact WX_weak (hg _ _ _ _ _ _ _ _ h) rfl ⟨lR_of h0, lI_of h1, lI_of h2, lJ_of h3, lI_of h5, lJ_of h6, lI_of h8, trivial⟩
  · cases h
def kd_X2_endings_122 (g : Nat → Int32 → Int32 → Int64 → Int64 → Int32 → cM → Option (Int64 × cM)) : cKf (Int64 × cM) := fun vs st M => (lR vs 0).bind fun x0 => (lI vs 1).bind fun x1 => (lI vs 2).bind fun x2 => (lJ vs 6).bind fun x6 => (lJ vs 8).bind fun x8 => (lI vs 10).bind fun x10 => match st with
  | [] => g x0 x1 x2 x6 x8 x10 M
  | _ => none
theorem kf_X2_endings_122 {X : cCtx} {o : cO} {r : Int64 × cM} {g : Nat → Int32 → Int32 → Int64 → Int64 → Int32 → cM → Option (Int64 × cM)} (hg : ∀ x0 x1 x2 x6 x8 x10 M, g x0 x1 x2 x6 x8 x10 M = some r → WX X 13 o 122 [some (.ref x0), some (.int x1), some (.int x2), none, none, none, some (.long x6), none, some (.long x8), none, some (.int x10), none, none] [] M) : ∀ vs st M, kd_X2_endings_122 g vs st M = some r → WX X 13 o 122 vs st M := by
  intro vs st M h
  unfold kd_X2_endings_122 at h
  obtain ⟨x0, h0, h⟩ := Option.bind_eq_some_iff.mp h
  obtain ⟨x1, h1, h⟩ := Option.bind_eq_some_iff.mp h
  obtain ⟨x2, h2, h⟩ := Option.bind_eq_some_iff.mp h
  obtain ⟨x6, h6, h⟩ := Option.bind_eq_some_iff.mp h
  obtain ⟨x8, h8, h⟩ := Option.bind_eq_some_iff.mp h
  obtain ⟨x10, h10, h⟩ := Option.bind_eq_some_iff.mp h
  split at h
  · exact WX_weak (hg _ _ _ _ _ _ _ h) rfl ⟨lR_of h0, lI_of h1, lI_of h2, lJ_of h6, lJ_of h8, lI_of h10, trivial⟩
  · cases h
theorem e_X2_endings_122 (F : Nat) (g_X2_constEndings : Nat → Int32 → Int32 → cM → Option (Int64 × cM)) (g_X2_atomEndings : Nat → Int32 → Int32 → Int64 → cM → Option (Int64 × cM)) (x0 : Nat) (x1 : Int32) (x2 : Int32) (x6 : Int64) (x8 : Int64) (x10 : Int32) (M : cM) : b_X2_endings_122 F g_X2_constEndings g_X2_atomEndings x0 x1 x2 x6 x8 x10 M = run T_X2_endings P_RX2 false 3 (naL na_X2_endings) (caL (ca_X2_endings F g_X2_constEndings g_X2_atomEndings)) (lkN th_X2_endings) (lkN sw_X2_endings) krJ kxN (spL []) (KL []) 107 122 [some (.ref x0), some (.int x1), some (.int x2), none, none, none, some (.long x6), none, some (.long x8), none, some (.int x10), none, none] [] M := rfl
theorem ok_X2_endings_122 {X : cCtx} {D : Nat} {r : Int64 × cM} (G : FX X 13 (eJ r) cX2_endings RX2 3 D) {F : Nat} (g_X2_constEndings : Nat → Int32 → Int32 → cM → Option (Int64 × cM)) (g_X2_atomEndings : Nat → Int32 → Int32 → Int64 → cM → Option (Int64 × cM)) (hca : ∀ x ∈ (ca_X2_endings (R' := Int64 × cM) F g_X2_constEndings g_X2_atomEndings), 1 ≤ D ∧ ceS X.1 RX2 (D - 1) x.1 x.2) : ∀ x0 x1 x2 x6 x8 x10 M, f_X2_endings_122 F g_X2_constEndings g_X2_atomEndings x0 x1 x2 x6 x8 x10 M = some r → WX X 13 (eJ r) 122 [some (.ref x0), some (.int x1), some (.int x2), none, none, none, some (.long x6), none, some (.long x8), none, some (.int x10), none, none] [] M := by
  intro x0 x1 x2 x6 x8 x10 M h
  exact seg_ok G P_RX2_ok T_X2_endings_ok hca (fun _ h => absurd h List.not_mem_nil) sw_X2_endings_ok krJ_ok (kxN_ok (f := eJ)) (fun _ h => absurd h List.not_mem_nil) ((e_X2_endings_122 F g_X2_constEndings g_X2_atomEndings x0 x1 x2 x6 x8 x10 M).symm.trans h)
theorem e_X2_endings_16 (F : Nat) (g_X2_constEndings : Nat → Int32 → Int32 → cM → Option (Int64 × cM)) (g_X2_atomEndings : Nat → Int32 → Int32 → Int64 → cM → Option (Int64 × cM)) (t16 : Nat → Int32 → Int32 → Int64 → Int32 → Int64 → Int32 → cM → Option (Int64 × cM)) (t122 : Nat → Int32 → Int32 → Int64 → Int64 → Int32 → cM → Option (Int64 × cM)) (x0 : Nat) (x1 : Int32) (x2 : Int32) (x3 : Int64) (x5 : Int32) (x6 : Int64) (x8 : Int32) (M : cM) : b_X2_endings_16 F g_X2_constEndings g_X2_atomEndings t16 t122 x0 x1 x2 x3 x5 x6 x8 M = run T_X2_endings P_RX2 false 3 (naL na_X2_endings) (caL (ca_X2_endings F g_X2_constEndings g_X2_atomEndings)) (lkN th_X2_endings) (lkN sw_X2_endings) krJ kxN (spL [16, 122]) (KL [(16, kd_X2_endings_16 t16), (122, kd_X2_endings_122 t122)]) 107 16 [some (.ref x0), some (.int x1), some (.int x2), some (.long x3), none, some (.int x5), some (.long x6), none, some (.int x8), none, none, none, none] [] M := rfl
theorem ok_X2_endings_16 {X : cCtx} {D : Nat} {r : Int64 × cM} (G : FX X 13 (eJ r) cX2_endings RX2 3 D) {F : Nat} (g_X2_constEndings : Nat → Int32 → Int32 → cM → Option (Int64 × cM)) (g_X2_atomEndings : Nat → Int32 → Int32 → Int64 → cM → Option (Int64 × cM)) (hca : ∀ x ∈ (ca_X2_endings (R' := Int64 × cM) F g_X2_constEndings g_X2_atomEndings), 1 ≤ D ∧ ceS X.1 RX2 (D - 1) x.1 x.2) (n : Nat) : ∀ x0 x1 x2 x3 x5 x6 x8 M, f_X2_endings_16 F g_X2_constEndings g_X2_atomEndings n x0 x1 x2 x3 x5 x6 x8 M = some r → WX X 13 (eJ r) 16 [some (.ref x0), some (.int x1), some (.int x2), some (.long x3), none, some (.int x5), some (.long x6), none, some (.int x8), none, none, none, none] [] M := by
  induction n with
  | zero => intro x0 x1 x2 x3 x5 x6 x8 M h; cases h
  | succ n ih =>
    intro x0 x1 x2 x3 x5 x6 x8 M h
    exact seg_ok G P_RX2_ok T_X2_endings_ok hca (fun _ h => absurd h List.not_mem_nil) sw_X2_endings_ok krJ_ok (kxN_ok (f := eJ)) (List.forall_mem_cons.mpr ⟨kf_X2_endings_16 (ih), List.forall_mem_cons.mpr ⟨kf_X2_endings_122 (ok_X2_endings_122 G g_X2_constEndings g_X2_atomEndings hca), fun _ h => absurd h List.not_mem_nil⟩⟩) ((e_X2_endings_16 F g_X2_constEndings g_X2_atomEndings (f_X2_endings_16 F g_X2_constEndings g_X2_atomEndings n) (f_X2_endings_122 F g_X2_constEndings g_X2_atomEndings) x0 x1 x2 x3 x5 x6 x8 M).symm.trans h)
theorem e_X2_endings_0 (F : Nat) (g_X2_constEndings : Nat → Int32 → Int32 → cM → Option (Int64 × cM)) (g_X2_atomEndings : Nat → Int32 → Int32 → Int64 → cM → Option (Int64 × cM)) (t16 : Nat → Int32 → Int32 → Int64 → Int32 → Int64 → Int32 → cM → Option (Int64 × cM)) (x0 : Nat) (x1 : Int32) (x2 : Int32) (x3 : Int64) (M : cM) : b_X2_endings_0 F g_X2_constEndings g_X2_atomEndings t16 x0 x1 x2 x3 M = run T_X2_endings P_RX2 false 3 (naL na_X2_endings) (caL (ca_X2_endings F g_X2_constEndings g_X2_atomEndings)) (lkN th_X2_endings) (lkN sw_X2_endings) krJ kxN (spL [16]) (KL [(16, kd_X2_endings_16 t16)]) 107 0 [some (.ref x0), some (.int x1), some (.int x2), some (.long x3), none, none, none, none, none, none, none, none, none] [] M := rfl
theorem ok_X2_endings_0 {X : cCtx} {D : Nat} {r : Int64 × cM} (G : FX X 13 (eJ r) cX2_endings RX2 3 D) {F : Nat} (g_X2_constEndings : Nat → Int32 → Int32 → cM → Option (Int64 × cM)) (g_X2_atomEndings : Nat → Int32 → Int32 → Int64 → cM → Option (Int64 × cM)) (hca : ∀ x ∈ (ca_X2_endings (R' := Int64 × cM) F g_X2_constEndings g_X2_atomEndings), 1 ≤ D ∧ ceS X.1 RX2 (D - 1) x.1 x.2) : ∀ x0 x1 x2 x3 M, f_X2_endings_0 F g_X2_constEndings g_X2_atomEndings x0 x1 x2 x3 M = some r → WX X 13 (eJ r) 0 [some (.ref x0), some (.int x1), some (.int x2), some (.long x3), none, none, none, none, none, none, none, none, none] [] M := by
  intro x0 x1 x2 x3 M h
  exact seg_ok G P_RX2_ok T_X2_endings_ok hca (fun _ h => absurd h List.not_mem_nil) sw_X2_endings_ok krJ_ok (kxN_ok (f := eJ)) (List.forall_mem_cons.mpr ⟨kf_X2_endings_16 (ok_X2_endings_16 G g_X2_constEndings g_X2_atomEndings hca F), fun _ h => absurd h List.not_mem_nil⟩) ((e_X2_endings_0 F g_X2_constEndings g_X2_atomEndings (f_X2_endings_16 F g_X2_constEndings g_X2_atomEndings F) x0 x1 x2 x3 M).symm.trans h)
theorem c_X2_endings {q : cL} (hst : q.1.stackTraces = false) {D : Nat} (hD : 1 ≤ D) (F : Nat) (g_X2_constEndings : Nat → Int32 → Int32 → cM → Option (Int64 × cM)) (g_X2_atomEndings : Nat → Int32 → Int32 → Int64 → cM → Option (Int64 × cM)) (h_X2_constEndings : ∀ a0 a1 a2 M r, g_X2_constEndings a0 a1 a2 M = some r → CTx q yX2_constEndings (.code yX2_constEndings cX2_constEndings 8 (some .long)) (D - 1) [.ref a0, .int a1, .int a2] M (eJ r) ∧ ∃ fs, M[a0]? = some (.inr (1, fs))) (h_X2_atomEndings : ∀ a0 a1 a2 a3 M r, g_X2_atomEndings a0 a1 a2 a3 M = some r → CTx q yX2_atomEndings (.code yX2_atomEndings cX2_atomEndings 9 (some .long)) (D - 1) [.ref a0, .int a1, .int a2, .long a3] M (eJ r) ∧ ∃ fs, M[a0]? = some (.inr (1, fs))) (a0 : Nat) (a1 : Int32) (a2 : Int32) (a3 : Int64) (M : cM) (r : Int64 × cM) (h : f_X2_endings F g_X2_constEndings g_X2_atomEndings a0 a1 a2 a3 M = some r) : CTx q yX2_endings (.code yX2_endings cX2_endings 13 (some .long)) D [.ref a0, .int a1, .int a2, .long a3] M (eJ r) ∧ ∃ fs, M[a0]? = some (.inr (1, fs)) := by
  unfold f_X2_endings at h
  split at h
  · next hi => exact ⟨CTx_of (own := RX2) (rk := 3) hst (by decide +kernel) rfl (rfl) (Nat.le_of_ble_eq_true rfl) (fun X hX G => by subst hX; exact ok_X2_endings_0 G g_X2_constEndings g_X2_atomEndings (ca_X2_endings_ok hst hD F g_X2_constEndings g_X2_atomEndings h_X2_constEndings h_X2_atomEndings) a0 a1 a2 a3 M h), isC_of hi⟩
  · cases h
theorem cr_X2_endings {q : cL} (hst : q.1.stackTraces = false) (F : Nat) : ∀ (n D : Nat), 4 + 3 * n ≤ D → ∀ a0 a1 a2 a3 (M : cM) (r : Int64 × cM), r_X2_endings F n a0 a1 a2 a3 M = some r → CTx q yX2_endings (.code yX2_endings cX2_endings 13 (some .long)) D [.ref a0, .int a1, .int a2, .long a3] M (eJ r) ∧ ∃ fs, M[a0]? = some (.inr (1, fs)) := by
  intro n
  induction n with
  | zero => intro D hD a0 a1 a2 a3 M r h; cases h
  | succ n ih =>
    intro D hD a0 a1 a2 a3 M r h
    exact c_X2_endings hst (by omega) F (f_X2_constEndings F (r_X2_endings F n)) (f_X2_atomEndings F (r_X2_endings F n)) (fun b0 b1 b2 M r h => c_X2_constEndings hst (by omega) F (r_X2_endings F n) (fun a0 a1 a2 a3 M r h => ih (D - 1 - 1) (by omega) a0 a1 a2 a3 M r h) b0 b1 b2 M r h) (fun b0 b1 b2 b3 M r h => c_X2_atomEndings hst (by omega) F (r_X2_endings F n) (fun a0 a1 a2 a3 M r h => ih (D - 1 - 1) (by omega) a0 a1 a2 a3 M r h) b0 b1 b2 b3 M r h) a0 a1 a2 a3 M r h
