/-! METHODS, part 2 (laid by wip/whole/tools/gen.py) -/
-- PatchbayScript$Text.placeOfRun(II)I
def T_X10_placeOfRun : List cRow := [(0, .iconst (-1), 1, 0), (1, .istore_n 2, 2, 0), (2, .iconst 0, 3, 0), (3, .istore_n 3, 4, 0), (4, .iconst 0, 5, 0), (5, .istore 4, 7, 0), (7, .iload 4, 9, 0), (9, .bipush 20, 11, 0), (11, .if_icmp .ge 37, 14, 48), (14, .iload_n 0, 15, 0), (15, .iload 4, 17, 0), (17, .ishr, 18, 0), (18, .iconst 1, 19, 0), (19, .iand, 20, 0), (20, .ifCond .eq 22, 23, 42), (23, .iload_n 3, 24, 0), (24, .iload_n 1, 25, 0), (25, .if_icmp .ne 11, 28, 36), (28, .iload_n 1, 29, 0), (29, .iconst 2, 30, 0), (30, .if_icmp .ge 6, 33, 36), (33, .iload 4, 35, 0), (35, .ireturn, 36, 0), (36, .iload 4, 38, 0), (38, .istore_n 2, 39, 0), (39, .iinc 3 1, 42, 0), (42, .iinc 4 1, 45, 0), (45, .goto (-38), 48, 7), (48, .iload_n 1, 49, 0), (49, .iconst 2, 50, 0), (50, .if_icmp .ne 7, 53, 57), (53, .iload_n 2, 54, 0), (54, .goto 4, 57, 58), (57, .iconst (-1), 58, 0), (58, .ireturn, 59, 0)]
theorem T_X10_placeOfRun_ok : T_X10_placeOfRun.all (rowB cX10_placeOfRun) = true := by decide +kernel
def th_X10_placeOfRun : List (Nat × Nat) := []
def sw_X10_placeOfRun : List (Nat × (List (Int32 × Nat) × Nat)) := []
theorem sw_X10_placeOfRun_ok : ∀ q ∈ sw_X10_placeOfRun, swS cX10_placeOfRun q := fun _ h => absurd h List.not_mem_nil
def na_X10_placeOfRun : List (Nat × Nat) := []
def ca_X10_placeOfRun {R' : Type} (F : Nat) : List (Nat × cFn R') := []
theorem ca_X10_placeOfRun_ok {R' : Type} {q : cL} (hst : q.1.stackTraces = false) {D : Nat} (hD : 0 ≤ D) (F : Nat) : ∀ x ∈ (ca_X10_placeOfRun (R' := R') F), 1 ≤ D ∧ ceS q RX10 (D - 1) x.1 x.2 := fun _ h => absurd h List.not_mem_nil
def kd_X10_placeOfRun_7 (g : Int32 → Int32 → Int32 → Int32 → Int32 → cM → Option (Int32 × cM)) : cKf (Int32 × cM) := fun vs st M => (lI vs 0).bind fun x0 => (lI vs 1).bind fun x1 => (lI vs 2).bind fun x2 => (lI vs 3).bind fun x3 => (lI vs 4).bind fun x4 => match st with
  | [] => g x0 x1 x2 x3 x4 M
  | _ => none
theorem kf_X10_placeOfRun_7 {X : cCtx} {o : cO} {r : Int32 × cM} {g : Int32 → Int32 → Int32 → Int32 → Int32 → cM → Option (Int32 × cM)} (hg : ∀ x0 x1 x2 x3 x4 M, g x0 x1 x2 x3 x4 M = some r → WX X 5 o 7 [some (.int x0), some (.int x1), some (.int x2), some (.int x3), some (.int x4)] [] M) : ∀ vs st M, kd_X10_placeOfRun_7 g vs st M = some r → WX X 5 o 7 vs st M := by
  intro vs st M h
  unfold kd_X10_placeOfRun_7 at h
  obtain ⟨x0, h0, h⟩ := Option.bind_eq_some_iff.mp h
  obtain ⟨x1, h1, h⟩ := Option.bind_eq_some_iff.mp h
  obtain ⟨x2, h2, h⟩ := Option.bind_eq_some_iff.mp h
  obtain ⟨x3, h3, h⟩ := Option.bind_eq_some_iff.mp h
  obtain ⟨x4, h4, h⟩ := Option.bind_eq_some_iff.mp h
  split at h
  · exact WX_weak (hg _ _ _ _ _ _ h) rfl ⟨lI_of h0, lI_of h1, lI_of h2, lI_of h3, lI_of h4, trivial⟩
  · cases h
theorem e_X10_placeOfRun_7 (F : Nat) (t7 : Int32 → Int32 → Int32 → Int32 → Int32 → cM → Option (Int32 × cM)) (x0 : Int32) (x1 : Int32) (x2 : Int32) (x3 : Int32) (x4 : Int32) (M : cM) : b_X10_placeOfRun_7 F t7 x0 x1 x2 x3 x4 M = run T_X10_placeOfRun P_RX10 false 0 (naL na_X10_placeOfRun) (caL (ca_X10_placeOfRun F)) (lkN th_X10_placeOfRun) (lkN sw_X10_placeOfRun) krI kxN (spL [7]) (KL [(7, kd_X10_placeOfRun_7 t7)]) 38 7 [some (.int x0), some (.int x1), some (.int x2), some (.int x3), some (.int x4)] [] M := rfl
theorem ok_X10_placeOfRun_7 {X : cCtx} {D : Nat} {r : Int32 × cM} (G : FX X 5 (eI r) cX10_placeOfRun RX10 0 D) {F : Nat} (hca : ∀ x ∈ (ca_X10_placeOfRun (R' := Int32 × cM) F), 1 ≤ D ∧ ceS X.1 RX10 (D - 1) x.1 x.2) (n : Nat) : ∀ x0 x1 x2 x3 x4 M, f_X10_placeOfRun_7 F n x0 x1 x2 x3 x4 M = some r → WX X 5 (eI r) 7 [some (.int x0), some (.int x1), some (.int x2), some (.int x3), some (.int x4)] [] M := by
  induction n with
  | zero => intro x0 x1 x2 x3 x4 M h; cases h
  | succ n ih =>
    intro x0 x1 x2 x3 x4 M h
    exact seg_ok G P_RX10_ok T_X10_placeOfRun_ok hca (fun _ h => absurd h List.not_mem_nil) sw_X10_placeOfRun_ok krI_ok (kxN_ok (f := eI)) (List.forall_mem_cons.mpr ⟨kf_X10_placeOfRun_7 (ih), fun _ h => absurd h List.not_mem_nil⟩) ((e_X10_placeOfRun_7 F (f_X10_placeOfRun_7 F n) x0 x1 x2 x3 x4 M).symm.trans h)
theorem e_X10_placeOfRun_0 (F : Nat) (t7 : Int32 → Int32 → Int32 → Int32 → Int32 → cM → Option (Int32 × cM)) (x0 : Int32) (x1 : Int32) (M : cM) : b_X10_placeOfRun_0 F t7 x0 x1 M = run T_X10_placeOfRun P_RX10 false 0 (naL na_X10_placeOfRun) (caL (ca_X10_placeOfRun F)) (lkN th_X10_placeOfRun) (lkN sw_X10_placeOfRun) krI kxN (spL [7]) (KL [(7, kd_X10_placeOfRun_7 t7)]) 38 0 [some (.int x0), some (.int x1), none, none, none] [] M := rfl
theorem ok_X10_placeOfRun_0 {X : cCtx} {D : Nat} {r : Int32 × cM} (G : FX X 5 (eI r) cX10_placeOfRun RX10 0 D) {F : Nat} (hca : ∀ x ∈ (ca_X10_placeOfRun (R' := Int32 × cM) F), 1 ≤ D ∧ ceS X.1 RX10 (D - 1) x.1 x.2) : ∀ x0 x1 M, f_X10_placeOfRun_0 F x0 x1 M = some r → WX X 5 (eI r) 0 [some (.int x0), some (.int x1), none, none, none] [] M := by
  intro x0 x1 M h
  exact seg_ok G P_RX10_ok T_X10_placeOfRun_ok hca (fun _ h => absurd h List.not_mem_nil) sw_X10_placeOfRun_ok krI_ok (kxN_ok (f := eI)) (List.forall_mem_cons.mpr ⟨kf_X10_placeOfRun_7 (ok_X10_placeOfRun_7 G hca F), fun _ h => absurd h List.not_mem_nil⟩) ((e_X10_placeOfRun_0 F (f_X10_placeOfRun_7 F F) x0 x1 M).symm.trans h)
theorem c_X10_placeOfRun {q : cL} (hst : q.1.stackTraces = false) {D : Nat} (hD : 0 ≤ D) (F : Nat) (a0 : Int32) (a1 : Int32) (M : cM) (r : Int32 × cM) (h : f_X10_placeOfRun F a0 a1 M = some r) : CTx q yX10_placeOfRun (.code yX10_placeOfRun cX10_placeOfRun 5 (some .int)) D [.int a0, .int a1] M (eI r) := by
  exact CTx_of (own := RX10) (rk := 0) hst (by decide +kernel) rfl (rfl) (Nat.le_of_ble_eq_true rfl) (fun X hX G => by subst hX; exact ok_X10_placeOfRun_0 G (ca_X10_placeOfRun_ok hst hD F) a0 a1 M h)
def n_X10_placeOfRun {R' : Type} (f : Int32 → Int32 → cM → Option (Int32 × cM)) : cFn R' := fun as M κ κx => match as with
  | [.int a0, .int a1] => (f a0 a1 M).bind fun p => κ (some (.int p.1)) p.2
  | _ => none
theorem w_X10_placeOfRun : ∀ w ∈ [Cond.static yX10_placeOfRun, .initialized yX10_placeOfRun.cls, .code yX10_placeOfRun cX10_placeOfRun 5 (some .int)], w ∈ lw_good := List.forall_mem_cons.mpr ⟨lw_good_of (tb_ok 614 (by decide +kernel)) rfl, List.forall_mem_cons.mpr ⟨lw_good_of (tb_ok 2 (by decide +kernel)) rfl, List.forall_mem_cons.mpr ⟨lw_good_of (tb_ok 615 (by decide +kernel)) rfl, fun _ h => absurd h List.not_mem_nil⟩⟩⟩
theorem n_X10_placeOfRun_ok {R' : Type} {q : cL} {own : String} {d k : Nat} {f : Int32 → Int32 → cM → Option (Int32 × cM)} (hl : Cond.methodLink own k yX10_placeOfRun ∈ lw_good) (hf : ∀ a0 a1 M r, f a0 a1 M = some r → CTx q yX10_placeOfRun (.code yX10_placeOfRun cX10_placeOfRun 5 (some .int)) d [.int a0, .int a1] M (eI r)) : ceS q own d (3 * k) (n_X10_placeOfRun (R' := R') f) := by
  intro as M κ κx r h
  unfold n_X10_placeOfRun at h
  split at h
  · obtain ⟨p, h1, h2⟩ := Option.bind_eq_some_iff.mp h
    exact ⟨eI p, fun _ => h2, fun hne => absurd rfl hne, Or.inl ⟨yX10_placeOfRun, cX10_placeOfRun, 5, (some .int), k, 2, rfl, hf _ _ _ _ h1, List.forall_mem_cons.mpr ⟨hl, w_X10_placeOfRun⟩, ⟨by decide +kernel, by decide +kernel, by decide +kernel⟩, rfl, by decide⟩⟩
  · cases h
-- PatchbayScript$Text.placeOfSpot(I)I
def T_X10_placeOfSpot : List cRow := [(0, .iload_n 1, 1, 0), (1, .ifCond .lt 9, 4, 10), (4, .iload_n 1, 5, 0), (5, .bipush 30, 7, 0), (7, .if_icmp .lt 5, 10, 12), (10, .iconst (-1), 11, 0), (11, .ireturn, 12, 0), (12, .iload_n 1, 13, 0), (13, .iconst 3, 14, 0), (14, .if_icmp .ge 17, 17, 31), (17, .iload_n 1, 18, 0), (18, .aload_n 0, 19, 0), (19, .getfield 21, 22, 0), (22, .if_icmp .gt 7, 25, 29), (25, .iload_n 1, 26, 0), (26, .goto 4, 29, 30), (29, .iconst (-1), 30, 0), (30, .ireturn, 31, 0), (31, .iload_n 1, 32, 0), (32, .bipush 6, 34, 0), (34, .if_icmp .ge 26, 37, 60), (37, .iload_n 1, 38, 0), (38, .iconst 3, 39, 0), (39, .isub, 40, 0), (40, .aload_n 0, 41, 0), (41, .getfield 21, 44, 0), (44, .if_icmp .gt 14, 47, 58), (47, .aload_n 0, 48, 0), (48, .getfield 21, 51, 0), (51, .iload_n 1, 52, 0), (52, .iconst 3, 53, 0), (53, .isub, 54, 0), (54, .isub, 55, 0), (55, .goto 4, 58, 59), (58, .iconst (-1), 59, 0), (59, .ireturn, 60, 0), (60, .iload_n 1, 61, 0), (61, .bipush 6, 63, 0), (63, .isub, 64, 0), (64, .bipush 6, 66, 0), (66, .idiv, 67, 0), (67, .istore_n 2, 68, 0), (68, .iload_n 1, 69, 0), (69, .bipush 6, 71, 0), (71, .isub, 72, 0), (72, .bipush 6, 74, 0), (74, .irem, 75, 0), (75, .iconst 3, 76, 0), (76, .if_icmp .lt 7, 79, 83), (79, .iconst 1, 80, 0), (80, .goto 4, 83, 84), (83, .iconst 0, 84, 0), (84, .istore_n 3, 85, 0), (85, .aload_n 0, 86, 0), (86, .iload_n 2, 87, 0), (87, .iload_n 3, 88, 0), (88, .ifCond .eq 7, 91, 95), (91, .iconst 2, 92, 0), (92, .goto 4, 95, 96), (95, .iconst 1, 96, 0), (96, .invokevirtual 29, 99, 0), (99, .iload_n 1, 100, 0), (100, .iconst 3, 101, 0), (101, .irem, 102, 0), (102, .invokestatic 33, 105, 0), (105, .istore 4, 107, 0), (107, .iload_n 3, 108, 0), (108, .ifCond .eq 16, 111, 124), (111, .iload 4, 113, 0), (113, .iconst (-1), 114, 0), (114, .if_icmp .eq 10, 117, 124), (117, .iload 4, 119, 0), (119, .iconst 1, 120, 0), (120, .iadd, 121, 0), (121, .goto 5, 124, 126), (124, .iload 4, 126, 0), (126, .ireturn, 127, 0)]
theorem T_X10_placeOfSpot_ok : T_X10_placeOfSpot.all (rowB cX10_placeOfSpot) = true := by decide +kernel
def th_X10_placeOfSpot : List (Nat × Nat) := []
def sw_X10_placeOfSpot : List (Nat × (List (Int32 × Nat) × Nat)) := []
theorem sw_X10_placeOfSpot_ok : ∀ q ∈ sw_X10_placeOfSpot, swS cX10_placeOfSpot q := fun _ h => absurd h List.not_mem_nil
def na_X10_placeOfSpot : List (Nat × Nat) := [(88, 3), (99, 2)]
def ca_X10_placeOfSpot {R' : Type} (F : Nat) : List (Nat × cFn R') := [(88, n_X10_placesOfRuns (f_X10_placesOfRuns F)), (99, n_X10_placeOfRun (f_X10_placeOfRun F))]
theorem ca_X10_placeOfSpot_ok {R' : Type} {q : cL} (hst : q.1.stackTraces = false) {D : Nat} (hD : 1 ≤ D) (F : Nat) : ∀ x ∈ (ca_X10_placeOfSpot (R' := R') F), 1 ≤ D ∧ ceS q RX10 (D - 1) x.1 x.2 := List.forall_mem_cons.mpr ⟨⟨by omega, n_X10_placesOfRuns_ok (k := 29) (lw_good_of (tb_ok 612 (by decide +kernel)) rfl) (fun a0 a1 a2 M r h => c_X10_placesOfRuns hst (by omega) F a0 a1 a2 M r h)⟩, List.forall_mem_cons.mpr ⟨⟨by omega, n_X10_placeOfRun_ok (k := 33) (lw_good_of (tb_ok 613 (by decide +kernel)) rfl) (fun a0 a1 M r h => c_X10_placeOfRun hst (by omega) F a0 a1 M r h)⟩, fun _ h => absurd h List.not_mem_nil⟩⟩
def kd_X10_placeOfSpot_84 (g : Nat → Int32 → Int32 → Int32 → cM → Option (Int32 × cM)) : cKf (Int32 × cM) := fun vs st M => (lR vs 0).bind fun x0 => (lI vs 1).bind fun x1 => (lI vs 2).bind fun x2 => match st with
  | [.int s0] => g x0 x1 x2 s0 M
  | _ => none
theorem kf_X10_placeOfSpot_84 {X : cCtx} {o : cO} {r : Int32 × cM} {g : Nat → Int32 → Int32 → Int32 → cM → Option (Int32 × cM)} (hg : ∀ x0 x1 x2 s0 M, g x0 x1 x2 s0 M = some r → WX X 5 o 84 [some (.ref x0), some (.int x1), some (.int x2), none, none] [.int s0] M) : ∀ vs st M, kd_X10_placeOfSpot_84 g vs st M = some r → WX X 5 o 84 vs st M := by
  intro vs st M h
  unfold kd_X10_placeOfSpot_84 at h
  obtain ⟨x0, h0, h⟩ := Option.bind_eq_some_iff.mp h
  obtain ⟨x1, h1, h⟩ := Option.bind_eq_some_iff.mp h
  obtain ⟨x2, h2, h⟩ := Option.bind_eq_some_iff.mp h
  split at h
  · exact WX_weak (hg _ _ _ _ _ h) rfl ⟨lR_of h0, lI_of h1, lI_of h2, trivial⟩
  · cases h
def kd_X10_placeOfSpot_96 (g : Int32 → Int32 → Nat → Int32 → Int32 → cM → Option (Int32 × cM)) : cKf (Int32 × cM) := fun vs st M => (lI vs 1).bind fun x1 => (lI vs 3).bind fun x3 => match st with
  | [.int s2, .int s1, .ref s0] => g x1 x3 s0 s1 s2 M
  | _ => none
theorem kf_X10_placeOfSpot_96 {X : cCtx} {o : cO} {r : Int32 × cM} {g : Int32 → Int32 → Nat → Int32 → Int32 → cM → Option (Int32 × cM)} (hg : ∀ x1 x3 s0 s1 s2 M, g x1 x3 s0 s1 s2 M = some r → WX X 5 o 96 [none, some (.int x1), none, some (.int x3), none] [.int s2, .int s1, .ref s0] M) : ∀ vs st M, kd_X10_placeOfSpot_96 g vs st M = some r → WX X 5 o 96 vs st M := by
  intro vs st M h
  unfold kd_X10_placeOfSpot_96 at h
  obtain ⟨x1, h1, h⟩ := Option.bind_eq_some_iff.mp h
  obtain ⟨x3, h3, h⟩ := Option.bind_eq_some_iff.mp h
  split at h
  · exact WX_weak (hg _ _ _ _ _ _ h) rfl ⟨lI_of h1, lI_of h3, trivial⟩
  · cases h
theorem e_X10_placeOfSpot_96 (F : Nat) (x1 : Int32) (x3 : Int32) (s0 : Nat) (s1 : Int32) (s2 : Int32) (M : cM) : b_X10_placeOfSpot_96 F x1 x3 s0 s1 s2 M = run T_X10_placeOfSpot P_RX10 false 0 (naL na_X10_placeOfSpot) (caL (ca_X10_placeOfSpot F)) (lkN th_X10_placeOfSpot) (lkN sw_X10_placeOfSpot) krI kxN (spL []) (KL []) 80 96 [none, some (.int x1), none, some (.int x3), none] [.int s2, .int s1, .ref s0] M := rfl
theorem ok_X10_placeOfSpot_96 {X : cCtx} {D : Nat} {r : Int32 × cM} (G : FX X 5 (eI r) cX10_placeOfSpot RX10 0 D) {F : Nat} (hca : ∀ x ∈ (ca_X10_placeOfSpot (R' := Int32 × cM) F), 1 ≤ D ∧ ceS X.1 RX10 (D - 1) x.1 x.2) : ∀ x1 x3 s0 s1 s2 M, f_X10_placeOfSpot_96 F x1 x3 s0 s1 s2 M = some r → WX X 5 (eI r) 96 [none, some (.int x1), none, some (.int x3), none] [.int s2, .int s1, .ref s0] M := by
  intro x1 x3 s0 s1 s2 M h
  exact seg_ok G P_RX10_ok T_X10_placeOfSpot_ok hca (fun _ h => absurd h List.not_mem_nil) sw_X10_placeOfSpot_ok krI_ok (kxN_ok (f := eI)) (fun _ h => absurd h List.not_mem_nil) ((e_X10_placeOfSpot_96 F x1 x3 s0 s1 s2 M).symm.trans h)
theorem e_X10_placeOfSpot_84 (F : Nat) (t96 : Int32 → Int32 → Nat → Int32 → Int32 → cM → Option (Int32 × cM)) (x0 : Nat) (x1 : Int32) (x2 : Int32) (s0 : Int32) (M : cM) : b_X10_placeOfSpot_84 F t96 x0 x1 x2 s0 M = run T_X10_placeOfSpot P_RX10 false 0 (naL na_X10_placeOfSpot) (caL (ca_X10_placeOfSpot F)) (lkN th_X10_placeOfSpot) (lkN sw_X10_placeOfSpot) krI kxN (spL [96]) (KL [(96, kd_X10_placeOfSpot_96 t96)]) 80 84 [some (.ref x0), some (.int x1), some (.int x2), none, none] [.int s0] M := rfl
theorem ok_X10_placeOfSpot_84 {X : cCtx} {D : Nat} {r : Int32 × cM} (G : FX X 5 (eI r) cX10_placeOfSpot RX10 0 D) {F : Nat} (hca : ∀ x ∈ (ca_X10_placeOfSpot (R' := Int32 × cM) F), 1 ≤ D ∧ ceS X.1 RX10 (D - 1) x.1 x.2) : ∀ x0 x1 x2 s0 M, f_X10_placeOfSpot_84 F x0 x1 x2 s0 M = some r → WX X 5 (eI r) 84 [some (.ref x0), some (.int x1), some (.int x2), none, none] [.int s0] M := by
  intro x0 x1 x2 s0 M h
  exact seg_ok G P_RX10_ok T_X10_placeOfSpot_ok hca (fun _ h => absurd h List.not_mem_nil) sw_X10_placeOfSpot_ok krI_ok (kxN_ok (f := eI)) (List.forall_mem_cons.mpr ⟨kf_X10_placeOfSpot_96 (ok_X10_placeOfSpot_96 G hca), fun _ h => absurd h List.not_mem_nil⟩) ((e_X10_placeOfSpot_84 F (f_X10_placeOfSpot_96 F) x0 x1 x2 s0 M).symm.trans h)
theorem e_X10_placeOfSpot_0 (F : Nat) (t84 : Nat → Int32 → Int32 → Int32 → cM → Option (Int32 × cM)) (x0 : Nat) (x1 : Int32) (M : cM) : b_X10_placeOfSpot_0 F t84 x0 x1 M = run T_X10_placeOfSpot P_RX10 false 0 (naL na_X10_placeOfSpot) (caL (ca_X10_placeOfSpot F)) (lkN th_X10_placeOfSpot) (lkN sw_X10_placeOfSpot) krI kxN (spL [84]) (KL [(84, kd_X10_placeOfSpot_84 t84)]) 80 0 [some (.ref x0), some (.int x1), none, none, none] [] M := rfl
theorem ok_X10_placeOfSpot_0 {X : cCtx} {D : Nat} {r : Int32 × cM} (G : FX X 5 (eI r) cX10_placeOfSpot RX10 0 D) {F : Nat} (hca : ∀ x ∈ (ca_X10_placeOfSpot (R' := Int32 × cM) F), 1 ≤ D ∧ ceS X.1 RX10 (D - 1) x.1 x.2) : ∀ x0 x1 M, f_X10_placeOfSpot_0 F x0 x1 M = some r → WX X 5 (eI r) 0 [some (.ref x0), some (.int x1), none, none, none] [] M := by
  intro x0 x1 M h
  exact seg_ok G P_RX10_ok T_X10_placeOfSpot_ok hca (fun _ h => absurd h List.not_mem_nil) sw_X10_placeOfSpot_ok krI_ok (kxN_ok (f := eI)) (List.forall_mem_cons.mpr ⟨kf_X10_placeOfSpot_84 (ok_X10_placeOfSpot_84 G hca), fun _ h => absurd h List.not_mem_nil⟩) ((e_X10_placeOfSpot_0 F (f_X10_placeOfSpot_84 F) x0 x1 M).symm.trans h)
theorem c_X10_placeOfSpot {q : cL} (hst : q.1.stackTraces = false) {D : Nat} (hD : 1 ≤ D) (F : Nat) (a0 : Nat) (a1 : Int32) (M : cM) (r : Int32 × cM) (h : f_X10_placeOfSpot F a0 a1 M = some r) : CTx q yX10_placeOfSpot (.code yX10_placeOfSpot cX10_placeOfSpot 5 (some .int)) D [.ref a0, .int a1] M (eI r) ∧ ∃ fs, M[a0]? = some (.inr (8, fs)) := by
  unfold f_X10_placeOfSpot at h
  split at h
  · next hi => exact ⟨CTx_of (own := RX10) (rk := 0) hst (by decide +kernel) rfl (rfl) (Nat.le_of_ble_eq_true rfl) (fun X hX G => by subst hX; exact ok_X10_placeOfSpot_0 G (ca_X10_placeOfSpot_ok hst hD F) a0 a1 M h), isC_of hi⟩
  · cases h
def n_X10_placeOfSpot {R' : Type} (f : Nat → Int32 → cM → Option (Int32 × cM)) : cFn R' := fun as M κ κx => match as with
  | [.ref a0, .int a1] => (f a0 a1 M).bind fun p => κ (some (.int p.1)) p.2
  | _ => none
theorem w_X10_placeOfSpot : ∀ w ∈ [Cond.instanceMethod yX10_placeOfSpot, .selects yX10_placeOfSpot.cls yX10_placeOfSpot yX10_placeOfSpot, .initialized yX10_placeOfSpot.cls, .code yX10_placeOfSpot cX10_placeOfSpot 5 (some .int)], w ∈ lw_good := List.forall_mem_cons.mpr ⟨lw_good_of (tb_ok 609 (by decide +kernel)) rfl, List.forall_mem_cons.mpr ⟨lw_good_of (tb_ok 610 (by decide +kernel)) rfl, List.forall_mem_cons.mpr ⟨lw_good_of (tb_ok 2 (by decide +kernel)) rfl, List.forall_mem_cons.mpr ⟨lw_good_of (tb_ok 611 (by decide +kernel)) rfl, fun _ h => absurd h List.not_mem_nil⟩⟩⟩⟩
theorem n_X10_placeOfSpot_ok {R' : Type} {q : cL} {own : String} {d k : Nat} {f : Nat → Int32 → cM → Option (Int32 × cM)} (hl : Cond.methodLink own k yX10_placeOfSpot ∈ lw_good) (hf : ∀ a0 a1 M r, f a0 a1 M = some r → CTx q yX10_placeOfSpot (.code yX10_placeOfSpot cX10_placeOfSpot 5 (some .int)) d [.ref a0, .int a1] M (eI r) ∧ ∃ fs, M[a0]? = some (.inr (8, fs))) : ceS q own d (3 * k + 1) (n_X10_placeOfSpot (R' := R') f) := by
  intro as M κ κx r h
  unfold n_X10_placeOfSpot at h
  split at h
  · obtain ⟨p, h1, h2⟩ := Option.bind_eq_some_iff.mp h
    obtain ⟨hc, fs, ha⟩ := hf _ _ _ _ h1
    exact ⟨eI p, fun _ => h2, fun hne => absurd rfl hne, Or.inr (Or.inl ⟨yX10_placeOfSpot, cX10_placeOfSpot, 5, (some .int), k, 1, _, _, 8, TX10, 3, fs, rfl, rfl, hc, ha, rfl, List.forall_mem_cons.mpr ⟨hl, w_X10_placeOfSpot⟩, ⟨rfl, by decide +kernel, by decide +kernel, by decide +kernel⟩, rfl, by decide⟩)⟩
  · cases h
-- PatchbayScript$Sign.turned(CIZ)C
def T_X7_turned : List cRow := [(0, .iload_n 1, 1, 0), (1, .iconst 1, 2, 0), (2, .if_icmp .eq 12, 5, 14), (5, .iload_n 1, 6, 0), (6, .iconst 3, 7, 0), (7, .if_icmp .ne 11, 10, 18), (10, .iload_n 2, 11, 0), (11, .ifCond .eq 7, 14, 18), (14, .iconst 1, 15, 0), (15, .goto 4, 18, 19), (18, .iconst 0, 19, 0), (19, .istore_n 3, 20, 0), (20, .iload_n 1, 21, 0), (21, .iconst 2, 22, 0), (22, .if_icmp .eq 12, 25, 34), (25, .iload_n 1, 26, 0), (26, .iconst 3, 27, 0), (27, .if_icmp .ne 11, 30, 38), (30, .iload_n 2, 31, 0), (31, .ifCond .ne 7, 34, 38), (34, .iconst 1, 35, 0), (35, .goto 4, 38, 39), (38, .iconst 0, 39, 0), (39, .istore 4, 41, 0), (41, .iload_n 3, 42, 0), (42, .ifCond .eq 24, 45, 66), (45, .iload_n 0, 46, 0), (46, .bipush 97, 48, 0), (48, .if_icmp .lt 18, 51, 66), (51, .iload_n 0, 52, 0), (52, .bipush 122, 54, 0), (54, .if_icmp .gt 12, 57, 66), (57, .iload_n 0, 58, 0), (58, .bipush 97, 60, 0), (60, .isub, 61, 0), (61, .bipush 65, 63, 0), (63, .iadd, 64, 0), (64, .i2c, 65, 0), (65, .ireturn, 66, 0), (66, .iload 4, 68, 0), (68, .ifCond .eq 24, 71, 92), (71, .iload_n 0, 72, 0), (72, .bipush 65, 74, 0), (74, .if_icmp .lt 18, 77, 92), (77, .iload_n 0, 78, 0), (78, .bipush 90, 80, 0), (80, .if_icmp .gt 12, 83, 92), (83, .iload_n 0, 84, 0), (84, .bipush 65, 86, 0), (86, .isub, 87, 0), (87, .bipush 97, 89, 0), (89, .iadd, 90, 0), (90, .i2c, 91, 0), (91, .ireturn, 92, 0), (92, .iload_n 0, 93, 0), (93, .ireturn, 94, 0)]
theorem T_X7_turned_ok : T_X7_turned.all (rowB cX7_turned) = true := by decide +kernel
def th_X7_turned : List (Nat × Nat) := []
def sw_X7_turned : List (Nat × (List (Int32 × Nat) × Nat)) := []
theorem sw_X7_turned_ok : ∀ q ∈ sw_X7_turned, swS cX7_turned q := fun _ h => absurd h List.not_mem_nil
def na_X7_turned : List (Nat × Nat) := []
def ca_X7_turned {R' : Type} (F : Nat) : List (Nat × cFn R') := []
theorem ca_X7_turned_ok {R' : Type} {q : cL} (hst : q.1.stackTraces = false) {D : Nat} (hD : 0 ≤ D) (F : Nat) : ∀ x ∈ (ca_X7_turned (R' := R') F), 1 ≤ D ∧ ceS q RX7 (D - 1) x.1 x.2 := fun _ h => absurd h List.not_mem_nil
def kd_X7_turned_19 (g : Int32 → Int32 → Int32 → Int32 → cM → Option (Int32 × cM)) : cKf (Int32 × cM) := fun vs st M => (lI vs 0).bind fun x0 => (lI vs 1).bind fun x1 => (lI vs 2).bind fun x2 => match st with
  | [.int s0] => g x0 x1 x2 s0 M
  | _ => none
theorem kf_X7_turned_19 {X : cCtx} {o : cO} {r : Int32 × cM} {g : Int32 → Int32 → Int32 → Int32 → cM → Option (Int32 × cM)} (hg : ∀ x0 x1 x2 s0 M, g x0 x1 x2 s0 M = some r → WX X 5 o 19 [some (.int x0), some (.int x1), some (.int x2), none, none] [.int s0] M) : ∀ vs st M, kd_X7_turned_19 g vs st M = some r → WX X 5 o 19 vs st M := by
  intro vs st M h
  unfold kd_X7_turned_19 at h
  obtain ⟨x0, h0, h⟩ := Option.bind_eq_some_iff.mp h
  obtain ⟨x1, h1, h⟩ := Option.bind_eq_some_iff.mp h
  obtain ⟨x2, h2, h⟩ := Option.bind_eq_some_iff.mp h
  split at h
  · exact WX_weak (hg _ _ _ _ _ h) rfl ⟨lI_of h0, lI_of h1, lI_of h2, trivial⟩
  · cases h
def kd_X7_turned_39 (g : Int32 → Int32 → Int32 → cM → Option (Int32 × cM)) : cKf (Int32 × cM) := fun vs st M => (lI vs 0).bind fun x0 => (lI vs 3).bind fun x3 => match st with
  | [.int s0] => g x0 x3 s0 M
  | _ => none
theorem kf_X7_turned_39 {X : cCtx} {o : cO} {r : Int32 × cM} {g : Int32 → Int32 → Int32 → cM → Option (Int32 × cM)} (hg : ∀ x0 x3 s0 M, g x0 x3 s0 M = some r → WX X 5 o 39 [some (.int x0), none, none, some (.int x3), none] [.int s0] M) : ∀ vs st M, kd_X7_turned_39 g vs st M = some r → WX X 5 o 39 vs st M := by
  intro vs st M h
  unfold kd_X7_turned_39 at h
  obtain ⟨x0, h0, h⟩ := Option.bind_eq_some_iff.mp h
  obtain ⟨x3, h3, h⟩ := Option.bind_eq_some_iff.mp h
  split at h
  · exact WX_weak (hg _ _ _ _ h) rfl ⟨lI_of h0, lI_of h3, trivial⟩
  · cases h
def kd_X7_turned_66 (g : Int32 → Int32 → cM → Option (Int32 × cM)) : cKf (Int32 × cM) := fun vs st M => (lI vs 0).bind fun x0 => (lI vs 4).bind fun x4 => match st with
  | [] => g x0 x4 M
  | _ => none
theorem kf_X7_turned_66 {X : cCtx} {o : cO} {r : Int32 × cM} {g : Int32 → Int32 → cM → Option (Int32 × cM)} (hg : ∀ x0 x4 M, g x0 x4 M = some r → WX X 5 o 66 [some (.int x0), none, none, none, some (.int x4)] [] M) : ∀ vs st M, kd_X7_turned_66 g vs st M = some r → WX X 5 o 66 vs st M := by
  intro vs st M h
  unfold kd_X7_turned_66 at h
  obtain ⟨x0, h0, h⟩ := Option.bind_eq_some_iff.mp h
  obtain ⟨x4, h4, h⟩ := Option.bind_eq_some_iff.mp h
  split at h
  · exact WX_weak (hg _ _ _ h) rfl ⟨lI_of h0, lI_of h4, trivial⟩
  · cases h
theorem e_X7_turned_66 (F : Nat) (x0 : Int32) (x4 : Int32) (M : cM) : b_X7_turned_66 F x0 x4 M = run T_X7_turned P_RX7 false 2 (naL na_X7_turned) (caL (ca_X7_turned F)) (lkN th_X7_turned) (lkN sw_X7_turned) krI kxN (spL []) (KL []) 59 66 [some (.int x0), none, none, none, some (.int x4)] [] M := rfl
theorem ok_X7_turned_66 {X : cCtx} {D : Nat} {r : Int32 × cM} (G : FX X 5 (eI r) cX7_turned RX7 2 D) {F : Nat} (hca : ∀ x ∈ (ca_X7_turned (R' := Int32 × cM) F), 1 ≤ D ∧ ceS X.1 RX7 (D - 1) x.1 x.2) : ∀ x0 x4 M, f_X7_turned_66 F x0 x4 M = some r → WX X 5 (eI r) 66 [some (.int x0), none, none, none, some (.int x4)] [] M := by
  intro x0 x4 M h
  exact seg_ok G P_RX7_ok T_X7_turned_ok hca (fun _ h => absurd h List.not_mem_nil) sw_X7_turned_ok krI_ok (kxN_ok (f := eI)) (fun _ h => absurd h List.not_mem_nil) ((e_X7_turned_66 F x0 x4 M).symm.trans h)
theorem e_X7_turned_39 (F : Nat) (t66 : Int32 → Int32 → cM → Option (Int32 × cM)) (x0 : Int32) (x3 : Int32) (s0 : Int32) (M : cM) : b_X7_turned_39 F t66 x0 x3 s0 M = run T_X7_turned P_RX7 false 2 (naL na_X7_turned) (caL (ca_X7_turned F)) (lkN th_X7_turned) (lkN sw_X7_turned) krI kxN (spL [66]) (KL [(66, kd_X7_turned_66 t66)]) 59 39 [some (.int x0), none, none, some (.int x3), none] [.int s0] M := rfl
theorem ok_X7_turned_39 {X : cCtx} {D : Nat} {r : Int32 × cM} (G : FX X 5 (eI r) cX7_turned RX7 2 D) {F : Nat} (hca : ∀ x ∈ (ca_X7_turned (R' := Int32 × cM) F), 1 ≤ D ∧ ceS X.1 RX7 (D - 1) x.1 x.2) : ∀ x0 x3 s0 M, f_X7_turned_39 F x0 x3 s0 M = some r → WX X 5 (eI r) 39 [some (.int x0), none, none, some (.int x3), none] [.int s0] M := by
  intro x0 x3 s0 M h
  exact seg_ok G P_RX7_ok T_X7_turned_ok hca (fun _ h => absurd h List.not_mem_nil) sw_X7_turned_ok krI_ok (kxN_ok (f := eI)) (List.forall_mem_cons.mpr ⟨kf_X7_turned_66 (ok_X7_turned_66 G hca), fun _ h => absurd h List.not_mem_nil⟩) ((e_X7_turned_39 F (f_X7_turned_66 F) x0 x3 s0 M).symm.trans h)
theorem e_X7_turned_19 (F : Nat) (t39 : Int32 → Int32 → Int32 → cM → Option (Int32 × cM)) (x0 : Int32) (x1 : Int32) (x2 : Int32) (s0 : Int32) (M : cM) : b_X7_turned_19 F t39 x0 x1 x2 s0 M = run T_X7_turned P_RX7 false 2 (naL na_X7_turned) (caL (ca_X7_turned F)) (lkN th_X7_turned) (lkN sw_X7_turned) krI kxN (spL [39]) (KL [(39, kd_X7_turned_39 t39)]) 59 19 [some (.int x0), some (.int x1), some (.int x2), none, none] [.int s0] M := rfl
theorem ok_X7_turned_19 {X : cCtx} {D : Nat} {r : Int32 × cM} (G : FX X 5 (eI r) cX7_turned RX7 2 D) {F : Nat} (hca : ∀ x ∈ (ca_X7_turned (R' := Int32 × cM) F), 1 ≤ D ∧ ceS X.1 RX7 (D - 1) x.1 x.2) : ∀ x0 x1 x2 s0 M, f_X7_turned_19 F x0 x1 x2 s0 M = some r → WX X 5 (eI r) 19 [some (.int x0), some (.int x1), some (.int x2), none, none] [.int s0] M := by
  intro x0 x1 x2 s0 M h
  exact seg_ok G P_RX7_ok T_X7_turned_ok hca (fun _ h => absurd h List.not_mem_nil) sw_X7_turned_ok krI_ok (kxN_ok (f := eI)) (List.forall_mem_cons.mpr ⟨kf_X7_turned_39 (ok_X7_turned_39 G hca), fun _ h => absurd h List.not_mem_nil⟩) ((e_X7_turned_19 F (f_X7_turned_39 F) x0 x1 x2 s0 M).symm.trans h)
theorem e_X7_turned_0 (F : Nat) (t19 : Int32 → Int32 → Int32 → Int32 → cM → Option (Int32 × cM)) (x0 : Int32) (x1 : Int32) (x2 : Int32) (M : cM) : b_X7_turned_0 F t19 x0 x1 x2 M = run T_X7_turned P_RX7 false 2 (naL na_X7_turned) (caL (ca_X7_turned F)) (lkN th_X7_turned) (lkN sw_X7_turned) krI kxN (spL [19]) (KL [(19, kd_X7_turned_19 t19)]) 59 0 [some (.int x0), some (.int x1), some (.int x2), none, none] [] M := rfl
theorem ok_X7_turned_0 {X : cCtx} {D : Nat} {r : Int32 × cM} (G : FX X 5 (eI r) cX7_turned RX7 2 D) {F : Nat} (hca : ∀ x ∈ (ca_X7_turned (R' := Int32 × cM) F), 1 ≤ D ∧ ceS X.1 RX7 (D - 1) x.1 x.2) : ∀ x0 x1 x2 M, f_X7_turned_0 F x0 x1 x2 M = some r → WX X 5 (eI r) 0 [some (.int x0), some (.int x1), some (.int x2), none, none] [] M := by
  intro x0 x1 x2 M h
  exact seg_ok G P_RX7_ok T_X7_turned_ok hca (fun _ h => absurd h List.not_mem_nil) sw_X7_turned_ok krI_ok (kxN_ok (f := eI)) (List.forall_mem_cons.mpr ⟨kf_X7_turned_19 (ok_X7_turned_19 G hca), fun _ h => absurd h List.not_mem_nil⟩) ((e_X7_turned_0 F (f_X7_turned_19 F) x0 x1 x2 M).symm.trans h)
theorem c_X7_turned {q : cL} (hst : q.1.stackTraces = false) {D : Nat} (hD : 0 ≤ D) (F : Nat) (a0 : Int32) (a1 : Int32) (a2 : Int32) (M : cM) (r : Int32 × cM) (h : f_X7_turned F a0 a1 a2 M = some r) : CTx q yX7_turned (.code yX7_turned cX7_turned 5 (some .char)) D [.int a0, .int a1, .int a2] M (eI r) := by
  exact CTx_of (own := RX7) (rk := 2) hst (by decide +kernel) rfl (rfl) (Nat.le_of_ble_eq_true rfl) (fun X hX G => by subst hX; exact ok_X7_turned_0 G (ca_X7_turned_ok hst hD F) a0 a1 a2 M h)
def n_X7_turned {R' : Type} (f : Int32 → Int32 → Int32 → cM → Option (Int32 × cM)) : cFn R' := fun as M κ κx => match as with
  | [.int a0, .int a1, .int a2] => (f a0 a1 a2 M).bind fun p => κ (some (.int p.1)) p.2
  | _ => none
theorem w_X7_turned : ∀ w ∈ [Cond.static yX7_turned, .initialized yX7_turned.cls, .code yX7_turned cX7_turned 5 (some .char)], w ∈ lw_good := List.forall_mem_cons.mpr ⟨lw_good_of (tb_ok 621 (by decide +kernel)) rfl, List.forall_mem_cons.mpr ⟨lw_good_of (tb_ok 12 (by decide +kernel)) rfl, List.forall_mem_cons.mpr ⟨lw_good_of (tb_ok 622 (by decide +kernel)) rfl, fun _ h => absurd h List.not_mem_nil⟩⟩⟩
theorem n_X7_turned_ok {R' : Type} {q : cL} {own : String} {d k : Nat} {f : Int32 → Int32 → Int32 → cM → Option (Int32 × cM)} (hl : Cond.methodLink own k yX7_turned ∈ lw_good) (hf : ∀ a0 a1 a2 M r, f a0 a1 a2 M = some r → CTx q yX7_turned (.code yX7_turned cX7_turned 5 (some .char)) d [.int a0, .int a1, .int a2] M (eI r)) : ceS q own d (3 * k) (n_X7_turned (R' := R') f) := by
  intro as M κ κx r h
  unfold n_X7_turned at h
  split at h
  · obtain ⟨p, h1, h2⟩ := Option.bind_eq_some_iff.mp h
    exact ⟨eI p, fun _ => h2, fun hne => absurd rfl hne, Or.inl ⟨yX7_turned, cX7_turned, 5, (some .char), k, 3, rfl, hf _ _ _ _ _ h1, List.forall_mem_cons.mpr ⟨hl, w_X7_turned⟩, ⟨by decide +kernel, by decide +kernel, by decide +kernel⟩, rfl, by decide⟩⟩
  · cases h
-- PatchbayScript$Atom.makesCut(ILPatchbayScript$Text;LPatchbayScript$Text;)Z
def T_X0_makesCut : List cRow := [(0, .aload_n 1, 1, 0), (1, .iload_n 0, 2, 0), (2, .iconst 1, 3, 0), (3, .invokestatic 48, 6, 0), (6, .invokevirtual 69, 9, 0), (9, .istore_n 3, 10, 0), (10, .aload_n 1, 11, 0), (11, .iload_n 0, 12, 0), (12, .iconst 2, 13, 0), (13, .invokestatic 48, 16, 0), (16, .invokevirtual 69, 19, 0), (19, .istore 4, 21, 0), (21, .iload_n 0, 22, 0), (22, .iconst 3, 23, 0), (23, .invokestatic 48, 26, 0), (26, .istore 5, 28, 0), (28, .iload_n 3, 29, 0), (29, .ifCond .lt 9, 32, 38), (32, .iload_n 3, 33, 0), (33, .iload 4, 35, 0), (35, .if_icmp .lt 5, 38, 40), (38, .iconst 0, 39, 0), (39, .ireturn, 40, 0), (40, .iload_n 3, 41, 0), (41, .istore 6, 43, 0), (43, .iload 6, 45, 0), (45, .iload 4, 47, 0), (47, .if_icmp .ge 40, 50, 87), (50, .aload_n 2, 51, 0), (51, .aload_n 1, 52, 0), (52, .iload 6, 54, 0), (54, .invokevirtual 19, 57, 0), (57, .iload 5, 59, 0), (59, .iload 6, 61, 0), (61, .iload_n 3, 62, 0), (62, .if_icmp .ne 7, 65, 69), (65, .iconst 1, 66, 0), (66, .goto 4, 69, 70), (69, .iconst 0, 70, 0), (70, .invokestatic 72, 73, 0), (73, .invokevirtual 65, 76, 0), (76, .ifCond .ne 5, 79, 81), (79, .iconst 0, 80, 0), (80, .ireturn, 81, 0), (81, .iinc 6 1, 84, 0), (84, .goto (-41), 87, 43), (87, .iconst 1, 88, 0), (88, .ireturn, 89, 0)]
theorem T_X0_makesCut_ok : T_X0_makesCut.all (rowB cX0_makesCut) = true := by decide +kernel
def th_X0_makesCut : List (Nat × Nat) := []
def sw_X0_makesCut : List (Nat × (List (Int32 × Nat) × Nat)) := []
theorem sw_X0_makesCut_ok : ∀ q ∈ sw_X0_makesCut, swS cX0_makesCut q := fun _ h => absurd h List.not_mem_nil
def na_X0_makesCut : List (Nat × Nat) := [(144, 2), (208, 2), (58, 2), (216, 3), (196, 2)]
def ca_X0_makesCut {R' : Type} (F : Nat) : List (Nat × cFn R') := [(144, n_X0_partOf (f_X0_partOf F)), (208, n_X10_placeOfSpot (f_X10_placeOfSpot F)), (58, n_X10_at (f_X10_at F)), (216, n_X7_turned (f_X7_turned F)), (196, n_X10_add (f_X10_add F))]
theorem ca_X0_makesCut_ok {R' : Type} {q : cL} (hst : q.1.stackTraces = false) {D : Nat} (hD : 2 ≤ D) (F : Nat) : ∀ x ∈ (ca_X0_makesCut (R' := R') F), 1 ≤ D ∧ ceS q RX0 (D - 1) x.1 x.2 := List.forall_mem_cons.mpr ⟨⟨by omega, n_X0_partOf_ok (k := 48) (lw_good_of (tb_ok 598 (by decide +kernel)) rfl) (fun a0 a1 M r h => c_X0_partOf hst (by omega) F a0 a1 M r h)⟩, List.forall_mem_cons.mpr ⟨⟨by omega, n_X10_placeOfSpot_ok (k := 69) (lw_good_of (tb_ok 608 (by decide +kernel)) rfl) (fun a0 a1 M r h => c_X10_placeOfSpot hst (by omega) F a0 a1 M r h)⟩, List.forall_mem_cons.mpr ⟨⟨by omega, n_X10_at_ok (k := 19) (lw_good_of (tb_ok 616 (by decide +kernel)) rfl) (fun a0 a1 M r h => c_X10_at hst (by omega) F a0 a1 M r h)⟩, List.forall_mem_cons.mpr ⟨⟨by omega, n_X7_turned_ok (k := 72) (lw_good_of (tb_ok 620 (by decide +kernel)) rfl) (fun a0 a1 a2 M r h => c_X7_turned hst (by omega) F a0 a1 a2 M r h)⟩, List.forall_mem_cons.mpr ⟨⟨by omega, n_X10_add_ok (k := 65) (lw_good_of (tb_ok 594 (by decide +kernel)) rfl) (fun a0 a1 M r h => c_X10_add hst (by omega) F a0 a1 M r h)⟩, fun _ h => absurd h List.not_mem_nil⟩⟩⟩⟩⟩
def kd_X0_makesCut_43 (g : Nat → Nat → Int32 → Int32 → Int32 → Int32 → cM → Option (Int32 × cM)) : cKf (Int32 × cM) := fun vs st M => (lR vs 1).bind fun x1 => (lR vs 2).bind fun x2 => (lI vs 3).bind fun x3 => (lI vs 4).bind fun x4 => (lI vs 5).bind fun x5 => (lI vs 6).bind fun x6 => match st with
  | [] => g x1 x2 x3 x4 x5 x6 M
  | _ => none
theorem kf_X0_makesCut_43 {X : cCtx} {o : cO} {r : Int32 × cM} {g : Nat → Nat → Int32 → Int32 → Int32 → Int32 → cM → Option (Int32 × cM)} (hg : ∀ x1 x2 x3 x4 x5 x6 M, g x1 x2 x3 x4 x5 x6 M = some r → WX X 7 o 43 [none, some (.ref x1), some (.ref x2), some (.int x3), some (.int x4), some (.int x5), some (.int x6)] [] M) : ∀ vs st M, kd_X0_makesCut_43 g vs st M = some r → WX X 7 o 43 vs st M := by
  intro vs st M h
  unfold kd_X0_makesCut_43 at h
  obtain ⟨x1, h1, h⟩ := Option.bind_eq_some_iff.mp h
  obtain ⟨x2, h2, h⟩ := Option.bind_eq_some_iff.mp h
  obtain ⟨x3, h3, h⟩ := Option.bind_eq_some_iff.mp h
  obtain ⟨x4, h4, h⟩ := Option.bind_eq_some_iff.mp h
  obtain ⟨x5, h5, h⟩ := Option.bind_eq_some_iff.mp h
  obtain ⟨x6, h6, h⟩ := Option.bind_eq_some_iff.mp h
  split at h
  · exact WX_weak (hg _ _ _ _ _ _ _ h) rfl ⟨lR_of h1, lR_of h2, lI_of h3, lI_of h4, lI_of h5, lI_of h6, trivial⟩
  · cases h
theorem e_X0_makesCut_43 (F : Nat) (t43 : Nat → Nat → Int32 → Int32 → Int32 → Int32 → cM → Option (Int32 × cM)) (x1 : Nat) (x2 : Nat) (x3 : Int32) (x4 : Int32) (x5 : Int32) (x6 : Int32) (M : cM) : b_X0_makesCut_43 F t43 x1 x2 x3 x4 x5 x6 M = run T_X0_makesCut P_RX0 false 1 (naL na_X0_makesCut) (caL (ca_X0_makesCut F)) (lkN th_X0_makesCut) (lkN sw_X0_makesCut) krI kxN (spL [43]) (KL [(43, kd_X0_makesCut_43 t43)]) 51 43 [none, some (.ref x1), some (.ref x2), some (.int x3), some (.int x4), some (.int x5), some (.int x6)] [] M := rfl
theorem ok_X0_makesCut_43 {X : cCtx} {D : Nat} {r : Int32 × cM} (G : FX X 7 (eI r) cX0_makesCut RX0 1 D) {F : Nat} (hca : ∀ x ∈ (ca_X0_makesCut (R' := Int32 × cM) F), 1 ≤ D ∧ ceS X.1 RX0 (D - 1) x.1 x.2) (n : Nat) : ∀ x1 x2 x3 x4 x5 x6 M, f_X0_makesCut_43 F n x1 x2 x3 x4 x5 x6 M = some r → WX X 7 (eI r) 43 [none, some (.ref x1), some (.ref x2), some (.int x3), some (.int x4), some (.int x5), some (.int x6)] [] M := by
  induction n with
  | zero => intro x1 x2 x3 x4 x5 x6 M h; cases h
  | succ n ih =>
    intro x1 x2 x3 x4 x5 x6 M h
    exact seg_ok G P_RX0_ok T_X0_makesCut_ok hca (fun _ h => absurd h List.not_mem_nil) sw_X0_makesCut_ok krI_ok (kxN_ok (f := eI)) (List.forall_mem_cons.mpr ⟨kf_X0_makesCut_43 (ih), fun _ h => absurd h List.not_mem_nil⟩) ((e_X0_makesCut_43 F (f_X0_makesCut_43 F n) x1 x2 x3 x4 x5 x6 M).symm.trans h)
theorem e_X0_makesCut_0 (F : Nat) (t43 : Nat → Nat → Int32 → Int32 → Int32 → Int32 → cM → Option (Int32 × cM)) (x0 : Int32) (x1 : Nat) (x2 : Nat) (M : cM) : b_X0_makesCut_0 F t43 x0 x1 x2 M = run T_X0_makesCut P_RX0 false 1 (naL na_X0_makesCut) (caL (ca_X0_makesCut F)) (lkN th_X0_makesCut) (lkN sw_X0_makesCut) krI kxN (spL [43]) (KL [(43, kd_X0_makesCut_43 t43)]) 51 0 [some (.int x0), some (.ref x1), some (.ref x2), none, none, none, none] [] M := rfl
theorem ok_X0_makesCut_0 {X : cCtx} {D : Nat} {r : Int32 × cM} (G : FX X 7 (eI r) cX0_makesCut RX0 1 D) {F : Nat} (hca : ∀ x ∈ (ca_X0_makesCut (R' := Int32 × cM) F), 1 ≤ D ∧ ceS X.1 RX0 (D - 1) x.1 x.2) : ∀ x0 x1 x2 M, f_X0_makesCut_0 F x0 x1 x2 M = some r → WX X 7 (eI r) 0 [some (.int x0), some (.ref x1), some (.ref x2), none, none, none, none] [] M := by
  intro x0 x1 x2 M h
  exact seg_ok G P_RX0_ok T_X0_makesCut_ok hca (fun _ h => absurd h List.not_mem_nil) sw_X0_makesCut_ok krI_ok (kxN_ok (f := eI)) (List.forall_mem_cons.mpr ⟨kf_X0_makesCut_43 (ok_X0_makesCut_43 G hca F), fun _ h => absurd h List.not_mem_nil⟩) ((e_X0_makesCut_0 F (f_X0_makesCut_43 F F) x0 x1 x2 M).symm.trans h)
theorem c_X0_makesCut {q : cL} (hst : q.1.stackTraces = false) {D : Nat} (hD : 2 ≤ D) (F : Nat) (a0 : Int32) (a1 : Nat) (a2 : Nat) (M : cM) (r : Int32 × cM) (h : f_X0_makesCut F a0 a1 a2 M = some r) : CTx q yX0_makesCut (.code yX0_makesCut cX0_makesCut 7 (some .boolean)) D [.int a0, .ref a1, .ref a2] M (eI r) := by
  exact CTx_of (own := RX0) (rk := 1) hst (by decide +kernel) rfl (rfl) (Nat.le_of_ble_eq_true rfl) (fun X hX G => by subst hX; exact ok_X0_makesCut_0 G (ca_X0_makesCut_ok hst hD F) a0 a1 a2 M h)
def n_X0_makesCut {R' : Type} (f : Int32 → Nat → Nat → cM → Option (Int32 × cM)) : cFn R' := fun as M κ κx => match as with
  | [.int a0, .ref a1, .ref a2] => (f a0 a1 a2 M).bind fun p => κ (some (.int p.1)) p.2
  | _ => none
theorem w_X0_makesCut : ∀ w ∈ [Cond.static yX0_makesCut, .initialized yX0_makesCut.cls, .code yX0_makesCut cX0_makesCut 7 (some .boolean)], w ∈ lw_good := List.forall_mem_cons.mpr ⟨lw_good_of (tb_ok 596 (by decide +kernel)) rfl, List.forall_mem_cons.mpr ⟨lw_good_of (tb_ok 19 (by decide +kernel)) rfl, List.forall_mem_cons.mpr ⟨lw_good_of (tb_ok 597 (by decide +kernel)) rfl, fun _ h => absurd h List.not_mem_nil⟩⟩⟩
theorem n_X0_makesCut_ok {R' : Type} {q : cL} {own : String} {d k : Nat} {f : Int32 → Nat → Nat → cM → Option (Int32 × cM)} (hl : Cond.methodLink own k yX0_makesCut ∈ lw_good) (hf : ∀ a0 a1 a2 M r, f a0 a1 a2 M = some r → CTx q yX0_makesCut (.code yX0_makesCut cX0_makesCut 7 (some .boolean)) d [.int a0, .ref a1, .ref a2] M (eI r)) : ceS q own d (3 * k) (n_X0_makesCut (R' := R') f) := by
  intro as M κ κx r h
  unfold n_X0_makesCut at h
  split at h
  · obtain ⟨p, h1, h2⟩ := Option.bind_eq_some_iff.mp h
    exact ⟨eI p, fun _ => h2, fun hne => absurd rfl hne, Or.inl ⟨yX0_makesCut, cX0_makesCut, 7, (some .boolean), k, 3, rfl, hf _ _ _ _ _ h1, List.forall_mem_cons.mpr ⟨hl, w_X0_makesCut⟩, ⟨by decide +kernel, by decide +kernel, by decide +kernel⟩, rfl, by decide⟩⟩
  · cases h
-- PatchbayScript$Sign.markOf(I)C
def T_X7_markOf : List cRow := [(0, .iload_n 0, 1, 0), (1, .tableswitch 43 1 4 #[31, 34, 37, 40], 2, 0), (32, .bipush 32, 34, 0), (34, .ireturn, 35, 0), (35, .bipush 44, 37, 0), (37, .ireturn, 38, 0), (38, .bipush 46, 40, 0), (40, .ireturn, 41, 0), (41, .bipush 45, 43, 0), (43, .ireturn, 44, 0), (44, .bipush 47, 46, 0), (46, .ireturn, 47, 0)]
theorem T_X7_markOf_ok : T_X7_markOf.all (rowB cX7_markOf) = true := by decide +kernel
def th_X7_markOf : List (Nat × Nat) := []
def sw_X7_markOf : List (Nat × (List (Int32 × Nat) × Nat)) := [(1, ([(1, 32), (2, 35), (3, 38), (4, 41)], 44))]
theorem sw_X7_markOf_ok : ∀ q ∈ sw_X7_markOf, swS cX7_markOf q := List.forall_mem_cons.mpr ⟨⟨.tableswitch 43 1 4 #[31, 34, 37, 40], 31, by decide +kernel⟩, fun _ h => absurd h List.not_mem_nil⟩
def na_X7_markOf : List (Nat × Nat) := []
def ca_X7_markOf {R' : Type} (F : Nat) : List (Nat × cFn R') := []
theorem ca_X7_markOf_ok {R' : Type} {q : cL} (hst : q.1.stackTraces = false) {D : Nat} (hD : 0 ≤ D) (F : Nat) : ∀ x ∈ (ca_X7_markOf (R' := R') F), 1 ≤ D ∧ ceS q RX7 (D - 1) x.1 x.2 := fun _ h => absurd h List.not_mem_nil
theorem e_X7_markOf_0 (F : Nat) (x0 : Int32) (M : cM) : b_X7_markOf_0 F x0 M = run T_X7_markOf P_RX7 false 2 (naL na_X7_markOf) (caL (ca_X7_markOf F)) (lkN th_X7_markOf) (lkN sw_X7_markOf) krI kxN (spL []) (KL []) 15 0 [some (.int x0)] [] M := rfl
theorem ok_X7_markOf_0 {X : cCtx} {D : Nat} {r : Int32 × cM} (G : FX X 1 (eI r) cX7_markOf RX7 2 D) {F : Nat} (hca : ∀ x ∈ (ca_X7_markOf (R' := Int32 × cM) F), 1 ≤ D ∧ ceS X.1 RX7 (D - 1) x.1 x.2) : ∀ x0 M, f_X7_markOf_0 F x0 M = some r → WX X 1 (eI r) 0 [some (.int x0)] [] M := by
  intro x0 M h
  exact seg_ok G P_RX7_ok T_X7_markOf_ok hca (fun _ h => absurd h List.not_mem_nil) sw_X7_markOf_ok krI_ok (kxN_ok (f := eI)) (fun _ h => absurd h List.not_mem_nil) ((e_X7_markOf_0 F x0 M).symm.trans h)
theorem c_X7_markOf {q : cL} (hst : q.1.stackTraces = false) {D : Nat} (hD : 0 ≤ D) (F : Nat) (a0 : Int32) (M : cM) (r : Int32 × cM) (h : f_X7_markOf F a0 M = some r) : CTx q yX7_markOf (.code yX7_markOf cX7_markOf 1 (some .char)) D [.int a0] M (eI r) := by
  exact CTx_of (own := RX7) (rk := 2) hst (by decide +kernel) rfl (rfl) (Nat.le_of_ble_eq_true rfl) (fun X hX G => by subst hX; exact ok_X7_markOf_0 G (ca_X7_markOf_ok hst hD F) a0 M h)
def n_X7_markOf {R' : Type} (f : Int32 → cM → Option (Int32 × cM)) : cFn R' := fun as M κ κx => match as with
  | [.int a0] => (f a0 M).bind fun p => κ (some (.int p.1)) p.2
  | _ => none
theorem w_X7_markOf : ∀ w ∈ [Cond.static yX7_markOf, .initialized yX7_markOf.cls, .code yX7_markOf cX7_markOf 1 (some .char)], w ∈ lw_good := List.forall_mem_cons.mpr ⟨lw_good_of (tb_ok 422 (by decide +kernel)) rfl, List.forall_mem_cons.mpr ⟨lw_good_of (tb_ok 12 (by decide +kernel)) rfl, List.forall_mem_cons.mpr ⟨lw_good_of (tb_ok 423 (by decide +kernel)) rfl, fun _ h => absurd h List.not_mem_nil⟩⟩⟩
theorem n_X7_markOf_ok {R' : Type} {q : cL} {own : String} {d k : Nat} {f : Int32 → cM → Option (Int32 × cM)} (hl : Cond.methodLink own k yX7_markOf ∈ lw_good) (hf : ∀ a0 M r, f a0 M = some r → CTx q yX7_markOf (.code yX7_markOf cX7_markOf 1 (some .char)) d [.int a0] M (eI r)) : ceS q own d (3 * k) (n_X7_markOf (R' := R') f) := by
  intro as M κ κx r h
  unfold n_X7_markOf at h
  split at h
  · obtain ⟨p, h1, h2⟩ := Option.bind_eq_some_iff.mp h
    exact ⟨eI p, fun _ => h2, fun hne => absurd rfl hne, Or.inl ⟨yX7_markOf, cX7_markOf, 1, (some .char), k, 1, rfl, hf _ _ _ h1, List.forall_mem_cons.mpr ⟨hl, w_X7_markOf⟩, ⟨by decide +kernel, by decide +kernel, by decide +kernel⟩, rfl, by decide⟩⟩
  · cases h
-- PatchbayScript$Atom.makesEach(ILPatchbayScript$Text;LPatchbayScript$Text;)Z
def T_X0_makesEach : List cRow := [(0, .aload_n 1, 1, 0), (1, .iload_n 0, 2, 0), (2, .iconst 1, 3, 0), (3, .invokestatic 48, 6, 0), (6, .iload_n 0, 7, 0), (7, .iconst 2, 8, 0), (8, .invokestatic 48, 11, 0), (11, .invokevirtual 76, 14, 0), (14, .istore_n 3, 15, 0), (15, .aload_n 1, 16, 0), (16, .iload_n 0, 17, 0), (17, .iconst 1, 18, 0), (18, .invokestatic 48, 21, 0), (21, .iconst 1, 22, 0), (22, .invokevirtual 76, 25, 0), (25, .istore 4, 27, 0), (27, .iload_n 0, 28, 0), (28, .iconst 3, 29, 0), (29, .invokestatic 48, 32, 0), (32, .istore 5, 34, 0), (34, .iload 4, 36, 0), (36, .iload 4, 38, 0), (38, .ineg, 39, 0), (39, .iand, 40, 0), (40, .istore 6, 42, 0), (42, .iconst 0, 43, 0), (43, .istore 7, 45, 0), (45, .iload 7, 47, 0), (47, .aload_n 1, 48, 0), (48, .getfield 15, 51, 0), (51, .if_icmp .ge 69, 54, 120), (54, .iconst 1, 55, 0), (55, .iload 7, 57, 0), (57, .ishl, 58, 0), (58, .istore 8, 60, 0), (60, .iload 5, 62, 0), (62, .ifCond .eq 30, 65, 92), (65, .iload 4, 67, 0), (67, .iload 8, 69, 0), (69, .iand, 70, 0), (70, .iload 6, 72, 0), (72, .iconst (-1), 73, 0), (73, .ixor, 74, 0), (74, .iand, 75, 0), (75, .ifCond .eq 17, 78, 92), (78, .aload_n 2, 79, 0), (79, .iload 5, 81, 0), (81, .invokestatic 79, 84, 0), (84, .invokevirtual 65, 87, 0), (87, .ifCond .ne 5, 90, 92), (90, .iconst 0, 91, 0), (91, .ireturn, 92, 0), (92, .iload_n 3, 93, 0), (93, .iload 8, 95, 0), (95, .iand, 96, 0), (96, .ifCond .eq 18, 99, 114), (99, .aload_n 2, 100, 0), (100, .aload_n 1, 101, 0), (101, .iload 7, 103, 0), (103, .invokevirtual 19, 106, 0), (106, .invokevirtual 65, 109, 0), (109, .ifCond .ne 5, 112, 114), (112, .iconst 0, 113, 0), (113, .ireturn, 114, 0), (114, .iinc 7 1, 117, 0), (117, .goto (-72), 120, 45), (120, .iload 4, 122, 0), (122, .ifCond .eq 7, 125, 129), (125, .iconst 1, 126, 0), (126, .goto 4, 129, 130), (129, .iconst 0, 130, 0), (130, .ireturn, 131, 0)]
theorem T_X0_makesEach_ok : T_X0_makesEach.all (rowB cX0_makesEach) = true := by decide +kernel
def th_X0_makesEach : List (Nat × Nat) := []
def sw_X0_makesEach : List (Nat × (List (Int32 × Nat) × Nat)) := []
theorem sw_X0_makesEach_ok : ∀ q ∈ sw_X0_makesEach, swS cX0_makesEach q := fun _ h => absurd h List.not_mem_nil
def na_X0_makesEach : List (Nat × Nat) := [(144, 2), (229, 3), (237, 1), (196, 2), (58, 2)]
def ca_X0_makesEach {R' : Type} (F : Nat) : List (Nat × cFn R') := [(144, n_X0_partOf (f_X0_partOf F)), (229, n_X10_placesOfRuns (f_X10_placesOfRuns F)), (237, n_X7_markOf (f_X7_markOf F)), (196, n_X10_add (f_X10_add F)), (58, n_X10_at (f_X10_at F))]
theorem ca_X0_makesEach_ok {R' : Type} {q : cL} (hst : q.1.stackTraces = false) {D : Nat} (hD : 2 ≤ D) (F : Nat) : ∀ x ∈ (ca_X0_makesEach (R' := R') F), 1 ≤ D ∧ ceS q RX0 (D - 1) x.1 x.2 := List.forall_mem_cons.mpr ⟨⟨by omega, n_X0_partOf_ok (k := 48) (lw_good_of (tb_ok 598 (by decide +kernel)) rfl) (fun a0 a1 M r h => c_X0_partOf hst (by omega) F a0 a1 M r h)⟩, List.forall_mem_cons.mpr ⟨⟨by omega, n_X10_placesOfRuns_ok (k := 76) (lw_good_of (tb_ok 626 (by decide +kernel)) rfl) (fun a0 a1 a2 M r h => c_X10_placesOfRuns hst (by omega) F a0 a1 a2 M r h)⟩, List.forall_mem_cons.mpr ⟨⟨by omega, n_X7_markOf_ok (k := 79) (lw_good_of (tb_ok 627 (by decide +kernel)) rfl) (fun a0 M r h => c_X7_markOf hst (by omega) F a0 M r h)⟩, List.forall_mem_cons.mpr ⟨⟨by omega, n_X10_add_ok (k := 65) (lw_good_of (tb_ok 594 (by decide +kernel)) rfl) (fun a0 a1 M r h => c_X10_add hst (by omega) F a0 a1 M r h)⟩, List.forall_mem_cons.mpr ⟨⟨by omega, n_X10_at_ok (k := 19) (lw_good_of (tb_ok 616 (by decide +kernel)) rfl) (fun a0 a1 M r h => c_X10_at hst (by omega) F a0 a1 M r h)⟩, fun _ h => absurd h List.not_mem_nil⟩⟩⟩⟩⟩
def kd_X0_makesEach_45 (g : Nat → Nat → Int32 → Int32 → Int32 → Int32 → Int32 → cM → Option (Int32 × cM)) : cKf (Int32 × cM) := fun vs st M => (lR vs 1).bind fun x1 => (lR vs 2).bind fun x2 => (lI vs 3).bind fun x3 => (lI vs 4).bind fun x4 => (lI vs 5).bind fun x5 => (lI vs 6).bind fun x6 => (lI vs 7).bind fun x7 => match st with
  | [] => g x1 x2 x3 x4 x5 x6 x7 M
  | _ => none
theorem kf_X0_makesEach_45 {X : cCtx} {o : cO} {r : Int32 × cM} {g : Nat → Nat → Int32 → Int32 → Int32 → Int32 → Int32 → cM → Option (Int32 × cM)} (hg : ∀ x1 x2 x3 x4 x5 x6 x7 M, g x1 x2 x3 x4 x5 x6 x7 M = some r → WX X 9 o 45 [none, some (.ref x1), some (.ref x2), some (.int x3), some (.int x4), some (.int x5), some (.int x6), some (.int x7), none] [] M) : ∀ vs st M, kd_X0_makesEach_45 g vs st M = some r → WX X 9 o 45 vs st M := by
  intro vs st M h
  unfold kd_X0_makesEach_45 at h
  obtain ⟨x1, h1, h⟩ := Option.bind_eq_some_iff.mp h
  obtain ⟨x2, h2, h⟩ := Option.bind_eq_some_iff.mp h
  obtain ⟨x3, h3, h⟩ := Option.bind_eq_some_iff.mp h
  obtain ⟨x4, h4, h⟩ := Option.bind_eq_some_iff.mp h
  obtain ⟨x5, h5, h⟩ := Option.bind_eq_some_iff.mp h
  obtain ⟨x6, h6, h⟩ := Option.bind_eq_some_iff.mp h
  obtain ⟨x7, h7, h⟩ := Option.bind_eq_some_iff.mp h
  split at h
  · exact WX_weak (hg _ _ _ _ _ _ _ _ h) rfl ⟨lR_of h1, lR_of h2, lI_of h3, lI_of h4, lI_of h5, lI_of h6, lI_of h7, trivial⟩
  · cases h
def kd_X0_makesEach_92 (g : Nat → Nat → Int32 → Int32 → Int32 → Int32 → Int32 → Int32 → cM → Option (Int32 × cM)) : cKf (Int32 × cM) := fun vs st M => (lR vs 1).bind fun x1 => (lR vs 2).bind fun x2 => (lI vs 3).bind fun x3 => (lI vs 4).bind fun x4 => (lI vs 5).bind fun x5 => (lI vs 6).bind fun x6 => (lI vs 7).bind fun x7 => (lI vs 8).bind fun x8 => match st with
  | [] => g x1 x2 x3 x4 x5 x6 x7 x8 M
  | _ => none
theorem kf_X0_makesEach_92 {X : cCtx} {o : cO} {r : Int32 × cM} {g : Nat → Nat → Int32 → Int32 → Int32 → Int32 → Int32 → Int32 → cM → Option (Int32 × cM)} (hg : ∀ x1 x2 x3 x4 x5 x6 x7 x8 M, g x1 x2 x3 x4 x5 x6 x7 x8 M = some r → WX X 9 o 92 [none, some (.ref x1), some (.ref x2), some (.int x3), some (.int x4), some (.int x5), some (.int x6), some (.int x7), some (.int x8)] [] M) : ∀ vs st M, kd_X0_makesEach_92 g vs st M = some r → WX X 9 o 92 vs st M := by
  intro vs st M h
  unfold kd_X0_makesEach_92 at h
  obtain ⟨x1, h1, h⟩ := Option.bind_eq_some_iff.mp h
  obtain ⟨x2, h2, h⟩ := Option.bind_eq_some_iff.mp h
  obtain ⟨x3, h3, h⟩ := Option.bind_eq_some_iff.mp h
  obtain ⟨x4, h4, h⟩ := Option.bind_eq_some_iff.mp h
  obtain ⟨x5, h5, h⟩ := Option.bind_eq_some_iff.mp h
  obtain ⟨x6, h6, h⟩ := Option.bind_eq_some_iff.mp h
  obtain ⟨x7, h7, h⟩ := Option.bind_eq_some_iff.mp h
  obtain ⟨x8, h8, h⟩ := Option.bind_eq_some_iff.mp h
  split at h
  · exact WX_weak (hg _ _ _ _ _ _ _ _ _ h) rfl ⟨lR_of h1, lR_of h2, lI_of h3, lI_of h4, lI_of h5, lI_of h6, lI_of h7, lI_of h8, trivial⟩
  · cases h
theorem e_X0_makesEach_92 (F : Nat) (t45 : Nat → Nat → Int32 → Int32 → Int32 → Int32 → Int32 → cM → Option (Int32 × cM)) (x1 : Nat) (x2 : Nat) (x3 : Int32) (x4 : Int32) (x5 : Int32) (x6 : Int32) (x7 : Int32) (x8 : Int32) (M : cM) : b_X0_makesEach_92 F t45 x1 x2 x3 x4 x5 x6 x7 x8 M = run T_X0_makesEach P_RX0 false 1 (naL na_X0_makesEach) (caL (ca_X0_makesEach F)) (lkN th_X0_makesEach) (lkN sw_X0_makesEach) krI kxN (spL [45]) (KL [(45, kd_X0_makesEach_45 t45)]) 75 92 [none, some (.ref x1), some (.ref x2), some (.int x3), some (.int x4), some (.int x5), some (.int x6), some (.int x7), some (.int x8)] [] M := rfl
theorem ok_X0_makesEach_92 {X : cCtx} {D : Nat} {r : Int32 × cM} (G : FX X 9 (eI r) cX0_makesEach RX0 1 D) {F : Nat} (hca : ∀ x ∈ (ca_X0_makesEach (R' := Int32 × cM) F), 1 ≤ D ∧ ceS X.1 RX0 (D - 1) x.1 x.2) (k45 : Nat → Nat → Int32 → Int32 → Int32 → Int32 → Int32 → cM → Option (Int32 × cM)) (hk45 : ∀ x1 x2 x3 x4 x5 x6 x7 M, k45 x1 x2 x3 x4 x5 x6 x7 M = some r → WX X 9 (eI r) 45 [none, some (.ref x1), some (.ref x2), some (.int x3), some (.int x4), some (.int x5), some (.int x6), some (.int x7), none] [] M) : ∀ x1 x2 x3 x4 x5 x6 x7 x8 M, f_X0_makesEach_92 F k45 x1 x2 x3 x4 x5 x6 x7 x8 M = some r → WX X 9 (eI r) 92 [none, some (.ref x1), some (.ref x2), some (.int x3), some (.int x4), some (.int x5), some (.int x6), some (.int x7), some (.int x8)] [] M := by
  intro x1 x2 x3 x4 x5 x6 x7 x8 M h
  exact seg_ok G P_RX0_ok T_X0_makesEach_ok hca (fun _ h => absurd h List.not_mem_nil) sw_X0_makesEach_ok krI_ok (kxN_ok (f := eI)) (List.forall_mem_cons.mpr ⟨kf_X0_makesEach_45 (hk45), fun _ h => absurd h List.not_mem_nil⟩) ((e_X0_makesEach_92 F (k45) x1 x2 x3 x4 x5 x6 x7 x8 M).symm.trans h)
theorem e_X0_makesEach_45 (F : Nat) (t92 : Nat → Nat → Int32 → Int32 → Int32 → Int32 → Int32 → Int32 → cM → Option (Int32 × cM)) (x1 : Nat) (x2 : Nat) (x3 : Int32) (x4 : Int32) (x5 : Int32) (x6 : Int32) (x7 : Int32) (M : cM) : b_X0_makesEach_45 F t92 x1 x2 x3 x4 x5 x6 x7 M = run T_X0_makesEach P_RX0 false 1 (naL na_X0_makesEach) (caL (ca_X0_makesEach F)) (lkN th_X0_makesEach) (lkN sw_X0_makesEach) krI kxN (spL [92]) (KL [(92, kd_X0_makesEach_92 t92)]) 75 45 [none, some (.ref x1), some (.ref x2), some (.int x3), some (.int x4), some (.int x5), some (.int x6), some (.int x7), none] [] M := rfl
theorem ok_X0_makesEach_45 {X : cCtx} {D : Nat} {r : Int32 × cM} (G : FX X 9 (eI r) cX0_makesEach RX0 1 D) {F : Nat} (hca : ∀ x ∈ (ca_X0_makesEach (R' := Int32 × cM) F), 1 ≤ D ∧ ceS X.1 RX0 (D - 1) x.1 x.2) (n : Nat) : ∀ x1 x2 x3 x4 x5 x6 x7 M, f_X0_makesEach_45 F n x1 x2 x3 x4 x5 x6 x7 M = some r → WX X 9 (eI r) 45 [none, some (.ref x1), some (.ref x2), some (.int x3), some (.int x4), some (.int x5), some (.int x6), some (.int x7), none] [] M := by
  induction n with
  | zero => intro x1 x2 x3 x4 x5 x6 x7 M h; cases h
  | succ n ih =>
    intro x1 x2 x3 x4 x5 x6 x7 M h
    exact seg_ok G P_RX0_ok T_X0_makesEach_ok hca (fun _ h => absurd h List.not_mem_nil) sw_X0_makesEach_ok krI_ok (kxN_ok (f := eI)) (List.forall_mem_cons.mpr ⟨kf_X0_makesEach_92 (ok_X0_makesEach_92 G hca (f_X0_makesEach_45 F n) ih), fun _ h => absurd h List.not_mem_nil⟩) ((e_X0_makesEach_45 F (f_X0_makesEach_92 F (f_X0_makesEach_45 F n)) x1 x2 x3 x4 x5 x6 x7 M).symm.trans h)
theorem e_X0_makesEach_0 (F : Nat) (t45 : Nat → Nat → Int32 → Int32 → Int32 → Int32 → Int32 → cM → Option (Int32 × cM)) (x0 : Int32) (x1 : Nat) (x2 : Nat) (M : cM) : b_X0_makesEach_0 F t45 x0 x1 x2 M = run T_X0_makesEach P_RX0 false 1 (naL na_X0_makesEach) (caL (ca_X0_makesEach F)) (lkN th_X0_makesEach) (lkN sw_X0_makesEach) krI kxN (spL [45]) (KL [(45, kd_X0_makesEach_45 t45)]) 75 0 [some (.int x0), some (.ref x1), some (.ref x2), none, none, none, none, none, none] [] M := rfl
theorem ok_X0_makesEach_0 {X : cCtx} {D : Nat} {r : Int32 × cM} (G : FX X 9 (eI r) cX0_makesEach RX0 1 D) {F : Nat} (hca : ∀ x ∈ (ca_X0_makesEach (R' := Int32 × cM) F), 1 ≤ D ∧ ceS X.1 RX0 (D - 1) x.1 x.2) : ∀ x0 x1 x2 M, f_X0_makesEach_0 F x0 x1 x2 M = some r → WX X 9 (eI r) 0 [some (.int x0), some (.ref x1), some (.ref x2), none, none, none, none, none, none] [] M := by
  intro x0 x1 x2 M h
  exact seg_ok G P_RX0_ok T_X0_makesEach_ok hca (fun _ h => absurd h List.not_mem_nil) sw_X0_makesEach_ok krI_ok (kxN_ok (f := eI)) (List.forall_mem_cons.mpr ⟨kf_X0_makesEach_45 (ok_X0_makesEach_45 G hca F), fun _ h => absurd h List.not_mem_nil⟩) ((e_X0_makesEach_0 F (f_X0_makesEach_45 F F) x0 x1 x2 M).symm.trans h)
theorem c_X0_makesEach {q : cL} (hst : q.1.stackTraces = false) {D : Nat} (hD : 2 ≤ D) (F : Nat) (a0 : Int32) (a1 : Nat) (a2 : Nat) (M : cM) (r : Int32 × cM) (h : f_X0_makesEach F a0 a1 a2 M = some r) : CTx q yX0_makesEach (.code yX0_makesEach cX0_makesEach 9 (some .boolean)) D [.int a0, .ref a1, .ref a2] M (eI r) := by
  exact CTx_of (own := RX0) (rk := 1) hst (by decide +kernel) rfl (rfl) (Nat.le_of_ble_eq_true rfl) (fun X hX G => by subst hX; exact ok_X0_makesEach_0 G (ca_X0_makesEach_ok hst hD F) a0 a1 a2 M h)
def n_X0_makesEach {R' : Type} (f : Int32 → Nat → Nat → cM → Option (Int32 × cM)) : cFn R' := fun as M κ κx => match as with
  | [.int a0, .ref a1, .ref a2] => (f a0 a1 a2 M).bind fun p => κ (some (.int p.1)) p.2
  | _ => none
theorem w_X0_makesEach : ∀ w ∈ [Cond.static yX0_makesEach, .initialized yX0_makesEach.cls, .code yX0_makesEach cX0_makesEach 9 (some .boolean)], w ∈ lw_good := List.forall_mem_cons.mpr ⟨lw_good_of (tb_ok 624 (by decide +kernel)) rfl, List.forall_mem_cons.mpr ⟨lw_good_of (tb_ok 19 (by decide +kernel)) rfl, List.forall_mem_cons.mpr ⟨lw_good_of (tb_ok 625 (by decide +kernel)) rfl, fun _ h => absurd h List.not_mem_nil⟩⟩⟩
theorem n_X0_makesEach_ok {R' : Type} {q : cL} {own : String} {d k : Nat} {f : Int32 → Nat → Nat → cM → Option (Int32 × cM)} (hl : Cond.methodLink own k yX0_makesEach ∈ lw_good) (hf : ∀ a0 a1 a2 M r, f a0 a1 a2 M = some r → CTx q yX0_makesEach (.code yX0_makesEach cX0_makesEach 9 (some .boolean)) d [.int a0, .ref a1, .ref a2] M (eI r)) : ceS q own d (3 * k) (n_X0_makesEach (R' := R') f) := by
  intro as M κ κx r h
  unfold n_X0_makesEach at h
  split at h
  · obtain ⟨p, h1, h2⟩ := Option.bind_eq_some_iff.mp h
    exact ⟨eI p, fun _ => h2, fun hne => absurd rfl hne, Or.inl ⟨yX0_makesEach, cX0_makesEach, 9, (some .boolean), k, 3, rfl, hf _ _ _ _ _ h1, List.forall_mem_cons.mpr ⟨hl, w_X0_makesEach⟩, ⟨by decide +kernel, by decide +kernel, by decide +kernel⟩, rfl, by decide⟩⟩
  · cases h
-- PatchbayScript$Text.set(LPatchbayScript$Text;)V
def T_X10_set : List cRow := [(0, .aload_n 0, 1, 0), (1, .aload_n 1, 2, 0), (2, .getfield 21, 5, 0), (5, .putfield 21, 8, 0), (8, .iconst 0, 9, 0), (9, .istore_n 2, 10, 0), (10, .iload_n 2, 11, 0), (11, .bipush 20, 13, 0), (13, .if_icmp .ge 21, 16, 34), (16, .aload_n 0, 17, 0), (17, .getfield 11, 20, 0), (20, .iload_n 2, 21, 0), (21, .aload_n 1, 22, 0), (22, .getfield 11, 25, 0), (25, .iload_n 2, 26, 0), (26, .caload, 27, 0), (27, .castore, 28, 0), (28, .iinc 2 1, 31, 0), (31, .goto (-21), 34, 10), (34, .iconst 0, 35, 0), (35, .istore_n 2, 36, 0), (36, .iload_n 2, 37, 0), (37, .iconst 4, 38, 0), (38, .if_icmp .ge 21, 41, 59), (41, .aload_n 0, 42, 0), (42, .getfield 17, 45, 0), (45, .iload_n 2, 46, 0), (46, .aload_n 1, 47, 0), (47, .getfield 17, 50, 0), (50, .iload_n 2, 51, 0), (51, .iaload, 52, 0), (52, .iastore, 53, 0), (53, .iinc 2 1, 56, 0), (56, .goto (-20), 59, 36), (59, .return_, 60, 0)]
theorem T_X10_set_ok : T_X10_set.all (rowB cX10_set) = true := by decide +kernel
def th_X10_set : List (Nat × Nat) := []
def sw_X10_set : List (Nat × (List (Int32 × Nat) × Nat)) := []
theorem sw_X10_set_ok : ∀ q ∈ sw_X10_set, swS cX10_set q := fun _ h => absurd h List.not_mem_nil
def na_X10_set : List (Nat × Nat) := []
def ca_X10_set {R' : Type} (F : Nat) : List (Nat × cFn R') := []
theorem ca_X10_set_ok {R' : Type} {q : cL} (hst : q.1.stackTraces = false) {D : Nat} (hD : 0 ≤ D) (F : Nat) : ∀ x ∈ (ca_X10_set (R' := R') F), 1 ≤ D ∧ ceS q RX10 (D - 1) x.1 x.2 := fun _ h => absurd h List.not_mem_nil
def kd_X10_set_10 (g : Nat → Nat → Int32 → cM → Option (cM)) : cKf (cM) := fun vs st M => (lR vs 0).bind fun x0 => (lR vs 1).bind fun x1 => (lI vs 2).bind fun x2 => match st with
  | [] => g x0 x1 x2 M
  | _ => none
theorem kf_X10_set_10 {X : cCtx} {o : cO} {r : cM} {g : Nat → Nat → Int32 → cM → Option (cM)} (hg : ∀ x0 x1 x2 M, g x0 x1 x2 M = some r → WX X 3 o 10 [some (.ref x0), some (.ref x1), some (.int x2)] [] M) : ∀ vs st M, kd_X10_set_10 g vs st M = some r → WX X 3 o 10 vs st M := by
  intro vs st M h
  unfold kd_X10_set_10 at h
  obtain ⟨x0, h0, h⟩ := Option.bind_eq_some_iff.mp h
  obtain ⟨x1, h1, h⟩ := Option.bind_eq_some_iff.mp h
  obtain ⟨x2, h2, h⟩ := Option.bind_eq_some_iff.mp h
  split at h
  · exact WX_weak (hg _ _ _ _ h) rfl ⟨lR_of h0, lR_of h1, lI_of h2, trivial⟩
  · cases h
def kd_X10_set_36 (g : Nat → Nat → Int32 → cM → Option (cM)) : cKf (cM) := fun vs st M => (lR vs 0).bind fun x0 => (lR vs 1).bind fun x1 => (lI vs 2).bind fun x2 => match st with
  | [] => g x0 x1 x2 M
  | _ => none
theorem kf_X10_set_36 {X : cCtx} {o : cO} {r : cM} {g : Nat → Nat → Int32 → cM → Option (cM)} (hg : ∀ x0 x1 x2 M, g x0 x1 x2 M = some r → WX X 3 o 36 [some (.ref x0), some (.ref x1), some (.int x2)] [] M) : ∀ vs st M, kd_X10_set_36 g vs st M = some r → WX X 3 o 36 vs st M := by
  intro vs st M h
  unfold kd_X10_set_36 at h
  obtain ⟨x0, h0, h⟩ := Option.bind_eq_some_iff.mp h
  obtain ⟨x1, h1, h⟩ := Option.bind_eq_some_iff.mp h
  obtain ⟨x2, h2, h⟩ := Option.bind_eq_some_iff.mp h
  split at h
  · exact WX_weak (hg _ _ _ _ h) rfl ⟨lR_of h0, lR_of h1, lI_of h2, trivial⟩
  · cases h
theorem e_X10_set_36 (F : Nat) (t36 : Nat → Nat → Int32 → cM → Option (cM)) (x0 : Nat) (x1 : Nat) (x2 : Int32) (M : cM) : b_X10_set_36 F t36 x0 x1 x2 M = run T_X10_set P_RX10 false 5 (naL na_X10_set) (caL (ca_X10_set F)) (lkN th_X10_set) (lkN sw_X10_set) krV kxN (spL [36]) (KL [(36, kd_X10_set_36 t36)]) 38 36 [some (.ref x0), some (.ref x1), some (.int x2)] [] M := rfl
theorem ok_X10_set_36 {X : cCtx} {D : Nat} {r : cM} (G : FX X 3 (eV r) cX10_set RX10 5 D) {F : Nat} (hca : ∀ x ∈ (ca_X10_set (R' := cM) F), 1 ≤ D ∧ ceS X.1 RX10 (D - 1) x.1 x.2) (n : Nat) : ∀ x0 x1 x2 M, f_X10_set_36 F n x0 x1 x2 M = some r → WX X 3 (eV r) 36 [some (.ref x0), some (.ref x1), some (.int x2)] [] M := by
  induction n with
  | zero => intro x0 x1 x2 M h; cases h
  | succ n ih =>
    intro x0 x1 x2 M h
    exact seg_ok G P_RX10_ok T_X10_set_ok hca (fun _ h => absurd h List.not_mem_nil) sw_X10_set_ok krV_ok (kxN_ok (f := eV)) (List.forall_mem_cons.mpr ⟨kf_X10_set_36 (ih), fun _ h => absurd h List.not_mem_nil⟩) ((e_X10_set_36 F (f_X10_set_36 F n) x0 x1 x2 M).symm.trans h)
theorem e_X10_set_10 (F : Nat) (t10 : Nat → Nat → Int32 → cM → Option (cM)) (t36 : Nat → Nat → Int32 → cM → Option (cM)) (x0 : Nat) (x1 : Nat) (x2 : Int32) (M : cM) : b_X10_set_10 F t10 t36 x0 x1 x2 M = run T_X10_set P_RX10 false 5 (naL na_X10_set) (caL (ca_X10_set F)) (lkN th_X10_set) (lkN sw_X10_set) krV kxN (spL [10, 36]) (KL [(10, kd_X10_set_10 t10), (36, kd_X10_set_36 t36)]) 38 10 [some (.ref x0), some (.ref x1), some (.int x2)] [] M := rfl
theorem ok_X10_set_10 {X : cCtx} {D : Nat} {r : cM} (G : FX X 3 (eV r) cX10_set RX10 5 D) {F : Nat} (hca : ∀ x ∈ (ca_X10_set (R' := cM) F), 1 ≤ D ∧ ceS X.1 RX10 (D - 1) x.1 x.2) (n : Nat) : ∀ x0 x1 x2 M, f_X10_set_10 F n x0 x1 x2 M = some r → WX X 3 (eV r) 10 [some (.ref x0), some (.ref x1), some (.int x2)] [] M := by
  induction n with
  | zero => intro x0 x1 x2 M h; cases h
  | succ n ih =>
    intro x0 x1 x2 M h
    exact seg_ok G P_RX10_ok T_X10_set_ok hca (fun _ h => absurd h List.not_mem_nil) sw_X10_set_ok krV_ok (kxN_ok (f := eV)) (List.forall_mem_cons.mpr ⟨kf_X10_set_10 (ih), List.forall_mem_cons.mpr ⟨kf_X10_set_36 (ok_X10_set_36 G hca F), fun _ h => absurd h List.not_mem_nil⟩⟩) ((e_X10_set_10 F (f_X10_set_10 F n) (f_X10_set_36 F F) x0 x1 x2 M).symm.trans h)
theorem e_X10_set_0 (F : Nat) (t10 : Nat → Nat → Int32 → cM → Option (cM)) (x0 : Nat) (x1 : Nat) (M : cM) : b_X10_set_0 F t10 x0 x1 M = run T_X10_set P_RX10 false 5 (naL na_X10_set) (caL (ca_X10_set F)) (lkN th_X10_set) (lkN sw_X10_set) krV kxN (spL [10]) (KL [(10, kd_X10_set_10 t10)]) 38 0 [some (.ref x0), some (.ref x1), none] [] M := rfl
theorem ok_X10_set_0 {X : cCtx} {D : Nat} {r : cM} (G : FX X 3 (eV r) cX10_set RX10 5 D) {F : Nat} (hca : ∀ x ∈ (ca_X10_set (R' := cM) F), 1 ≤ D ∧ ceS X.1 RX10 (D - 1) x.1 x.2) : ∀ x0 x1 M, f_X10_set_0 F x0 x1 M = some r → WX X 3 (eV r) 0 [some (.ref x0), some (.ref x1), none] [] M := by
  intro x0 x1 M h
  exact seg_ok G P_RX10_ok T_X10_set_ok hca (fun _ h => absurd h List.not_mem_nil) sw_X10_set_ok krV_ok (kxN_ok (f := eV)) (List.forall_mem_cons.mpr ⟨kf_X10_set_10 (ok_X10_set_10 G hca F), fun _ h => absurd h List.not_mem_nil⟩) ((e_X10_set_0 F (f_X10_set_10 F F) x0 x1 M).symm.trans h)
theorem c_X10_set {q : cL} (hst : q.1.stackTraces = false) {D : Nat} (hD : 0 ≤ D) (F : Nat) (a0 : Nat) (a1 : Nat) (M : cM) (r : cM) (h : f_X10_set F a0 a1 M = some r) : CTx q yX10_set (.code yX10_set cX10_set 3 none) D [.ref a0, .ref a1] M (eV r) ∧ ∃ fs, M[a0]? = some (.inr (8, fs)) := by
  unfold f_X10_set at h
  split at h
  · next hi => exact ⟨CTx_of (own := RX10) (rk := 5) hst (by decide +kernel) rfl (rfl) (Nat.le_of_ble_eq_true rfl) (fun X hX G => by subst hX; exact ok_X10_set_0 G (ca_X10_set_ok hst hD F) a0 a1 M h), isC_of hi⟩
  · cases h
def n_X10_set {R' : Type} (f : Nat → Nat → cM → Option (cM)) : cFn R' := fun as M κ κx => match as with
  | [.ref a0, .ref a1] => (f a0 a1 M).bind fun p => κ none p
  | _ => none
theorem w_X10_set : ∀ w ∈ [Cond.instanceMethod yX10_set, .selects yX10_set.cls yX10_set yX10_set, .initialized yX10_set.cls, .code yX10_set cX10_set 3 none], w ∈ lw_good := List.forall_mem_cons.mpr ⟨lw_good_of (tb_ok 531 (by decide +kernel)) rfl, List.forall_mem_cons.mpr ⟨lw_good_of (tb_ok 532 (by decide +kernel)) rfl, List.forall_mem_cons.mpr ⟨lw_good_of (tb_ok 2 (by decide +kernel)) rfl, List.forall_mem_cons.mpr ⟨lw_good_of (tb_ok 533 (by decide +kernel)) rfl, fun _ h => absurd h List.not_mem_nil⟩⟩⟩⟩
theorem n_X10_set_ok {R' : Type} {q : cL} {own : String} {d k : Nat} {f : Nat → Nat → cM → Option (cM)} (hl : Cond.methodLink own k yX10_set ∈ lw_good) (hf : ∀ a0 a1 M r, f a0 a1 M = some r → CTx q yX10_set (.code yX10_set cX10_set 3 none) d [.ref a0, .ref a1] M (eV r) ∧ ∃ fs, M[a0]? = some (.inr (8, fs))) : ceS q own d (3 * k + 1) (n_X10_set (R' := R') f) := by
  intro as M κ κx r h
  unfold n_X10_set at h
  split at h
  · obtain ⟨p, h1, h2⟩ := Option.bind_eq_some_iff.mp h
    obtain ⟨hc, fs, ha⟩ := hf _ _ _ _ h1
    exact ⟨eV p, fun _ => h2, fun hne => absurd rfl hne, Or.inr (Or.inl ⟨yX10_set, cX10_set, 3, none, k, 1, _, _, 8, TX10, 3, fs, rfl, rfl, hc, ha, rfl, List.forall_mem_cons.mpr ⟨hl, w_X10_set⟩, ⟨rfl, by decide +kernel, by decide +kernel, by decide +kernel⟩, rfl, by decide⟩)⟩
  · cases h
-- PatchbayScript$Board.narrowed(ICI)I
def T_X1_narrowed : List cRow := [(0, .iload_n 3, 1, 0), (1, .ifCond .lt 25, 4, 26), (4, .iload_n 3, 5, 0), (5, .bipush 20, 7, 0), (7, .if_icmp .ge 19, 10, 26), (10, .iload_n 1, 11, 0), (11, .aload_n 0, 12, 0), (12, .getfield 25, 15, 0), (15, .iload_n 2, 16, 0), (16, .bipush 127, 18, 0), (18, .iand, 19, 0), (19, .iaload, 20, 0), (20, .iload_n 3, 21, 0), (21, .ishr, 22, 0), (22, .iand, 23, 0), (23, .goto 4, 26, 27), (26, .iconst 0, 27, 0), (27, .ireturn, 28, 0)]
theorem T_X1_narrowed_ok : T_X1_narrowed.all (rowB cX1_narrowed) = true := by decide +kernel
def th_X1_narrowed : List (Nat × Nat) := []
def sw_X1_narrowed : List (Nat × (List (Int32 × Nat) × Nat)) := []
theorem sw_X1_narrowed_ok : ∀ q ∈ sw_X1_narrowed, swS cX1_narrowed q := fun _ h => absurd h List.not_mem_nil
def na_X1_narrowed : List (Nat × Nat) := []
def ca_X1_narrowed {R' : Type} (F : Nat) : List (Nat × cFn R') := []
theorem ca_X1_narrowed_ok {R' : Type} {q : cL} (hst : q.1.stackTraces = false) {D : Nat} (hD : 0 ≤ D) (F : Nat) : ∀ x ∈ (ca_X1_narrowed (R' := R') F), 1 ≤ D ∧ ceS q RX1 (D - 1) x.1 x.2 := fun _ h => absurd h List.not_mem_nil
theorem e_X1_narrowed_0 (F : Nat) (x0 : Nat) (x1 : Int32) (x2 : Int32) (x3 : Int32) (M : cM) : b_X1_narrowed_0 F x0 x1 x2 x3 M = run T_X1_narrowed P_RX1 false 0 (naL na_X1_narrowed) (caL (ca_X1_narrowed F)) (lkN th_X1_narrowed) (lkN sw_X1_narrowed) krI kxN (spL []) (KL []) 21 0 [some (.ref x0), some (.int x1), some (.int x2), some (.int x3)] [] M := rfl
theorem ok_X1_narrowed_0 {X : cCtx} {D : Nat} {r : Int32 × cM} (G : FX X 4 (eI r) cX1_narrowed RX1 0 D) {F : Nat} (hca : ∀ x ∈ (ca_X1_narrowed (R' := Int32 × cM) F), 1 ≤ D ∧ ceS X.1 RX1 (D - 1) x.1 x.2) : ∀ x0 x1 x2 x3 M, f_X1_narrowed_0 F x0 x1 x2 x3 M = some r → WX X 4 (eI r) 0 [some (.ref x0), some (.int x1), some (.int x2), some (.int x3)] [] M := by
  intro x0 x1 x2 x3 M h
  exact seg_ok G P_RX1_ok T_X1_narrowed_ok hca (fun _ h => absurd h List.not_mem_nil) sw_X1_narrowed_ok krI_ok (kxN_ok (f := eI)) (fun _ h => absurd h List.not_mem_nil) ((e_X1_narrowed_0 F x0 x1 x2 x3 M).symm.trans h)
theorem c_X1_narrowed {q : cL} (hst : q.1.stackTraces = false) {D : Nat} (hD : 0 ≤ D) (F : Nat) (a0 : Nat) (a1 : Int32) (a2 : Int32) (a3 : Int32) (M : cM) (r : Int32 × cM) (h : f_X1_narrowed F a0 a1 a2 a3 M = some r) : CTx q yX1_narrowed (.code yX1_narrowed cX1_narrowed 4 (some .int)) D [.ref a0, .int a1, .int a2, .int a3] M (eI r) ∧ ∃ fs, M[a0]? = some (.inr (0, fs)) := by
  unfold f_X1_narrowed at h
  split at h
  · next hi => exact ⟨CTx_of (own := RX1) (rk := 0) hst (by decide +kernel) rfl (rfl) (Nat.le_of_ble_eq_true rfl) (fun X hX G => by subst hX; exact ok_X1_narrowed_0 G (ca_X1_narrowed_ok hst hD F) a0 a1 a2 a3 M h), isC_of hi⟩
  · cases h
def n_X1_narrowed {R' : Type} (f : Nat → Int32 → Int32 → Int32 → cM → Option (Int32 × cM)) : cFn R' := fun as M κ κx => match as with
  | [.ref a0, .int a1, .int a2, .int a3] => (f a0 a1 a2 a3 M).bind fun p => κ (some (.int p.1)) p.2
  | _ => none
theorem w_X1_narrowed : ∀ w ∈ [Cond.instanceMethod yX1_narrowed, .selects yX1_narrowed.cls yX1_narrowed yX1_narrowed, .initialized yX1_narrowed.cls, .code yX1_narrowed cX1_narrowed 4 (some .int)], w ∈ lw_good := List.forall_mem_cons.mpr ⟨lw_good_of (tb_ok 788 (by decide +kernel)) rfl, List.forall_mem_cons.mpr ⟨lw_good_of (ts_ok 7 (by decide +kernel)) rfl, List.forall_mem_cons.mpr ⟨lw_good_of (tb_ok 10 (by decide +kernel)) rfl, List.forall_mem_cons.mpr ⟨lw_good_of (tb_ok 789 (by decide +kernel)) rfl, fun _ h => absurd h List.not_mem_nil⟩⟩⟩⟩
theorem n_X1_narrowed_ok {R' : Type} {q : cL} {own : String} {d k : Nat} {f : Nat → Int32 → Int32 → Int32 → cM → Option (Int32 × cM)} (hl : Cond.methodLink own k yX1_narrowed ∈ lw_good) (hf : ∀ a0 a1 a2 a3 M r, f a0 a1 a2 a3 M = some r → CTx q yX1_narrowed (.code yX1_narrowed cX1_narrowed 4 (some .int)) d [.ref a0, .int a1, .int a2, .int a3] M (eI r) ∧ ∃ fs, M[a0]? = some (.inr (0, fs))) : ceS q own d (3 * k + 1) (n_X1_narrowed (R' := R') f) := by
  intro as M κ κx r h
  unfold n_X1_narrowed at h
  split at h
  · obtain ⟨p, h1, h2⟩ := Option.bind_eq_some_iff.mp h
    obtain ⟨hc, fs, ha⟩ := hf _ _ _ _ _ _ h1
    exact ⟨eI p, fun _ => h2, fun hne => absurd rfl hne, Or.inr (Or.inl ⟨yX1_narrowed, cX1_narrowed, 4, (some .int), k, 3, _, _, 0, TX1, 8, fs, rfl, rfl, hc, ha, rfl, List.forall_mem_cons.mpr ⟨hl, w_X1_narrowed⟩, ⟨rfl, by decide +kernel, by decide +kernel, by decide +kernel⟩, rfl, by decide⟩)⟩
  · cases h
-- PatchbayScript$Board.lookAtCuts(I)V
def T_X1_lookAtCuts : List cRow := [(0, .iconst 0, 1, 0), (1, .istore_n 2, 2, 0), (2, .iload_n 2, 3, 0), (3, .aload_n 0, 4, 0), (4, .getfield 10, 7, 0), (7, .getfield 50, 10, 0), (10, .if_icmp .ge 96, 13, 106), (13, .iconst (-1), 14, 0), (14, .istore_n 3, 15, 0), (15, .iload_n 2, 16, 0), (16, .iconst 1, 17, 0), (17, .iadd, 18, 0), (18, .istore 4, 20, 0), (20, .iload 4, 22, 0), (22, .aload_n 0, 23, 0), (23, .getfield 10, 26, 0), (26, .getfield 50, 29, 0), (29, .if_icmp .gt 71, 32, 100), (32, .aload_n 0, 33, 0), (33, .getfield 10, 36, 0), (36, .iload 4, 38, 0), (38, .iconst 1, 39, 0), (39, .isub, 40, 0), (40, .invokevirtual 54, 43, 0), (43, .iload_n 1, 44, 0), (44, .iload 4, 46, 0), (46, .iconst 1, 47, 0), (47, .isub, 48, 0), (48, .iload_n 2, 49, 0), (49, .if_icmp .ne 7, 52, 56), (52, .iconst 1, 53, 0), (53, .goto 4, 56, 57), (56, .iconst 0, 57, 0), (57, .invokestatic 65, 60, 0), (60, .istore 5, 62, 0), (62, .aload_n 0, 63, 0), (63, .iload_n 3, 64, 0), (64, .iload 5, 66, 0), (66, .iload 4, 68, 0), (68, .iconst 1, 69, 0), (69, .isub, 70, 0), (70, .iload_n 2, 71, 0), (71, .isub, 72, 0), (72, .invokevirtual 69, 75, 0), (75, .istore_n 3, 76, 0), (76, .aload_n 0, 77, 0), (77, .getfield 30, 80, 0), (80, .iload_n 1, 81, 0), (81, .bipush 21, 83, 0), (83, .imul, 84, 0), (84, .iload_n 2, 85, 0), (85, .iadd, 86, 0), (86, .bipush 21, 88, 0), (88, .imul, 89, 0), (89, .iload 4, 91, 0), (91, .iadd, 92, 0), (92, .iload_n 3, 93, 0), (93, .iastore, 94, 0), (94, .iinc 4 1, 97, 0), (97, .goto (-77), 100, 20), (100, .iinc 2 1, 103, 0), (103, .goto (-101), 106, 2), (106, .return_, 107, 0)]
theorem T_X1_lookAtCuts_ok : T_X1_lookAtCuts.all (rowB cX1_lookAtCuts) = true := by decide +kernel
def th_X1_lookAtCuts : List (Nat × Nat) := []
def sw_X1_lookAtCuts : List (Nat × (List (Int32 × Nat) × Nat)) := []
theorem sw_X1_lookAtCuts_ok : ∀ q ∈ sw_X1_lookAtCuts, swS cX1_lookAtCuts q := fun _ h => absurd h List.not_mem_nil
def na_X1_lookAtCuts : List (Nat × Nat) := [(163, 2), (195, 3), (208, 4)]
def ca_X1_lookAtCuts {R' : Type} (F : Nat) : List (Nat × cFn R') := [(163, n_X10_at (f_X10_at F)), (195, n_X7_turned (f_X7_turned F)), (208, n_X1_narrowed (f_X1_narrowed F))]
theorem ca_X1_lookAtCuts_ok {R' : Type} {q : cL} (hst : q.1.stackTraces = false) {D : Nat} (hD : 1 ≤ D) (F : Nat) : ∀ x ∈ (ca_X1_lookAtCuts (R' := R') F), 1 ≤ D ∧ ceS q RX1 (D - 1) x.1 x.2 := List.forall_mem_cons.mpr ⟨⟨by omega, n_X10_at_ok (k := 54) (lw_good_of (tb_ok 780 (by decide +kernel)) rfl) (fun a0 a1 M r h => c_X10_at hst (by omega) F a0 a1 M r h)⟩, List.forall_mem_cons.mpr ⟨⟨by omega, n_X7_turned_ok (k := 65) (lw_good_of (tb_ok 785 (by decide +kernel)) rfl) (fun a0 a1 a2 M r h => c_X7_turned hst (by omega) F a0 a1 a2 M r h)⟩, List.forall_mem_cons.mpr ⟨⟨by omega, n_X1_narrowed_ok (k := 69) (lw_good_of (tb_ok 786 (by decide +kernel)) rfl) (fun a0 a1 a2 a3 M r h => c_X1_narrowed hst (by omega) F a0 a1 a2 a3 M r h)⟩, fun _ h => absurd h List.not_mem_nil⟩⟩⟩
def kd_X1_lookAtCuts_2 (g : Nat → Int32 → Int32 → cM → Option (cM)) : cKf (cM) := fun vs st M => (lR vs 0).bind fun x0 => (lI vs 1).bind fun x1 => (lI vs 2).bind fun x2 => match st with
  | [] => g x0 x1 x2 M
  | _ => none
theorem kf_X1_lookAtCuts_2 {X : cCtx} {o : cO} {r : cM} {g : Nat → Int32 → Int32 → cM → Option (cM)} (hg : ∀ x0 x1 x2 M, g x0 x1 x2 M = some r → WX X 6 o 2 [some (.ref x0), some (.int x1), some (.int x2), none, none, none] [] M) : ∀ vs st M, kd_X1_lookAtCuts_2 g vs st M = some r → WX X 6 o 2 vs st M := by
  intro vs st M h
  unfold kd_X1_lookAtCuts_2 at h
  obtain ⟨x0, h0, h⟩ := Option.bind_eq_some_iff.mp h
  obtain ⟨x1, h1, h⟩ := Option.bind_eq_some_iff.mp h
  obtain ⟨x2, h2, h⟩ := Option.bind_eq_some_iff.mp h
  split at h
  · exact WX_weak (hg _ _ _ _ h) rfl ⟨lR_of h0, lI_of h1, lI_of h2, trivial⟩
  · cases h
def kd_X1_lookAtCuts_20 (g : Nat → Int32 → Int32 → Int32 → Int32 → cM → Option (cM)) : cKf (cM) := fun vs st M => (lR vs 0).bind fun x0 => (lI vs 1).bind fun x1 => (lI vs 2).bind fun x2 => (lI vs 3).bind fun x3 => (lI vs 4).bind fun x4 => match st with
  | [] => g x0 x1 x2 x3 x4 M
  | _ => none
theorem kf_X1_lookAtCuts_20 {X : cCtx} {o : cO} {r : cM} {g : Nat → Int32 → Int32 → Int32 → Int32 → cM → Option (cM)} (hg : ∀ x0 x1 x2 x3 x4 M, g x0 x1 x2 x3 x4 M = some r → WX X 6 o 20 [some (.ref x0), some (.int x1), some (.int x2), some (.int x3), some (.int x4), none] [] M) : ∀ vs st M, kd_X1_lookAtCuts_20 g vs st M = some r → WX X 6 o 20 vs st M := by
  intro vs st M h
  unfold kd_X1_lookAtCuts_20 at h
  obtain ⟨x0, h0, h⟩ := Option.bind_eq_some_iff.mp h
  obtain ⟨x1, h1, h⟩ := Option.bind_eq_some_iff.mp h
  obtain ⟨x2, h2, h⟩ := Option.bind_eq_some_iff.mp h
  obtain ⟨x3, h3, h⟩ := Option.bind_eq_some_iff.mp h
  obtain ⟨x4, h4, h⟩ := Option.bind_eq_some_iff.mp h
  split at h
  · exact WX_weak (hg _ _ _ _ _ _ h) rfl ⟨lR_of h0, lI_of h1, lI_of h2, lI_of h3, lI_of h4, trivial⟩
  · cases h
def kd_X1_lookAtCuts_57 (g : Nat → Int32 → Int32 → Int32 → Int32 → Int32 → Int32 → Int32 → cM → Option (cM)) : cKf (cM) := fun vs st M => (lR vs 0).bind fun x0 => (lI vs 1).bind fun x1 => (lI vs 2).bind fun x2 => (lI vs 3).bind fun x3 => (lI vs 4).bind fun x4 => match st with
  | [.int s2, .int s1, .int s0] => g x0 x1 x2 x3 x4 s0 s1 s2 M
  | _ => none
theorem kf_X1_lookAtCuts_57 {X : cCtx} {o : cO} {r : cM} {g : Nat → Int32 → Int32 → Int32 → Int32 → Int32 → Int32 → Int32 → cM → Option (cM)} (hg : ∀ x0 x1 x2 x3 x4 s0 s1 s2 M, g x0 x1 x2 x3 x4 s0 s1 s2 M = some r → WX X 6 o 57 [some (.ref x0), some (.int x1), some (.int x2), some (.int x3), some (.int x4), none] [.int s2, .int s1, .int s0] M) : ∀ vs st M, kd_X1_lookAtCuts_57 g vs st M = some r → WX X 6 o 57 vs st M := by
  intro vs st M h
  unfold kd_X1_lookAtCuts_57 at h
  obtain ⟨x0, h0, h⟩ := Option.bind_eq_some_iff.mp h
  obtain ⟨x1, h1, h⟩ := Option.bind_eq_some_iff.mp h
  obtain ⟨x2, h2, h⟩ := Option.bind_eq_some_iff.mp h
  obtain ⟨x3, h3, h⟩ := Option.bind_eq_some_iff.mp h
  obtain ⟨x4, h4, h⟩ := Option.bind_eq_some_iff.mp h
  split at h
  · exact WX_weak (hg _ _ _ _ _ _ _ _ _ h) rfl ⟨lR_of h0, lI_of h1, lI_of h2, lI_of h3, lI_of h4, trivial⟩
  · cases h
theorem e_X1_lookAtCuts_57 (F : Nat) (t20 : Nat → Int32 → Int32 → Int32 → Int32 → cM → Option (cM)) (x0 : Nat) (x1 : Int32) (x2 : Int32) (x3 : Int32) (x4 : Int32) (s0 : Int32) (s1 : Int32) (s2 : Int32) (M : cM) : b_X1_lookAtCuts_57 F t20 x0 x1 x2 x3 x4 s0 s1 s2 M = run T_X1_lookAtCuts P_RX1 false 5 (naL na_X1_lookAtCuts) (caL (ca_X1_lookAtCuts F)) (lkN th_X1_lookAtCuts) (lkN sw_X1_lookAtCuts) krV kxN (spL [20]) (KL [(20, kd_X1_lookAtCuts_20 t20)]) 66 57 [some (.ref x0), some (.int x1), some (.int x2), some (.int x3), some (.int x4), none] [.int s2, .int s1, .int s0] M := rfl
theorem ok_X1_lookAtCuts_57 {X : cCtx} {D : Nat} {r : cM} (G : FX X 6 (eV r) cX1_lookAtCuts RX1 5 D) {F : Nat} (hca : ∀ x ∈ (ca_X1_lookAtCuts (R' := cM) F), 1 ≤ D ∧ ceS X.1 RX1 (D - 1) x.1 x.2) (k2 : Nat → Int32 → Int32 → cM → Option (cM)) (k20 : Nat → Int32 → Int32 → Int32 → Int32 → cM → Option (cM)) (hk2 : ∀ x0 x1 x2 M, k2 x0 x1 x2 M = some r → WX X 6 (eV r) 2 [some (.ref x0), some (.int x1), some (.int x2), none, none, none] [] M) (hk20 : ∀ x0 x1 x2 x3 x4 M, k20 x0 x1 x2 x3 x4 M = some r → WX X 6 (eV r) 20 [some (.ref x0), some (.int x1), some (.int x2), some (.int x3), some (.int x4), none] [] M) : ∀ x0 x1 x2 x3 x4 s0 s1 s2 M, f_X1_lookAtCuts_57 F k2 k20 x0 x1 x2 x3 x4 s0 s1 s2 M = some r → WX X 6 (eV r) 57 [some (.ref x0), some (.int x1), some (.int x2), some (.int x3), some (.int x4), none] [.int s2, .int s1, .int s0] M := by
  intro x0 x1 x2 x3 x4 s0 s1 s2 M h
  exact seg_ok G P_RX1_ok T_X1_lookAtCuts_ok hca (fun _ h => absurd h List.not_mem_nil) sw_X1_lookAtCuts_ok krV_ok (kxN_ok (f := eV)) (List.forall_mem_cons.mpr ⟨kf_X1_lookAtCuts_20 (hk20), fun _ h => absurd h List.not_mem_nil⟩) ((e_X1_lookAtCuts_57 F (k20) x0 x1 x2 x3 x4 s0 s1 s2 M).symm.trans h)
theorem e_X1_lookAtCuts_20 (F : Nat) (t2 : Nat → Int32 → Int32 → cM → Option (cM)) (t57 : Nat → Int32 → Int32 → Int32 → Int32 → Int32 → Int32 → Int32 → cM → Option (cM)) (x0 : Nat) (x1 : Int32) (x2 : Int32) (x3 : Int32) (x4 : Int32) (M : cM) : b_X1_lookAtCuts_20 F t2 t57 x0 x1 x2 x3 x4 M = run T_X1_lookAtCuts P_RX1 false 5 (naL na_X1_lookAtCuts) (caL (ca_X1_lookAtCuts F)) (lkN th_X1_lookAtCuts) (lkN sw_X1_lookAtCuts) krV kxN (spL [2, 57]) (KL [(2, kd_X1_lookAtCuts_2 t2), (57, kd_X1_lookAtCuts_57 t57)]) 66 20 [some (.ref x0), some (.int x1), some (.int x2), some (.int x3), some (.int x4), none] [] M := rfl
theorem ok_X1_lookAtCuts_20 {X : cCtx} {D : Nat} {r : cM} (G : FX X 6 (eV r) cX1_lookAtCuts RX1 5 D) {F : Nat} (hca : ∀ x ∈ (ca_X1_lookAtCuts (R' := cM) F), 1 ≤ D ∧ ceS X.1 RX1 (D - 1) x.1 x.2) (k2 : Nat → Int32 → Int32 → cM → Option (cM)) (hk2 : ∀ x0 x1 x2 M, k2 x0 x1 x2 M = some r → WX X 6 (eV r) 2 [some (.ref x0), some (.int x1), some (.int x2), none, none, none] [] M) (n : Nat) : ∀ x0 x1 x2 x3 x4 M, f_X1_lookAtCuts_20 F k2 n x0 x1 x2 x3 x4 M = some r → WX X 6 (eV r) 20 [some (.ref x0), some (.int x1), some (.int x2), some (.int x3), some (.int x4), none] [] M := by
  induction n with
  | zero => intro x0 x1 x2 x3 x4 M h; cases h
  | succ n ih =>
    intro x0 x1 x2 x3 x4 M h
    exact seg_ok G P_RX1_ok T_X1_lookAtCuts_ok hca (fun _ h => absurd h List.not_mem_nil) sw_X1_lookAtCuts_ok krV_ok (kxN_ok (f := eV)) (List.forall_mem_cons.mpr ⟨kf_X1_lookAtCuts_2 (hk2), List.forall_mem_cons.mpr ⟨kf_X1_lookAtCuts_57 (ok_X1_lookAtCuts_57 G hca k2 (f_X1_lookAtCuts_20 F k2 n) hk2 ih), fun _ h => absurd h List.not_mem_nil⟩⟩) ((e_X1_lookAtCuts_20 F (k2) (f_X1_lookAtCuts_57 F k2 (f_X1_lookAtCuts_20 F k2 n)) x0 x1 x2 x3 x4 M).symm.trans h)
theorem e_X1_lookAtCuts_2 (F : Nat) (t20 : Nat → Int32 → Int32 → Int32 → Int32 → cM → Option (cM)) (x0 : Nat) (x1 : Int32) (x2 : Int32) (M : cM) : b_X1_lookAtCuts_2 F t20 x0 x1 x2 M = run T_X1_lookAtCuts P_RX1 false 5 (naL na_X1_lookAtCuts) (caL (ca_X1_lookAtCuts F)) (lkN th_X1_lookAtCuts) (lkN sw_X1_lookAtCuts) krV kxN (spL [20]) (KL [(20, kd_X1_lookAtCuts_20 t20)]) 66 2 [some (.ref x0), some (.int x1), some (.int x2), none, none, none] [] M := rfl
theorem ok_X1_lookAtCuts_2 {X : cCtx} {D : Nat} {r : cM} (G : FX X 6 (eV r) cX1_lookAtCuts RX1 5 D) {F : Nat} (hca : ∀ x ∈ (ca_X1_lookAtCuts (R' := cM) F), 1 ≤ D ∧ ceS X.1 RX1 (D - 1) x.1 x.2) (n : Nat) : ∀ x0 x1 x2 M, f_X1_lookAtCuts_2 F n x0 x1 x2 M = some r → WX X 6 (eV r) 2 [some (.ref x0), some (.int x1), some (.int x2), none, none, none] [] M := by
  induction n with
  | zero => intro x0 x1 x2 M h; cases h
  | succ n ih =>
    intro x0 x1 x2 M h
    exact seg_ok G P_RX1_ok T_X1_lookAtCuts_ok hca (fun _ h => absurd h List.not_mem_nil) sw_X1_lookAtCuts_ok krV_ok (kxN_ok (f := eV)) (List.forall_mem_cons.mpr ⟨kf_X1_lookAtCuts_20 (ok_X1_lookAtCuts_20 G hca (f_X1_lookAtCuts_2 F n) ih F), fun _ h => absurd h List.not_mem_nil⟩) ((e_X1_lookAtCuts_2 F (f_X1_lookAtCuts_20 F (f_X1_lookAtCuts_2 F n) F) x0 x1 x2 M).symm.trans h)
theorem e_X1_lookAtCuts_0 (F : Nat) (t2 : Nat → Int32 → Int32 → cM → Option (cM)) (x0 : Nat) (x1 : Int32) (M : cM) : b_X1_lookAtCuts_0 F t2 x0 x1 M = run T_X1_lookAtCuts P_RX1 false 5 (naL na_X1_lookAtCuts) (caL (ca_X1_lookAtCuts F)) (lkN th_X1_lookAtCuts) (lkN sw_X1_lookAtCuts) krV kxN (spL [2]) (KL [(2, kd_X1_lookAtCuts_2 t2)]) 66 0 [some (.ref x0), some (.int x1), none, none, none, none] [] M := rfl
theorem ok_X1_lookAtCuts_0 {X : cCtx} {D : Nat} {r : cM} (G : FX X 6 (eV r) cX1_lookAtCuts RX1 5 D) {F : Nat} (hca : ∀ x ∈ (ca_X1_lookAtCuts (R' := cM) F), 1 ≤ D ∧ ceS X.1 RX1 (D - 1) x.1 x.2) : ∀ x0 x1 M, f_X1_lookAtCuts_0 F x0 x1 M = some r → WX X 6 (eV r) 0 [some (.ref x0), some (.int x1), none, none, none, none] [] M := by
  intro x0 x1 M h
  exact seg_ok G P_RX1_ok T_X1_lookAtCuts_ok hca (fun _ h => absurd h List.not_mem_nil) sw_X1_lookAtCuts_ok krV_ok (kxN_ok (f := eV)) (List.forall_mem_cons.mpr ⟨kf_X1_lookAtCuts_2 (ok_X1_lookAtCuts_2 G hca F), fun _ h => absurd h List.not_mem_nil⟩) ((e_X1_lookAtCuts_0 F (f_X1_lookAtCuts_2 F F) x0 x1 M).symm.trans h)
theorem c_X1_lookAtCuts {q : cL} (hst : q.1.stackTraces = false) {D : Nat} (hD : 1 ≤ D) (F : Nat) (a0 : Nat) (a1 : Int32) (M : cM) (r : cM) (h : f_X1_lookAtCuts F a0 a1 M = some r) : CTx q yX1_lookAtCuts (.code yX1_lookAtCuts cX1_lookAtCuts 6 none) D [.ref a0, .int a1] M (eV r) ∧ ∃ fs, M[a0]? = some (.inr (0, fs)) := by
  unfold f_X1_lookAtCuts at h
  split at h
  · next hi => exact ⟨CTx_of (own := RX1) (rk := 5) hst (by decide +kernel) rfl (rfl) (Nat.le_of_ble_eq_true rfl) (fun X hX G => by subst hX; exact ok_X1_lookAtCuts_0 G (ca_X1_lookAtCuts_ok hst hD F) a0 a1 M h), isC_of hi⟩
  · cases h
def n_X1_lookAtCuts {R' : Type} (f : Nat → Int32 → cM → Option (cM)) : cFn R' := fun as M κ κx => match as with
  | [.ref a0, .int a1] => (f a0 a1 M).bind fun p => κ none p
  | _ => none
theorem w_X1_lookAtCuts : ∀ w ∈ [Cond.instanceMethod yX1_lookAtCuts, .selects yX1_lookAtCuts.cls yX1_lookAtCuts yX1_lookAtCuts, .initialized yX1_lookAtCuts.cls, .code yX1_lookAtCuts cX1_lookAtCuts 6 none], w ∈ lw_good := List.forall_mem_cons.mpr ⟨lw_good_of (tb_ok 783 (by decide +kernel)) rfl, List.forall_mem_cons.mpr ⟨lw_good_of (ts_ok 6 (by decide +kernel)) rfl, List.forall_mem_cons.mpr ⟨lw_good_of (tb_ok 10 (by decide +kernel)) rfl, List.forall_mem_cons.mpr ⟨lw_good_of (tb_ok 784 (by decide +kernel)) rfl, fun _ h => absurd h List.not_mem_nil⟩⟩⟩⟩
theorem n_X1_lookAtCuts_ok {R' : Type} {q : cL} {own : String} {d k : Nat} {f : Nat → Int32 → cM → Option (cM)} (hl : Cond.methodLink own k yX1_lookAtCuts ∈ lw_good) (hf : ∀ a0 a1 M r, f a0 a1 M = some r → CTx q yX1_lookAtCuts (.code yX1_lookAtCuts cX1_lookAtCuts 6 none) d [.ref a0, .int a1] M (eV r) ∧ ∃ fs, M[a0]? = some (.inr (0, fs))) : ceS q own d (3 * k + 1) (n_X1_lookAtCuts (R' := R') f) := by
  intro as M κ κx r h
  unfold n_X1_lookAtCuts at h
  split at h
  · obtain ⟨p, h1, h2⟩ := Option.bind_eq_some_iff.mp h
    obtain ⟨hc, fs, ha⟩ := hf _ _ _ _ h1
    exact ⟨eV p, fun _ => h2, fun hne => absurd rfl hne, Or.inr (Or.inl ⟨yX1_lookAtCuts, cX1_lookAtCuts, 6, none, k, 1, _, _, 0, TX1, 8, fs, rfl, rfl, hc, ha, rfl, List.forall_mem_cons.mpr ⟨hl, w_X1_lookAtCuts⟩, ⟨rfl, by decide +kernel, by decide +kernel, by decide +kernel⟩, rfl, by decide⟩)⟩
  · cases h
-- PatchbayScript$Text.clear()V
def T_X10_clear : List cRow := [(0, .aload_n 0, 1, 0), (1, .iconst 0, 2, 0), (2, .putfield 21, 5, 0), (5, .iconst 0, 6, 0), (6, .istore_n 1, 7, 0), (7, .iload_n 1, 8, 0), (8, .iconst 4, 9, 0), (9, .if_icmp .ge 16, 12, 25), (12, .aload_n 0, 13, 0), (13, .getfield 17, 16, 0), (16, .iload_n 1, 17, 0), (17, .iconst 0, 18, 0), (18, .iastore, 19, 0), (19, .iinc 1 1, 22, 0), (22, .goto (-15), 25, 7), (25, .return_, 26, 0)]
theorem T_X10_clear_ok : T_X10_clear.all (rowB cX10_clear) = true := by decide +kernel
def th_X10_clear : List (Nat × Nat) := []
def sw_X10_clear : List (Nat × (List (Int32 × Nat) × Nat)) := []
theorem sw_X10_clear_ok : ∀ q ∈ sw_X10_clear, swS cX10_clear q := fun _ h => absurd h List.not_mem_nil
def na_X10_clear : List (Nat × Nat) := []
def ca_X10_clear {R' : Type} (F : Nat) : List (Nat × cFn R') := []
theorem ca_X10_clear_ok {R' : Type} {q : cL} (hst : q.1.stackTraces = false) {D : Nat} (hD : 0 ≤ D) (F : Nat) : ∀ x ∈ (ca_X10_clear (R' := R') F), 1 ≤ D ∧ ceS q RX10 (D - 1) x.1 x.2 := fun _ h => absurd h List.not_mem_nil
def kd_X10_clear_7 (g : Nat → Int32 → cM → Option (cM)) : cKf (cM) := fun vs st M => (lR vs 0).bind fun x0 => (lI vs 1).bind fun x1 => match st with
  | [] => g x0 x1 M
  | _ => none
theorem kf_X10_clear_7 {X : cCtx} {o : cO} {r : cM} {g : Nat → Int32 → cM → Option (cM)} (hg : ∀ x0 x1 M, g x0 x1 M = some r → WX X 2 o 7 [some (.ref x0), some (.int x1)] [] M) : ∀ vs st M, kd_X10_clear_7 g vs st M = some r → WX X 2 o 7 vs st M := by
  intro vs st M h
  unfold kd_X10_clear_7 at h
  obtain ⟨x0, h0, h⟩ := Option.bind_eq_some_iff.mp h
  obtain ⟨x1, h1, h⟩ := Option.bind_eq_some_iff.mp h
  split at h
  · exact WX_weak (hg _ _ _ h) rfl ⟨lR_of h0, lI_of h1, trivial⟩
  · cases h
theorem e_X10_clear_7 (F : Nat) (t7 : Nat → Int32 → cM → Option (cM)) (x0 : Nat) (x1 : Int32) (M : cM) : b_X10_clear_7 F t7 x0 x1 M = run T_X10_clear P_RX10 false 5 (naL na_X10_clear) (caL (ca_X10_clear F)) (lkN th_X10_clear) (lkN sw_X10_clear) krV kxN (spL [7]) (KL [(7, kd_X10_clear_7 t7)]) 19 7 [some (.ref x0), some (.int x1)] [] M := rfl
theorem ok_X10_clear_7 {X : cCtx} {D : Nat} {r : cM} (G : FX X 2 (eV r) cX10_clear RX10 5 D) {F : Nat} (hca : ∀ x ∈ (ca_X10_clear (R' := cM) F), 1 ≤ D ∧ ceS X.1 RX10 (D - 1) x.1 x.2) (n : Nat) : ∀ x0 x1 M, f_X10_clear_7 F n x0 x1 M = some r → WX X 2 (eV r) 7 [some (.ref x0), some (.int x1)] [] M := by
  induction n with
  | zero => intro x0 x1 M h; cases h
  | succ n ih =>
    intro x0 x1 M h
    exact seg_ok G P_RX10_ok T_X10_clear_ok hca (fun _ h => absurd h List.not_mem_nil) sw_X10_clear_ok krV_ok (kxN_ok (f := eV)) (List.forall_mem_cons.mpr ⟨kf_X10_clear_7 (ih), fun _ h => absurd h List.not_mem_nil⟩) ((e_X10_clear_7 F (f_X10_clear_7 F n) x0 x1 M).symm.trans h)
theorem e_X10_clear_0 (F : Nat) (t7 : Nat → Int32 → cM → Option (cM)) (x0 : Nat) (M : cM) : b_X10_clear_0 F t7 x0 M = run T_X10_clear P_RX10 false 5 (naL na_X10_clear) (caL (ca_X10_clear F)) (lkN th_X10_clear) (lkN sw_X10_clear) krV kxN (spL [7]) (KL [(7, kd_X10_clear_7 t7)]) 19 0 [some (.ref x0), none] [] M := rfl
theorem ok_X10_clear_0 {X : cCtx} {D : Nat} {r : cM} (G : FX X 2 (eV r) cX10_clear RX10 5 D) {F : Nat} (hca : ∀ x ∈ (ca_X10_clear (R' := cM) F), 1 ≤ D ∧ ceS X.1 RX10 (D - 1) x.1 x.2) : ∀ x0 M, f_X10_clear_0 F x0 M = some r → WX X 2 (eV r) 0 [some (.ref x0), none] [] M := by
  intro x0 M h
  exact seg_ok G P_RX10_ok T_X10_clear_ok hca (fun _ h => absurd h List.not_mem_nil) sw_X10_clear_ok krV_ok (kxN_ok (f := eV)) (List.forall_mem_cons.mpr ⟨kf_X10_clear_7 (ok_X10_clear_7 G hca F), fun _ h => absurd h List.not_mem_nil⟩) ((e_X10_clear_0 F (f_X10_clear_7 F F) x0 M).symm.trans h)
theorem c_X10_clear {q : cL} (hst : q.1.stackTraces = false) {D : Nat} (hD : 0 ≤ D) (F : Nat) (a0 : Nat) (M : cM) (r : cM) (h : f_X10_clear F a0 M = some r) : CTx q yX10_clear (.code yX10_clear cX10_clear 2 none) D [.ref a0] M (eV r) ∧ ∃ fs, M[a0]? = some (.inr (8, fs)) := by
  unfold f_X10_clear at h
  split at h
  · next hi => exact ⟨CTx_of (own := RX10) (rk := 5) hst (by decide +kernel) rfl (rfl) (Nat.le_of_ble_eq_true rfl) (fun X hX G => by subst hX; exact ok_X10_clear_0 G (ca_X10_clear_ok hst hD F) a0 M h), isC_of hi⟩
  · cases h
def n_X10_clear {R' : Type} (f : Nat → cM → Option (cM)) : cFn R' := fun as M κ κx => match as with
  | [.ref a0] => (f a0 M).bind fun p => κ none p
  | _ => none
theorem w_X10_clear : ∀ w ∈ [Cond.instanceMethod yX10_clear, .selects yX10_clear.cls yX10_clear yX10_clear, .initialized yX10_clear.cls, .code yX10_clear cX10_clear 2 none], w ∈ lw_good := List.forall_mem_cons.mpr ⟨lw_good_of (tb_ok 535 (by decide +kernel)) rfl, List.forall_mem_cons.mpr ⟨lw_good_of (tb_ok 536 (by decide +kernel)) rfl, List.forall_mem_cons.mpr ⟨lw_good_of (tb_ok 2 (by decide +kernel)) rfl, List.forall_mem_cons.mpr ⟨lw_good_of (tb_ok 537 (by decide +kernel)) rfl, fun _ h => absurd h List.not_mem_nil⟩⟩⟩⟩
theorem n_X10_clear_ok {R' : Type} {q : cL} {own : String} {d k : Nat} {f : Nat → cM → Option (cM)} (hl : Cond.methodLink own k yX10_clear ∈ lw_good) (hf : ∀ a0 M r, f a0 M = some r → CTx q yX10_clear (.code yX10_clear cX10_clear 2 none) d [.ref a0] M (eV r) ∧ ∃ fs, M[a0]? = some (.inr (8, fs))) : ceS q own d (3 * k + 1) (n_X10_clear (R' := R') f) := by
  intro as M κ κx r h
  unfold n_X10_clear at h
  split at h
  · obtain ⟨p, h1, h2⟩ := Option.bind_eq_some_iff.mp h
    obtain ⟨hc, fs, ha⟩ := hf _ _ _ h1
    exact ⟨eV p, fun _ => h2, fun hne => absurd rfl hne, Or.inr (Or.inl ⟨yX10_clear, cX10_clear, 2, none, k, 0, _, _, 8, TX10, 3, fs, rfl, rfl, hc, ha, rfl, List.forall_mem_cons.mpr ⟨hl, w_X10_clear⟩, ⟨rfl, by decide +kernel, by decide +kernel, by decide +kernel⟩, rfl, by decide⟩)⟩
  · cases h
-- PatchbayScript$Board.lookAtEach(I)V
def T_X1_lookAtEach : List cRow := [(0, .aload_n 0, 1, 0), (1, .getfield 39, 4, 0), (4, .invokevirtual 73, 7, 0), (7, .sipush 3600, 10, 0), (10, .iload_n 1, 11, 0), (11, .iadd, 12, 0), (12, .aload_n 0, 13, 0), (13, .getfield 10, 16, 0), (16, .aload_n 0, 17, 0), (17, .getfield 39, 20, 0), (20, .invokestatic 76, 23, 0), (23, .ifCond .eq 7, 26, 30), (26, .iconst (-1), 27, 0), (27, .goto 4, 30, 31), (30, .iconst 0, 31, 0), (31, .istore_n 2, 32, 0), (32, .iconst 0, 33, 0), (33, .istore_n 3, 34, 0), (34, .iload_n 3, 35, 0), (35, .aload_n 0, 36, 0), (36, .getfield 39, 39, 0), (39, .getfield 50, 42, 0), (42, .if_icmp .ge 28, 45, 70), (45, .iload_n 2, 46, 0), (46, .ifCond .eq 24, 49, 70), (49, .aload_n 0, 50, 0), (50, .iload_n 2, 51, 0), (51, .aload_n 0, 52, 0), (52, .getfield 39, 55, 0), (55, .iload_n 3, 56, 0), (56, .invokevirtual 54, 59, 0), (59, .iload_n 3, 60, 0), (60, .invokevirtual 69, 63, 0), (63, .istore_n 2, 64, 0), (64, .iinc 3 1, 67, 0), (67, .goto (-33), 70, 34), (70, .aload_n 0, 71, 0), (71, .getfield 33, 74, 0), (74, .iload_n 1, 75, 0), (75, .iload_n 2, 76, 0), (76, .iastore, 77, 0), (77, .aload_n 0, 78, 0), (78, .getfield 36, 81, 0), (81, .iload_n 1, 82, 0), (82, .aload_n 0, 83, 0), (83, .getfield 39, 86, 0), (86, .getfield 50, 89, 0), (89, .iastore, 90, 0), (90, .return_, 91, 0)]
theorem T_X1_lookAtEach_ok : T_X1_lookAtEach.all (rowB cX1_lookAtEach) = true := by decide +kernel
def th_X1_lookAtEach : List (Nat × Nat) := []
def sw_X1_lookAtEach : List (Nat × (List (Int32 × Nat) × Nat)) := []
theorem sw_X1_lookAtEach_ok : ∀ q ∈ sw_X1_lookAtEach, swS cX1_lookAtEach q := fun _ h => absurd h List.not_mem_nil
def na_X1_lookAtEach : List (Nat × Nat) := [(220, 1), (228, 3), (163, 2), (208, 4)]
def ca_X1_lookAtEach {R' : Type} (F : Nat) : List (Nat × cFn R') := [(220, n_X10_clear (f_X10_clear F)), (228, n_X0_makesEach (f_X0_makesEach F)), (163, n_X10_at (f_X10_at F)), (208, n_X1_narrowed (f_X1_narrowed F))]
theorem ca_X1_lookAtEach_ok {R' : Type} {q : cL} (hst : q.1.stackTraces = false) {D : Nat} (hD : 3 ≤ D) (F : Nat) : ∀ x ∈ (ca_X1_lookAtEach (R' := R') F), 1 ≤ D ∧ ceS q RX1 (D - 1) x.1 x.2 := List.forall_mem_cons.mpr ⟨⟨by omega, n_X10_clear_ok (k := 73) (lw_good_of (tb_ok 794 (by decide +kernel)) rfl) (fun a0 M r h => c_X10_clear hst (by omega) F a0 M r h)⟩, List.forall_mem_cons.mpr ⟨⟨by omega, n_X0_makesEach_ok (k := 76) (lw_good_of (tb_ok 795 (by decide +kernel)) rfl) (fun a0 a1 a2 M r h => c_X0_makesEach hst (by omega) F a0 a1 a2 M r h)⟩, List.forall_mem_cons.mpr ⟨⟨by omega, n_X10_at_ok (k := 54) (lw_good_of (tb_ok 780 (by decide +kernel)) rfl) (fun a0 a1 M r h => c_X10_at hst (by omega) F a0 a1 M r h)⟩, List.forall_mem_cons.mpr ⟨⟨by omega, n_X1_narrowed_ok (k := 69) (lw_good_of (tb_ok 786 (by decide +kernel)) rfl) (fun a0 a1 a2 a3 M r h => c_X1_narrowed hst (by omega) F a0 a1 a2 a3 M r h)⟩, fun _ h => absurd h List.not_mem_nil⟩⟩⟩⟩
def kd_X1_lookAtEach_34 (g : Nat → Int32 → Int32 → Int32 → cM → Option (cM)) : cKf (cM) := fun vs st M => (lR vs 0).bind fun x0 => (lI vs 1).bind fun x1 => (lI vs 2).bind fun x2 => (lI vs 3).bind fun x3 => match st with
  | [] => g x0 x1 x2 x3 M
  | _ => none
theorem kf_X1_lookAtEach_34 {X : cCtx} {o : cO} {r : cM} {g : Nat → Int32 → Int32 → Int32 → cM → Option (cM)} (hg : ∀ x0 x1 x2 x3 M, g x0 x1 x2 x3 M = some r → WX X 4 o 34 [some (.ref x0), some (.int x1), some (.int x2), some (.int x3)] [] M) : ∀ vs st M, kd_X1_lookAtEach_34 g vs st M = some r → WX X 4 o 34 vs st M := by
  intro vs st M h
  unfold kd_X1_lookAtEach_34 at h
  obtain ⟨x0, h0, h⟩ := Option.bind_eq_some_iff.mp h
  obtain ⟨x1, h1, h⟩ := Option.bind_eq_some_iff.mp h
  obtain ⟨x2, h2, h⟩ := Option.bind_eq_some_iff.mp h
  obtain ⟨x3, h3, h⟩ := Option.bind_eq_some_iff.mp h
  split at h
  · exact WX_weak (hg _ _ _ _ _ h) rfl ⟨lR_of h0, lI_of h1, lI_of h2, lI_of h3, trivial⟩
  · cases h
def kd_X1_lookAtEach_70 (g : Nat → Int32 → Int32 → cM → Option (cM)) : cKf (cM) := fun vs st M => (lR vs 0).bind fun x0 => (lI vs 1).bind fun x1 => (lI vs 2).bind fun x2 => match st with
  | [] => g x0 x1 x2 M
  | _ => none
theorem kf_X1_lookAtEach_70 {X : cCtx} {o : cO} {r : cM} {g : Nat → Int32 → Int32 → cM → Option (cM)} (hg : ∀ x0 x1 x2 M, g x0 x1 x2 M = some r → WX X 4 o 70 [some (.ref x0), some (.int x1), some (.int x2), none] [] M) : ∀ vs st M, kd_X1_lookAtEach_70 g vs st M = some r → WX X 4 o 70 vs st M := by
  intro vs st M h
  unfold kd_X1_lookAtEach_70 at h
  obtain ⟨x0, h0, h⟩ := Option.bind_eq_some_iff.mp h
  obtain ⟨x1, h1, h⟩ := Option.bind_eq_some_iff.mp h
  obtain ⟨x2, h2, h⟩ := Option.bind_eq_some_iff.mp h
  split at h
  · exact WX_weak (hg _ _ _ _ h) rfl ⟨lR_of h0, lI_of h1, lI_of h2, trivial⟩
  · cases h
theorem e_X1_lookAtEach_70 (F : Nat) (x0 : Nat) (x1 : Int32) (x2 : Int32) (M : cM) : b_X1_lookAtEach_70 F x0 x1 x2 M = run T_X1_lookAtEach P_RX1 false 5 (naL na_X1_lookAtEach) (caL (ca_X1_lookAtEach F)) (lkN th_X1_lookAtEach) (lkN sw_X1_lookAtEach) krV kxN (spL []) (KL []) 52 70 [some (.ref x0), some (.int x1), some (.int x2), none] [] M := rfl
theorem ok_X1_lookAtEach_70 {X : cCtx} {D : Nat} {r : cM} (G : FX X 4 (eV r) cX1_lookAtEach RX1 5 D) {F : Nat} (hca : ∀ x ∈ (ca_X1_lookAtEach (R' := cM) F), 1 ≤ D ∧ ceS X.1 RX1 (D - 1) x.1 x.2) : ∀ x0 x1 x2 M, f_X1_lookAtEach_70 F x0 x1 x2 M = some r → WX X 4 (eV r) 70 [some (.ref x0), some (.int x1), some (.int x2), none] [] M := by
  intro x0 x1 x2 M h
  exact seg_ok G P_RX1_ok T_X1_lookAtEach_ok hca (fun _ h => absurd h List.not_mem_nil) sw_X1_lookAtEach_ok krV_ok (kxN_ok (f := eV)) (fun _ h => absurd h List.not_mem_nil) ((e_X1_lookAtEach_70 F x0 x1 x2 M).symm.trans h)
theorem e_X1_lookAtEach_34 (F : Nat) (t34 : Nat → Int32 → Int32 → Int32 → cM → Option (cM)) (t70 : Nat → Int32 → Int32 → cM → Option (cM)) (x0 : Nat) (x1 : Int32) (x2 : Int32) (x3 : Int32) (M : cM) : b_X1_lookAtEach_34 F t34 t70 x0 x1 x2 x3 M = run T_X1_lookAtEach P_RX1 false 5 (naL na_X1_lookAtEach) (caL (ca_X1_lookAtEach F)) (lkN th_X1_lookAtEach) (lkN sw_X1_lookAtEach) krV kxN (spL [34, 70]) (KL [(34, kd_X1_lookAtEach_34 t34), (70, kd_X1_lookAtEach_70 t70)]) 52 34 [some (.ref x0), some (.int x1), some (.int x2), some (.int x3)] [] M := rfl
theorem ok_X1_lookAtEach_34 {X : cCtx} {D : Nat} {r : cM} (G : FX X 4 (eV r) cX1_lookAtEach RX1 5 D) {F : Nat} (hca : ∀ x ∈ (ca_X1_lookAtEach (R' := cM) F), 1 ≤ D ∧ ceS X.1 RX1 (D - 1) x.1 x.2) (n : Nat) : ∀ x0 x1 x2 x3 M, f_X1_lookAtEach_34 F n x0 x1 x2 x3 M = some r → WX X 4 (eV r) 34 [some (.ref x0), some (.int x1), some (.int x2), some (.int x3)] [] M := by
  induction n with
  | zero => intro x0 x1 x2 x3 M h; cases h
  | succ n ih =>
    intro x0 x1 x2 x3 M h
    exact seg_ok G P_RX1_ok T_X1_lookAtEach_ok hca (fun _ h => absurd h List.not_mem_nil) sw_X1_lookAtEach_ok krV_ok (kxN_ok (f := eV)) (List.forall_mem_cons.mpr ⟨kf_X1_lookAtEach_34 (ih), List.forall_mem_cons.mpr ⟨kf_X1_lookAtEach_70 (ok_X1_lookAtEach_70 G hca), fun _ h => absurd h List.not_mem_nil⟩⟩) ((e_X1_lookAtEach_34 F (f_X1_lookAtEach_34 F n) (f_X1_lookAtEach_70 F) x0 x1 x2 x3 M).symm.trans h)
theorem e_X1_lookAtEach_0 (F : Nat) (t34 : Nat → Int32 → Int32 → Int32 → cM → Option (cM)) (x0 : Nat) (x1 : Int32) (M : cM) : b_X1_lookAtEach_0 F t34 x0 x1 M = run T_X1_lookAtEach P_RX1 false 5 (naL na_X1_lookAtEach) (caL (ca_X1_lookAtEach F)) (lkN th_X1_lookAtEach) (lkN sw_X1_lookAtEach) krV kxN (spL [34]) (KL [(34, kd_X1_lookAtEach_34 t34)]) 52 0 [some (.ref x0), some (.int x1), none, none] [] M := rfl
theorem ok_X1_lookAtEach_0 {X : cCtx} {D : Nat} {r : cM} (G : FX X 4 (eV r) cX1_lookAtEach RX1 5 D) {F : Nat} (hca : ∀ x ∈ (ca_X1_lookAtEach (R' := cM) F), 1 ≤ D ∧ ceS X.1 RX1 (D - 1) x.1 x.2) : ∀ x0 x1 M, f_X1_lookAtEach_0 F x0 x1 M = some r → WX X 4 (eV r) 0 [some (.ref x0), some (.int x1), none, none] [] M := by
  intro x0 x1 M h
  exact seg_ok G P_RX1_ok T_X1_lookAtEach_ok hca (fun _ h => absurd h List.not_mem_nil) sw_X1_lookAtEach_ok krV_ok (kxN_ok (f := eV)) (List.forall_mem_cons.mpr ⟨kf_X1_lookAtEach_34 (ok_X1_lookAtEach_34 G hca F), fun _ h => absurd h List.not_mem_nil⟩) ((e_X1_lookAtEach_0 F (f_X1_lookAtEach_34 F F) x0 x1 M).symm.trans h)
theorem c_X1_lookAtEach {q : cL} (hst : q.1.stackTraces = false) {D : Nat} (hD : 3 ≤ D) (F : Nat) (a0 : Nat) (a1 : Int32) (M : cM) (r : cM) (h : f_X1_lookAtEach F a0 a1 M = some r) : CTx q yX1_lookAtEach (.code yX1_lookAtEach cX1_lookAtEach 4 none) D [.ref a0, .int a1] M (eV r) ∧ ∃ fs, M[a0]? = some (.inr (0, fs)) := by
  unfold f_X1_lookAtEach at h
  split at h
  · next hi => exact ⟨CTx_of (own := RX1) (rk := 5) hst (by decide +kernel) rfl (rfl) (Nat.le_of_ble_eq_true rfl) (fun X hX G => by subst hX; exact ok_X1_lookAtEach_0 G (ca_X1_lookAtEach_ok hst hD F) a0 a1 M h), isC_of hi⟩
  · cases h
def n_X1_lookAtEach {R' : Type} (f : Nat → Int32 → cM → Option (cM)) : cFn R' := fun as M κ κx => match as with
  | [.ref a0, .int a1] => (f a0 a1 M).bind fun p => κ none p
  | _ => none
theorem w_X1_lookAtEach : ∀ w ∈ [Cond.instanceMethod yX1_lookAtEach, .selects yX1_lookAtEach.cls yX1_lookAtEach yX1_lookAtEach, .initialized yX1_lookAtEach.cls, .code yX1_lookAtEach cX1_lookAtEach 4 none], w ∈ lw_good := List.forall_mem_cons.mpr ⟨lw_good_of (tb_ok 792 (by decide +kernel)) rfl, List.forall_mem_cons.mpr ⟨lw_good_of (ts_ok 8 (by decide +kernel)) rfl, List.forall_mem_cons.mpr ⟨lw_good_of (tb_ok 10 (by decide +kernel)) rfl, List.forall_mem_cons.mpr ⟨lw_good_of (tb_ok 793 (by decide +kernel)) rfl, fun _ h => absurd h List.not_mem_nil⟩⟩⟩⟩
theorem n_X1_lookAtEach_ok {R' : Type} {q : cL} {own : String} {d k : Nat} {f : Nat → Int32 → cM → Option (cM)} (hl : Cond.methodLink own k yX1_lookAtEach ∈ lw_good) (hf : ∀ a0 a1 M r, f a0 a1 M = some r → CTx q yX1_lookAtEach (.code yX1_lookAtEach cX1_lookAtEach 4 none) d [.ref a0, .int a1] M (eV r) ∧ ∃ fs, M[a0]? = some (.inr (0, fs))) : ceS q own d (3 * k + 1) (n_X1_lookAtEach (R' := R') f) := by
  intro as M κ κx r h
  unfold n_X1_lookAtEach at h
  split at h
  · obtain ⟨p, h1, h2⟩ := Option.bind_eq_some_iff.mp h
    obtain ⟨hc, fs, ha⟩ := hf _ _ _ _ h1
    exact ⟨eV p, fun _ => h2, fun hne => absurd rfl hne, Or.inr (Or.inl ⟨yX1_lookAtEach, cX1_lookAtEach, 4, none, k, 1, _, _, 0, TX1, 8, fs, rfl, rfl, hc, ha, rfl, List.forall_mem_cons.mpr ⟨hl, w_X1_lookAtEach⟩, ⟨rfl, by decide +kernel, by decide +kernel, by decide +kernel⟩, rfl, by decide⟩)⟩
  · cases h
