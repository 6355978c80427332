/-! METHODS, part 11 (laid by wip/whole/tools/gen.py) -/
-- PatchbayScriptModel.adds(I)V
def T_X12_adds : List cRow := [(0, .aload_n 0, 1, 0), (1, .getfield 125, 4, 0), (4, .aload_n 0, 5, 0), (5, .getfield 228, 8, 0), (8, .iload_n 1, 9, 0), (9, .iastore, 10, 0), (10, .aload_n 0, 11, 0), (11, .dup, 12, 0), (12, .getfield 228, 15, 0), (15, .iconst 1, 16, 0), (16, .iadd, 17, 0), (17, .putfield 228, 20, 0), (20, .return_, 21, 0)]
theorem T_X12_adds_ok : T_X12_adds.all (rowB cX12_adds) = true := by decide +kernel
def th_X12_adds : List (Nat × Nat) := []
def sw_X12_adds : List (Nat × (List (Int32 × Nat) × Nat)) := []
theorem sw_X12_adds_ok : ∀ q ∈ sw_X12_adds, swS cX12_adds q := fun _ h => absurd h List.not_mem_nil
def na_X12_adds : List (Nat × Nat) := []
def ca_X12_adds {R' : Type} (F : Nat) : List (Nat × cFn R') := []
theorem ca_X12_adds_ok {R' : Type} {q : cL} (hst : q.1.stackTraces = false) {D : Nat} (hD : 0 ≤ D) (F : Nat) : ∀ x ∈ (ca_X12_adds (R' := R') F), 1 ≤ D ∧ ceS q RX12 (D - 1) x.1 x.2 := fun _ h => absurd h List.not_mem_nil
set_option maxRecDepth 20000 in
theorem e_X12_adds_0 (F : Nat) (x0 : Nat) (x1 : Int32) (M : cM) : b_X12_adds_0 F x0 x1 M = run T_X12_adds P_RX12 false 5 (naL na_X12_adds) (caL (ca_X12_adds F)) (lkN th_X12_adds) (lkN sw_X12_adds) krV kxN (spL []) (KL []) 16 0 [some (.ref x0), some (.int x1)] [] M := rfl
theorem ok_X12_adds_0 {X : cCtx} {D : Nat} {r : cM} (G : FX X 2 (eV r) cX12_adds RX12 5 D) {F : Nat} (hca : ∀ x ∈ (ca_X12_adds (R' := cM) F), 1 ≤ D ∧ ceS X.1 RX12 (D - 1) x.1 x.2) : ∀ x0 x1 M, f_X12_adds_0 F x0 x1 M = some r → WX X 2 (eV r) 0 [some (.ref x0), some (.int x1)] [] M := by
  intro x0 x1 M h
  exact seg_ok G P_RX12_ok T_X12_adds_ok hca (fun _ h => absurd h List.not_mem_nil) sw_X12_adds_ok krV_ok (kxN_ok (f := eV)) (fun _ h => absurd h List.not_mem_nil) ((e_X12_adds_0 F x0 x1 M).symm.trans h)
theorem c_X12_adds {q : cL} (hst : q.1.stackTraces = false) {D : Nat} (hD : 0 ≤ D) (F : Nat) (a0 : Nat) (a1 : Int32) (M : cM) (r : cM) (h : f_X12_adds F a0 a1 M = some r) : CTx q yX12_adds (.code yX12_adds cX12_adds 2 none) D [.ref a0, .int a1] M (eV r) ∧ ∃ fs, M[a0]? = some (.inr (10, fs)) := by
  unfold f_X12_adds at h
  split at h
  · next hi => exact ⟨CTx_of (own := RX12) (rk := 5) hst (by decide +kernel) rfl (rfl) (Nat.le_of_ble_eq_true rfl) (fun X hX G => by subst hX; exact ok_X12_adds_0 G (ca_X12_adds_ok hst hD F) a0 a1 M h), isC_of hi⟩
  · cases h
def n_X12_adds {R' : Type} (f : Nat → Int32 → cM → Option (cM)) : cFn R' := fun as M κ κx => match as with
  | [.ref a0, .int a1] => (f a0 a1 M).bind fun p => κ none p
  | _ => none
theorem w_X12_adds : ∀ w ∈ [Cond.instanceMethod yX12_adds, .selects yX12_adds.cls yX12_adds yX12_adds, .initialized yX12_adds.cls, .code yX12_adds cX12_adds 2 none], w ∈ lw_good := List.forall_mem_cons.mpr ⟨lw_good_of (tb_ok 1395 (by decide +kernel)) rfl, List.forall_mem_cons.mpr ⟨lw_good_of (ts_ok 39 (by decide +kernel)) rfl, List.forall_mem_cons.mpr ⟨lw_good_of (tb_ok 11 (by decide +kernel)) rfl, List.forall_mem_cons.mpr ⟨lw_good_of (tb_ok 1396 (by decide +kernel)) rfl, fun _ h => absurd h List.not_mem_nil⟩⟩⟩⟩
theorem n_X12_adds_ok {R' : Type} {q : cL} {own : String} {d k : Nat} {f : Nat → Int32 → cM → Option (cM)} (hl : Cond.methodLink own k yX12_adds ∈ lw_good) (hf : ∀ a0 a1 M r, f a0 a1 M = some r → CTx q yX12_adds (.code yX12_adds cX12_adds 2 none) d [.ref a0, .int a1] M (eV r) ∧ ∃ fs, M[a0]? = some (.inr (10, fs))) : ceS q own d (3 * k + 1) (n_X12_adds (R' := R') f) := by
  intro as M κ κx r h
  unfold n_X12_adds at h
  split at h
  · obtain ⟨p, h1, h2⟩ := Option.bind_eq_some_iff.mp h
    obtain ⟨hc, fs, ha⟩ := hf _ _ _ _ h1
    exact ⟨eV p, fun _ => h2, fun hne => absurd rfl hne, Or.inr (Or.inl ⟨yX12_adds, cX12_adds, 2, none, k, 1, _, _, 10, TX12, 76, fs, rfl, rfl, hc, ha, rfl, List.forall_mem_cons.mpr ⟨hl, w_X12_adds⟩, ⟨rfl, by decide +kernel, by decide +kernel, by decide +kernel⟩, rfl, by decide⟩)⟩
  · cases h
-- PatchbayScriptModel.cuts(III)Z
def T_X12_cuts : List cRow := [(0, .aload_n 0, 1, 0), (1, .iload_n 1, 2, 0), (2, .invokevirtual 231, 5, 0), (5, .istore 4, 7, 0), (7, .aload_n 0, 8, 0), (8, .iload_n 2, 9, 0), (9, .invokevirtual 231, 12, 0), (12, .istore 5, 14, 0), (14, .iload 4, 16, 0), (16, .iconst (-1), 17, 0), (17, .if_icmp .eq 16, 20, 33), (20, .iload 5, 22, 0), (22, .iconst (-1), 23, 0), (23, .if_icmp .eq 10, 26, 33), (26, .iload 4, 28, 0), (28, .iload 5, 30, 0), (30, .if_icmp .lt 5, 33, 35), (33, .iconst 0, 34, 0), (34, .ireturn, 35, 0), (35, .iload 4, 37, 0), (37, .istore 6, 39, 0), (39, .iload 6, 41, 0), (41, .iload 5, 43, 0), (43, .if_icmp .ge 67, 46, 110), (46, .aload_n 0, 47, 0), (47, .iload_n 3, 48, 0), (48, .ifCond .ne 13, 51, 61), (51, .aload_n 0, 52, 0), (52, .getfield 113, 55, 0), (55, .iload 6, 57, 0), (57, .iaload, 58, 0), (58, .goto 43, 61, 101), (61, .iload_n 3, 62, 0), (62, .iconst 1, 63, 0), (63, .if_icmp .eq 15, 66, 78), (66, .iload_n 3, 67, 0), (67, .iconst 3, 68, 0), (68, .if_icmp .ne 23, 71, 91), (71, .iload 6, 73, 0), (73, .iload 4, 75, 0), (75, .if_icmp .ne 16, 78, 91), (78, .aload_n 0, 79, 0), (79, .getfield 113, 82, 0), (82, .iload 6, 84, 0), (84, .iaload, 85, 0), (85, .invokestatic 234, 88, 0), (88, .goto 13, 91, 101), (91, .aload_n 0, 92, 0), (92, .getfield 113, 95, 0), (95, .iload 6, 97, 0), (97, .iaload, 98, 0), (98, .invokestatic 237, 101, 0), (101, .invokevirtual 240, 104, 0), (104, .iinc 6 1, 107, 0), (107, .goto (-68), 110, 39), (110, .iconst 1, 111, 0), (111, .ireturn, 112, 0)]
theorem T_X12_cuts_ok : T_X12_cuts.all (rowB cX12_cuts) = true := by decide +kernel
def th_X12_cuts : List (Nat × Nat) := []
def sw_X12_cuts : List (Nat × (List (Int32 × Nat) × Nat)) := []
theorem sw_X12_cuts_ok : ∀ q ∈ sw_X12_cuts, swS cX12_cuts q := fun _ h => absurd h List.not_mem_nil
def na_X12_cuts : List (Nat × Nat) := [(694, 2), (702, 1), (711, 1), (721, 2)]
def ca_X12_cuts {R' : Type} (F : Nat) : List (Nat × cFn R') := [(694, n_X12_place (f_X12_place F)), (702, n_X12_upper (f_X12_upper F)), (711, n_X12_lower (f_X12_lower F)), (721, n_X12_adds (f_X12_adds F))]
theorem ca_X12_cuts_ok {R' : Type} {q : cL} (hst : q.1.stackTraces = false) {D : Nat} (hD : 2 ≤ D) (F : Nat) : ∀ x ∈ (ca_X12_cuts (R' := R') F), 1 ≤ D ∧ ceS q RX12 (D - 1) x.1 x.2 := List.forall_mem_cons.mpr ⟨⟨by omega, n_X12_place_ok (k := 231) (lw_good_of (tb_ok 1401 (by decide +kernel)) rfl) (fun a0 a1 M r h => c_X12_place hst (by omega) F a0 a1 M r h)⟩, List.forall_mem_cons.mpr ⟨⟨by omega, n_X12_upper_ok (k := 234) (lw_good_of (tb_ok 1405 (by decide +kernel)) rfl) (fun a0 M r h => c_X12_upper hst (by omega) F a0 M r h)⟩, List.forall_mem_cons.mpr ⟨⟨by omega, n_X12_lower_ok (k := 237) (lw_good_of (tb_ok 1408 (by decide +kernel)) rfl) (fun a0 M r h => c_X12_lower hst (by omega) F a0 M r h)⟩, List.forall_mem_cons.mpr ⟨⟨by omega, n_X12_adds_ok (k := 240) (lw_good_of (tb_ok 1393 (by decide +kernel)) rfl) (fun a0 a1 M r h => c_X12_adds hst (by omega) F a0 a1 M r h)⟩, fun _ h => absurd h List.not_mem_nil⟩⟩⟩⟩
def kd_X12_cuts_39 (g : Nat → Int32 → Int32 → Int32 → Int32 → cM → Option (Int32 × cM)) : cKf (Int32 × cM) := fun vs st M => (lR vs 0).bind fun x0 => (lI vs 3).bind fun x3 => (lI vs 4).bind fun x4 => (lI vs 5).bind fun x5 => (lI vs 6).bind fun x6 => match st with
  | [] => g x0 x3 x4 x5 x6 M
  | _ => none
theorem kf_X12_cuts_39 {X : cCtx} {o : cO} {r : Int32 × cM} {g : Nat → Int32 → Int32 → Int32 → Int32 → cM → Option (Int32 × cM)} (hg : ∀ x0 x3 x4 x5 x6 M, g x0 x3 x4 x5 x6 M = some r → WX X 7 o 39 [some (.ref x0), none, none, some (.int x3), some (.int x4), some (.int x5), some (.int x6)] [] M) : ∀ vs st M, kd_X12_cuts_39 g vs st M = some r → WX X 7 o 39 vs st M := by
  intro vs st M h
  unfold kd_X12_cuts_39 at h
  obtain ⟨x0, h0, h⟩ := Option.bind_eq_some_iff.mp h
  obtain ⟨x3, h3, h⟩ := Option.bind_eq_some_iff.mp h
  obtain ⟨x4, h4, h⟩ := Option.bind_eq_some_iff.mp h
  obtain ⟨x5, h5, h⟩ := Option.bind_eq_some_iff.mp h
  obtain ⟨x6, h6, h⟩ := Option.bind_eq_some_iff.mp h
  split at h
  · exact WX_weak (hg _ _ _ _ _ _ h) rfl ⟨lR_of h0, lI_of h3, lI_of h4, lI_of h5, lI_of h6, trivial⟩
  · cases h
def kd_X12_cuts_78 (g : Nat → Int32 → Int32 → Int32 → Int32 → Nat → cM → Option (Int32 × cM)) : cKf (Int32 × cM) := fun vs st M => (lR vs 0).bind fun x0 => (lI vs 3).bind fun x3 => (lI vs 4).bind fun x4 => (lI vs 5).bind fun x5 => (lI vs 6).bind fun x6 => match st with
  | [.ref s0] => g x0 x3 x4 x5 x6 s0 M
  | _ => none
theorem kf_X12_cuts_78 {X : cCtx} {o : cO} {r : Int32 × cM} {g : Nat → Int32 → Int32 → Int32 → Int32 → Nat → cM → Option (Int32 × cM)} (hg : ∀ x0 x3 x4 x5 x6 s0 M, g x0 x3 x4 x5 x6 s0 M = some r → WX X 7 o 78 [some (.ref x0), none, none, some (.int x3), some (.int x4), some (.int x5), some (.int x6)] [.ref s0] M) : ∀ vs st M, kd_X12_cuts_78 g vs st M = some r → WX X 7 o 78 vs st M := by
  intro vs st M h
  unfold kd_X12_cuts_78 at h
  obtain ⟨x0, h0, h⟩ := Option.bind_eq_some_iff.mp h
  obtain ⟨x3, h3, h⟩ := Option.bind_eq_some_iff.mp h
  obtain ⟨x4, h4, h⟩ := Option.bind_eq_some_iff.mp h
  obtain ⟨x5, h5, h⟩ := Option.bind_eq_some_iff.mp h
  obtain ⟨x6, h6, h⟩ := Option.bind_eq_some_iff.mp h
  split at h
  · exact WX_weak (hg _ _ _ _ _ _ _ h) rfl ⟨lR_of h0, lI_of h3, lI_of h4, lI_of h5, lI_of h6, trivial⟩
  · cases h
set_option maxRecDepth 20000 in
theorem e_X12_cuts_78 (F : Nat) (t39 : Nat → Int32 → Int32 → Int32 → Int32 → cM → Option (Int32 × cM)) (x0 : Nat) (x3 : Int32) (x4 : Int32) (x5 : Int32) (x6 : Int32) (s0 : Nat) (M : cM) : b_X12_cuts_78 F t39 x0 x3 x4 x5 x6 s0 M = run T_X12_cuts P_RX12 false 1 (naL na_X12_cuts) (caL (ca_X12_cuts F)) (lkN th_X12_cuts) (lkN sw_X12_cuts) krI kxN (spL [39]) (KL [(39, kd_X12_cuts_39 t39)]) 60 78 [some (.ref x0), none, none, some (.int x3), some (.int x4), some (.int x5), some (.int x6)] [.ref s0] M := rfl
theorem ok_X12_cuts_78 {X : cCtx} {D : Nat} {r : Int32 × cM} (G : FX X 7 (eI r) cX12_cuts RX12 1 D) {F : Nat} (hca : ∀ x ∈ (ca_X12_cuts (R' := Int32 × cM) F), 1 ≤ D ∧ ceS X.1 RX12 (D - 1) x.1 x.2) (k39 : Nat → Int32 → Int32 → Int32 → Int32 → cM → Option (Int32 × cM)) (hk39 : ∀ x0 x3 x4 x5 x6 M, k39 x0 x3 x4 x5 x6 M = some r → WX X 7 (eI r) 39 [some (.ref x0), none, none, some (.int x3), some (.int x4), some (.int x5), some (.int x6)] [] M) : ∀ x0 x3 x4 x5 x6 s0 M, f_X12_cuts_78 F k39 x0 x3 x4 x5 x6 s0 M = some r → WX X 7 (eI r) 78 [some (.ref x0), none, none, some (.int x3), some (.int x4), some (.int x5), some (.int x6)] [.ref s0] M := by
  intro x0 x3 x4 x5 x6 s0 M h
  exact seg_ok G P_RX12_ok T_X12_cuts_ok hca (fun _ h => absurd h List.not_mem_nil) sw_X12_cuts_ok krI_ok (kxN_ok (f := eI)) (List.forall_mem_cons.mpr ⟨kf_X12_cuts_39 (hk39), fun _ h => absurd h List.not_mem_nil⟩) ((e_X12_cuts_78 F (k39) x0 x3 x4 x5 x6 s0 M).symm.trans h)
set_option maxRecDepth 20000 in
theorem e_X12_cuts_39 (F : Nat) (t39 : Nat → Int32 → Int32 → Int32 → Int32 → cM → Option (Int32 × cM)) (t78 : Nat → Int32 → Int32 → Int32 → Int32 → Nat → cM → Option (Int32 × cM)) (x0 : Nat) (x3 : Int32) (x4 : Int32) (x5 : Int32) (x6 : Int32) (M : cM) : b_X12_cuts_39 F t39 t78 x0 x3 x4 x5 x6 M = run T_X12_cuts P_RX12 false 1 (naL na_X12_cuts) (caL (ca_X12_cuts F)) (lkN th_X12_cuts) (lkN sw_X12_cuts) krI kxN (spL [39, 78]) (KL [(39, kd_X12_cuts_39 t39), (78, kd_X12_cuts_78 t78)]) 60 39 [some (.ref x0), none, none, some (.int x3), some (.int x4), some (.int x5), some (.int x6)] [] M := rfl
theorem ok_X12_cuts_39 {X : cCtx} {D : Nat} {r : Int32 × cM} (G : FX X 7 (eI r) cX12_cuts RX12 1 D) {F : Nat} (hca : ∀ x ∈ (ca_X12_cuts (R' := Int32 × cM) F), 1 ≤ D ∧ ceS X.1 RX12 (D - 1) x.1 x.2) (n : Nat) : ∀ x0 x3 x4 x5 x6 M, f_X12_cuts_39 F n x0 x3 x4 x5 x6 M = some r → WX X 7 (eI r) 39 [some (.ref x0), none, none, some (.int x3), some (.int x4), some (.int x5), some (.int x6)] [] M := by
  induction n with
  | zero => intro x0 x3 x4 x5 x6 M h; cases h
  | succ n ih =>
    intro x0 x3 x4 x5 x6 M h
    exact seg_ok G P_RX12_ok T_X12_cuts_ok hca (fun _ h => absurd h List.not_mem_nil) sw_X12_cuts_ok krI_ok (kxN_ok (f := eI)) (List.forall_mem_cons.mpr ⟨kf_X12_cuts_39 (ih), List.forall_mem_cons.mpr ⟨kf_X12_cuts_78 (ok_X12_cuts_78 G hca (f_X12_cuts_39 F n) ih), fun _ h => absurd h List.not_mem_nil⟩⟩) ((e_X12_cuts_39 F (f_X12_cuts_39 F n) (f_X12_cuts_78 F (f_X12_cuts_39 F n)) x0 x3 x4 x5 x6 M).symm.trans h)
set_option maxRecDepth 20000 in
theorem e_X12_cuts_0 (F : Nat) (t39 : Nat → Int32 → Int32 → Int32 → Int32 → cM → Option (Int32 × cM)) (x0 : Nat) (x1 : Int32) (x2 : Int32) (x3 : Int32) (M : cM) : b_X12_cuts_0 F t39 x0 x1 x2 x3 M = run T_X12_cuts P_RX12 false 1 (naL na_X12_cuts) (caL (ca_X12_cuts F)) (lkN th_X12_cuts) (lkN sw_X12_cuts) krI kxN (spL [39]) (KL [(39, kd_X12_cuts_39 t39)]) 60 0 [some (.ref x0), some (.int x1), some (.int x2), some (.int x3), none, none, none] [] M := rfl
theorem ok_X12_cuts_0 {X : cCtx} {D : Nat} {r : Int32 × cM} (G : FX X 7 (eI r) cX12_cuts RX12 1 D) {F : Nat} (hca : ∀ x ∈ (ca_X12_cuts (R' := Int32 × cM) F), 1 ≤ D ∧ ceS X.1 RX12 (D - 1) x.1 x.2) : ∀ x0 x1 x2 x3 M, f_X12_cuts_0 F x0 x1 x2 x3 M = some r → WX X 7 (eI r) 0 [some (.ref x0), some (.int x1), some (.int x2), some (.int x3), none, none, none] [] M := by
  intro x0 x1 x2 x3 M h
  exact seg_ok G P_RX12_ok T_X12_cuts_ok hca (fun _ h => absurd h List.not_mem_nil) sw_X12_cuts_ok krI_ok (kxN_ok (f := eI)) (List.forall_mem_cons.mpr ⟨kf_X12_cuts_39 (ok_X12_cuts_39 G hca F), fun _ h => absurd h List.not_mem_nil⟩) ((e_X12_cuts_0 F (f_X12_cuts_39 F F) x0 x1 x2 x3 M).symm.trans h)
theorem c_X12_cuts {q : cL} (hst : q.1.stackTraces = false) {D : Nat} (hD : 2 ≤ D) (F : Nat) (a0 : Nat) (a1 : Int32) (a2 : Int32) (a3 : Int32) (M : cM) (r : Int32 × cM) (h : f_X12_cuts F a0 a1 a2 a3 M = some r) : CTx q yX12_cuts (.code yX12_cuts cX12_cuts 7 (some .boolean)) D [.ref a0, .int a1, .int a2, .int a3] M (eI r) ∧ ∃ fs, M[a0]? = some (.inr (10, fs)) := by
  unfold f_X12_cuts at h
  split at h
  · next hi => exact ⟨CTx_of (own := RX12) (rk := 1) hst (by decide +kernel) rfl (rfl) (Nat.le_of_ble_eq_true rfl) (fun X hX G => by subst hX; exact ok_X12_cuts_0 G (ca_X12_cuts_ok hst hD F) a0 a1 a2 a3 M h), isC_of hi⟩
  · cases h
def n_X12_cuts {R' : Type} (f : Nat → Int32 → Int32 → Int32 → cM → Option (Int32 × cM)) : cFn R' := fun as M κ κx => match as with
  | [.ref a0, .int a1, .int a2, .int a3] => (f a0 a1 a2 a3 M).bind fun p => κ (some (.int p.1)) p.2
  | _ => none
theorem w_X12_cuts : ∀ w ∈ [Cond.instanceMethod yX12_cuts, .selects yX12_cuts.cls yX12_cuts yX12_cuts, .initialized yX12_cuts.cls, .code yX12_cuts cX12_cuts 7 (some .boolean)], w ∈ lw_good := List.forall_mem_cons.mpr ⟨lw_good_of (tb_ok 1399 (by decide +kernel)) rfl, List.forall_mem_cons.mpr ⟨lw_good_of (ts_ok 40 (by decide +kernel)) rfl, List.forall_mem_cons.mpr ⟨lw_good_of (tb_ok 11 (by decide +kernel)) rfl, List.forall_mem_cons.mpr ⟨lw_good_of (tb_ok 1400 (by decide +kernel)) rfl, fun _ h => absurd h List.not_mem_nil⟩⟩⟩⟩
theorem n_X12_cuts_ok {R' : Type} {q : cL} {own : String} {d k : Nat} {f : Nat → Int32 → Int32 → Int32 → cM → Option (Int32 × cM)} (hl : Cond.methodLink own k yX12_cuts ∈ lw_good) (hf : ∀ a0 a1 a2 a3 M r, f a0 a1 a2 a3 M = some r → CTx q yX12_cuts (.code yX12_cuts cX12_cuts 7 (some .boolean)) d [.ref a0, .int a1, .int a2, .int a3] M (eI r) ∧ ∃ fs, M[a0]? = some (.inr (10, fs))) : ceS q own d (3 * k + 1) (n_X12_cuts (R' := R') f) := by
  intro as M κ κx r h
  unfold n_X12_cuts at h
  split at h
  · obtain ⟨p, h1, h2⟩ := Option.bind_eq_some_iff.mp h
    obtain ⟨hc, fs, ha⟩ := hf _ _ _ _ _ _ h1
    exact ⟨eI p, fun _ => h2, fun hne => absurd rfl hne, Or.inr (Or.inl ⟨yX12_cuts, cX12_cuts, 7, (some .boolean), k, 3, _, _, 10, TX12, 76, fs, rfl, rfl, hc, ha, rfl, List.forall_mem_cons.mpr ⟨hl, w_X12_cuts⟩, ⟨rfl, by decide +kernel, by decide +kernel, by decide +kernel⟩, rfl, by decide⟩)⟩
  · cases h
-- PatchbayScriptModel.markOf(I)I
def T_X12_markOf : List cRow := [(0, .iload_n 0, 1, 0), (1, .iconst 1, 2, 0), (2, .if_icmp .ne 8, 5, 10), (5, .bipush 32, 7, 0), (7, .goto 35, 10, 42), (10, .iload_n 0, 11, 0), (11, .iconst 2, 12, 0), (12, .if_icmp .ne 8, 15, 20), (15, .bipush 44, 17, 0), (17, .goto 25, 20, 42), (20, .iload_n 0, 21, 0), (21, .iconst 3, 22, 0), (22, .if_icmp .ne 8, 25, 30), (25, .bipush 46, 27, 0), (27, .goto 15, 30, 42), (30, .iload_n 0, 31, 0), (31, .iconst 4, 32, 0), (32, .if_icmp .ne 8, 35, 40), (35, .bipush 45, 37, 0), (37, .goto 5, 40, 42), (40, .bipush 47, 42, 0), (42, .ireturn, 43, 0)]
theorem T_X12_markOf_ok : T_X12_markOf.all (rowB cX12_markOf) = true := by decide +kernel
def th_X12_markOf : List (Nat × Nat) := []
def sw_X12_markOf : List (Nat × (List (Int32 × Nat) × Nat)) := []
theorem sw_X12_markOf_ok : ∀ q ∈ sw_X12_markOf, swS cX12_markOf q := fun _ h => absurd h List.not_mem_nil
def na_X12_markOf : List (Nat × Nat) := []
def ca_X12_markOf {R' : Type} (F : Nat) : List (Nat × cFn R') := []
theorem ca_X12_markOf_ok {R' : Type} {q : cL} (hst : q.1.stackTraces = false) {D : Nat} (hD : 0 ≤ D) (F : Nat) : ∀ x ∈ (ca_X12_markOf (R' := R') F), 1 ≤ D ∧ ceS q RX12 (D - 1) x.1 x.2 := fun _ h => absurd h List.not_mem_nil
set_option maxRecDepth 20000 in
theorem e_X12_markOf_0 (F : Nat) (x0 : Int32) (M : cM) : b_X12_markOf_0 F x0 M = run T_X12_markOf P_RX12 false 0 (naL na_X12_markOf) (caL (ca_X12_markOf F)) (lkN th_X12_markOf) (lkN sw_X12_markOf) krI kxN (spL []) (KL []) 25 0 [some (.int x0)] [] M := rfl
theorem ok_X12_markOf_0 {X : cCtx} {D : Nat} {r : Int32 × cM} (G : FX X 1 (eI r) cX12_markOf RX12 0 D) {F : Nat} (hca : ∀ x ∈ (ca_X12_markOf (R' := Int32 × cM) F), 1 ≤ D ∧ ceS X.1 RX12 (D - 1) x.1 x.2) : ∀ x0 M, f_X12_markOf_0 F x0 M = some r → WX X 1 (eI r) 0 [some (.int x0)] [] M := by
  intro x0 M h
  exact seg_ok G P_RX12_ok T_X12_markOf_ok hca (fun _ h => absurd h List.not_mem_nil) sw_X12_markOf_ok krI_ok (kxN_ok (f := eI)) (fun _ h => absurd h List.not_mem_nil) ((e_X12_markOf_0 F x0 M).symm.trans h)
theorem c_X12_markOf {q : cL} (hst : q.1.stackTraces = false) {D : Nat} (hD : 0 ≤ D) (F : Nat) (a0 : Int32) (M : cM) (r : Int32 × cM) (h : f_X12_markOf F a0 M = some r) : CTx q yX12_markOf (.code yX12_markOf cX12_markOf 1 (some .int)) D [.int a0] M (eI r) := by
  exact CTx_of (own := RX12) (rk := 0) hst (by decide +kernel) rfl (rfl) (Nat.le_of_ble_eq_true rfl) (fun X hX G => by subst hX; exact ok_X12_markOf_0 G (ca_X12_markOf_ok hst hD F) a0 M h)
def n_X12_markOf {R' : Type} (f : Int32 → cM → Option (Int32 × cM)) : cFn R' := fun as M κ κx => match as with
  | [.int a0] => (f a0 M).bind fun p => κ (some (.int p.1)) p.2
  | _ => none
theorem w_X12_markOf : ∀ w ∈ [Cond.static yX12_markOf, .initialized yX12_markOf.cls, .code yX12_markOf cX12_markOf 1 (some .int)], w ∈ lw_good := List.forall_mem_cons.mpr ⟨lw_good_of (tb_ok 1387 (by decide +kernel)) rfl, List.forall_mem_cons.mpr ⟨lw_good_of (tb_ok 11 (by decide +kernel)) rfl, List.forall_mem_cons.mpr ⟨lw_good_of (tb_ok 1388 (by decide +kernel)) rfl, fun _ h => absurd h List.not_mem_nil⟩⟩⟩
theorem n_X12_markOf_ok {R' : Type} {q : cL} {own : String} {d k : Nat} {f : Int32 → cM → Option (Int32 × cM)} (hl : Cond.methodLink own k yX12_markOf ∈ lw_good) (hf : ∀ a0 M r, f a0 M = some r → CTx q yX12_markOf (.code yX12_markOf cX12_markOf 1 (some .int)) d [.int a0] M (eI r)) : ceS q own d (3 * k) (n_X12_markOf (R' := R') f) := by
  intro as M κ κx r h
  unfold n_X12_markOf at h
  split at h
  · obtain ⟨p, h1, h2⟩ := Option.bind_eq_some_iff.mp h
    exact ⟨eI p, fun _ => h2, fun hne => absurd rfl hne, Or.inl ⟨yX12_markOf, cX12_markOf, 1, (some .int), k, 1, rfl, hf _ _ _ h1, List.forall_mem_cons.mpr ⟨hl, w_X12_markOf⟩, ⟨by decide +kernel, by decide +kernel, by decide +kernel⟩, rfl, by decide⟩⟩
  · cases h
-- PatchbayScriptModel.eachs(III)Z
def T_X12_eachs : List cRow := [(0, .bipush 11, 2, 0), (2, .iload_n 1, 3, 0), (3, .imul, 4, 0), (4, .istore 4, 6, 0), (6, .iload 4, 8, 0), (8, .bipush 11, 10, 0), (10, .iload_n 1, 11, 0), (11, .imul, 12, 0), (12, .aload_n 0, 13, 0), (13, .getfield 116, 16, 0), (16, .iload_n 1, 17, 0), (17, .iaload, 18, 0), (18, .iadd, 19, 0), (19, .if_icmp .ge 110, 22, 129), (22, .iload 4, 24, 0), (24, .bipush 11, 26, 0), (26, .iload_n 1, 27, 0), (27, .imul, 28, 0), (28, .if_icmp .le 15, 31, 43), (31, .iload_n 3, 32, 0), (32, .ifCond .le 11, 35, 43), (35, .aload_n 0, 36, 0), (36, .iload_n 3, 37, 0), (37, .invokestatic 244, 40, 0), (40, .invokevirtual 240, 43, 0), (43, .iload_n 2, 44, 0), (44, .iconst 2, 45, 0), (45, .if_icmp .ne 15, 48, 60), (48, .aload_n 0, 49, 0), (49, .getfield 122, 52, 0), (52, .iload 4, 54, 0), (54, .iaload, 55, 0), (55, .iconst 1, 56, 0), (56, .isub, 57, 0), (57, .goto 10, 60, 67), (60, .aload_n 0, 61, 0), (61, .getfield 119, 64, 0), (64, .iload 4, 66, 0), (66, .iaload, 67, 0), (67, .istore 5, 69, 0), (69, .iload_n 2, 70, 0), (70, .iconst 1, 71, 0), (71, .if_icmp .ne 15, 74, 86), (74, .aload_n 0, 75, 0), (75, .getfield 119, 78, 0), (78, .iload 4, 80, 0), (80, .iaload, 81, 0), (81, .iconst 1, 82, 0), (82, .iadd, 83, 0), (83, .goto 10, 86, 93), (86, .aload_n 0, 87, 0), (87, .getfield 122, 90, 0), (90, .iload 4, 92, 0), (92, .iaload, 93, 0), (93, .istore 6, 95, 0), (95, .iload 5, 97, 0), (97, .istore 7, 99, 0), (99, .iload 7, 101, 0), (101, .iload 6, 103, 0), (103, .if_icmp .ge 20, 106, 123), (106, .aload_n 0, 107, 0), (107, .aload_n 0, 108, 0), (108, .getfield 113, 111, 0), (111, .iload 7, 113, 0), (113, .iaload, 114, 0), (114, .invokevirtual 240, 117, 0), (117, .iinc 7 1, 120, 0), (120, .goto (-21), 123, 99), (123, .iinc 4 1, 126, 0), (126, .goto (-120), 129, 6), (129, .aload_n 0, 130, 0), (130, .getfield 116, 133, 0), (133, .iload_n 1, 134, 0), (134, .iaload, 135, 0), (135, .ifCond .le 7, 138, 142), (138, .iconst 1, 139, 0), (139, .goto 4, 142, 143), (142, .iconst 0, 143, 0), (143, .ireturn, 144, 0)]
theorem T_X12_eachs_ok : T_X12_eachs.all (rowB cX12_eachs) = true := by decide +kernel
def th_X12_eachs : List (Nat × Nat) := []
def sw_X12_eachs : List (Nat × (List (Int32 × Nat) × Nat)) := []
theorem sw_X12_eachs_ok : ∀ q ∈ sw_X12_eachs, swS cX12_eachs q := fun _ h => absurd h List.not_mem_nil
def na_X12_eachs : List (Nat × Nat) := [(732, 1), (721, 2)]
def ca_X12_eachs {R' : Type} (F : Nat) : List (Nat × cFn R') := [(732, n_X12_markOf (f_X12_markOf F)), (721, n_X12_adds (f_X12_adds F))]
theorem ca_X12_eachs_ok {R' : Type} {q : cL} (hst : q.1.stackTraces = false) {D : Nat} (hD : 1 ≤ D) (F : Nat) : ∀ x ∈ (ca_X12_eachs (R' := R') F), 1 ≤ D ∧ ceS q RX12 (D - 1) x.1 x.2 := List.forall_mem_cons.mpr ⟨⟨by omega, n_X12_markOf_ok (k := 244) (lw_good_of (tb_ok 1386 (by decide +kernel)) rfl) (fun a0 M r h => c_X12_markOf hst (by omega) F a0 M r h)⟩, List.forall_mem_cons.mpr ⟨⟨by omega, n_X12_adds_ok (k := 240) (lw_good_of (tb_ok 1393 (by decide +kernel)) rfl) (fun a0 a1 M r h => c_X12_adds hst (by omega) F a0 a1 M r h)⟩, fun _ h => absurd h List.not_mem_nil⟩⟩
def kd_X12_eachs_6 (g : Nat → Int32 → Int32 → Int32 → Int32 → cM → Option (Int32 × cM)) : cKf (Int32 × cM) := fun vs st M => (lR vs 0).bind fun x0 => (lI vs 1).bind fun x1 => (lI vs 2).bind fun x2 => (lI vs 3).bind fun x3 => (lI vs 4).bind fun x4 => match st with
  | [] => g x0 x1 x2 x3 x4 M
  | _ => none
theorem kf_X12_eachs_6 {X : cCtx} {o : cO} {r : Int32 × cM} {g : Nat → Int32 → Int32 → Int32 → Int32 → cM → Option (Int32 × cM)} (hg : ∀ x0 x1 x2 x3 x4 M, g x0 x1 x2 x3 x4 M = some r → WX X 8 o 6 [some (.ref x0), some (.int x1), some (.int x2), some (.int x3), some (.int x4), none, none, none] [] M) : ∀ vs st M, kd_X12_eachs_6 g vs st M = some r → WX X 8 o 6 vs st M := by
  intro vs st M h
  unfold kd_X12_eachs_6 at h
  obtain ⟨x0, h0, h⟩ := Option.bind_eq_some_iff.mp h
  obtain ⟨x1, h1, h⟩ := Option.bind_eq_some_iff.mp h
  obtain ⟨x2, h2, h⟩ := Option.bind_eq_some_iff.mp h
  obtain ⟨x3, h3, h⟩ := Option.bind_eq_some_iff.mp h
  obtain ⟨x4, h4, h⟩ := Option.bind_eq_some_iff.mp h
  split at h
  · exact WX_weak (hg _ _ _ _ _ _ h) rfl ⟨lR_of h0, lI_of h1, lI_of h2, lI_of h3, lI_of h4, trivial⟩
  · cases h
def kd_X12_eachs_43 (g : Nat → Int32 → Int32 → Int32 → Int32 → cM → Option (Int32 × cM)) : cKf (Int32 × cM) := fun vs st M => (lR vs 0).bind fun x0 => (lI vs 1).bind fun x1 => (lI vs 2).bind fun x2 => (lI vs 3).bind fun x3 => (lI vs 4).bind fun x4 => match st with
  | [] => g x0 x1 x2 x3 x4 M
  | _ => none
theorem kf_X12_eachs_43 {X : cCtx} {o : cO} {r : Int32 × cM} {g : Nat → Int32 → Int32 → Int32 → Int32 → cM → Option (Int32 × cM)} (hg : ∀ x0 x1 x2 x3 x4 M, g x0 x1 x2 x3 x4 M = some r → WX X 8 o 43 [some (.ref x0), some (.int x1), some (.int x2), some (.int x3), some (.int x4), none, none, none] [] M) : ∀ vs st M, kd_X12_eachs_43 g vs st M = some r → WX X 8 o 43 vs st M := by
  intro vs st M h
  unfold kd_X12_eachs_43 at h
  obtain ⟨x0, h0, h⟩ := Option.bind_eq_some_iff.mp h
  obtain ⟨x1, h1, h⟩ := Option.bind_eq_some_iff.mp h
  obtain ⟨x2, h2, h⟩ := Option.bind_eq_some_iff.mp h
  obtain ⟨x3, h3, h⟩ := Option.bind_eq_some_iff.mp h
  obtain ⟨x4, h4, h⟩ := Option.bind_eq_some_iff.mp h
  split at h
  · exact WX_weak (hg _ _ _ _ _ _ h) rfl ⟨lR_of h0, lI_of h1, lI_of h2, lI_of h3, lI_of h4, trivial⟩
  · cases h
def kd_X12_eachs_67 (g : Nat → Int32 → Int32 → Int32 → Int32 → Int32 → cM → Option (Int32 × cM)) : cKf (Int32 × cM) := fun vs st M => (lR vs 0).bind fun x0 => (lI vs 1).bind fun x1 => (lI vs 2).bind fun x2 => (lI vs 3).bind fun x3 => (lI vs 4).bind fun x4 => match st with
  | [.int s0] => g x0 x1 x2 x3 x4 s0 M
  | _ => none
theorem kf_X12_eachs_67 {X : cCtx} {o : cO} {r : Int32 × cM} {g : Nat → Int32 → Int32 → Int32 → Int32 → Int32 → cM → Option (Int32 × cM)} (hg : ∀ x0 x1 x2 x3 x4 s0 M, g x0 x1 x2 x3 x4 s0 M = some r → WX X 8 o 67 [some (.ref x0), some (.int x1), some (.int x2), some (.int x3), some (.int x4), none, none, none] [.int s0] M) : ∀ vs st M, kd_X12_eachs_67 g vs st M = some r → WX X 8 o 67 vs st M := by
  intro vs st M h
  unfold kd_X12_eachs_67 at h
  obtain ⟨x0, h0, h⟩ := Option.bind_eq_some_iff.mp h
  obtain ⟨x1, h1, h⟩ := Option.bind_eq_some_iff.mp h
  obtain ⟨x2, h2, h⟩ := Option.bind_eq_some_iff.mp h
  obtain ⟨x3, h3, h⟩ := Option.bind_eq_some_iff.mp h
  obtain ⟨x4, h4, h⟩ := Option.bind_eq_some_iff.mp h
  split at h
  · exact WX_weak (hg _ _ _ _ _ _ _ h) rfl ⟨lR_of h0, lI_of h1, lI_of h2, lI_of h3, lI_of h4, trivial⟩
  · cases h
def kd_X12_eachs_99 (g : Nat → Int32 → Int32 → Int32 → Int32 → Int32 → Int32 → cM → Option (Int32 × cM)) : cKf (Int32 × cM) := fun vs st M => (lR vs 0).bind fun x0 => (lI vs 1).bind fun x1 => (lI vs 2).bind fun x2 => (lI vs 3).bind fun x3 => (lI vs 4).bind fun x4 => (lI vs 6).bind fun x6 => (lI vs 7).bind fun x7 => match st with
  | [] => g x0 x1 x2 x3 x4 x6 x7 M
  | _ => none
theorem kf_X12_eachs_99 {X : cCtx} {o : cO} {r : Int32 × cM} {g : Nat → Int32 → Int32 → Int32 → Int32 → Int32 → Int32 → cM → Option (Int32 × cM)} (hg : ∀ x0 x1 x2 x3 x4 x6 x7 M, g x0 x1 x2 x3 x4 x6 x7 M = some r → WX X 8 o 99 [some (.ref x0), some (.int x1), some (.int x2), some (.int x3), some (.int x4), none, some (.int x6), some (.int x7)] [] M) : ∀ vs st M, kd_X12_eachs_99 g vs st M = some r → WX X 8 o 99 vs st M := by
  intro vs st M h
  unfold kd_X12_eachs_99 at h
  obtain ⟨x0, h0, h⟩ := Option.bind_eq_some_iff.mp h
  obtain ⟨x1, h1, h⟩ := Option.bind_eq_some_iff.mp h
  obtain ⟨x2, h2, h⟩ := Option.bind_eq_some_iff.mp h
  obtain ⟨x3, h3, h⟩ := Option.bind_eq_some_iff.mp h
  obtain ⟨x4, h4, h⟩ := Option.bind_eq_some_iff.mp h
  obtain ⟨x6, h6, h⟩ := Option.bind_eq_some_iff.mp h
  obtain ⟨x7, h7, h⟩ := Option.bind_eq_some_iff.mp h
  split at h
  · exact WX_weak (hg _ _ _ _ _ _ _ _ h) rfl ⟨lR_of h0, lI_of h1, lI_of h2, lI_of h3, lI_of h4, lI_of h6, lI_of h7, trivial⟩
  · cases h
set_option maxRecDepth 20000 in
theorem e_X12_eachs_99 (F : Nat) (t6 : Nat → Int32 → Int32 → Int32 → Int32 → cM → Option (Int32 × cM)) (t99 : Nat → Int32 → Int32 → Int32 → Int32 → Int32 → Int32 → cM → Option (Int32 × cM)) (x0 : Nat) (x1 : Int32) (x2 : Int32) (x3 : Int32) (x4 : Int32) (x6 : Int32) (x7 : Int32) (M : cM) : b_X12_eachs_99 F t6 t99 x0 x1 x2 x3 x4 x6 x7 M = run T_X12_eachs P_RX12 false 1 (naL na_X12_eachs) (caL (ca_X12_eachs F)) (lkN th_X12_eachs) (lkN sw_X12_eachs) krI kxN (spL [6, 99]) (KL [(6, kd_X12_eachs_6 t6), (99, kd_X12_eachs_99 t99)]) 82 99 [some (.ref x0), some (.int x1), some (.int x2), some (.int x3), some (.int x4), none, some (.int x6), some (.int x7)] [] M := rfl
theorem ok_X12_eachs_99 {X : cCtx} {D : Nat} {r : Int32 × cM} (G : FX X 8 (eI r) cX12_eachs RX12 1 D) {F : Nat} (hca : ∀ x ∈ (ca_X12_eachs (R' := Int32 × cM) F), 1 ≤ D ∧ ceS X.1 RX12 (D - 1) x.1 x.2) (k6 : Nat → Int32 → Int32 → Int32 → Int32 → cM → Option (Int32 × cM)) (hk6 : ∀ x0 x1 x2 x3 x4 M, k6 x0 x1 x2 x3 x4 M = some r → WX X 8 (eI r) 6 [some (.ref x0), some (.int x1), some (.int x2), some (.int x3), some (.int x4), none, none, none] [] M) (n : Nat) : ∀ x0 x1 x2 x3 x4 x6 x7 M, f_X12_eachs_99 F k6 n x0 x1 x2 x3 x4 x6 x7 M = some r → WX X 8 (eI r) 99 [some (.ref x0), some (.int x1), some (.int x2), some (.int x3), some (.int x4), none, some (.int x6), some (.int x7)] [] M := by
  induction n with
  | zero => intro x0 x1 x2 x3 x4 x6 x7 M h; cases h
  | succ n ih =>
    intro x0 x1 x2 x3 x4 x6 x7 M h
    exact seg_ok G P_RX12_ok T_X12_eachs_ok hca (fun _ h => absurd h List.not_mem_nil) sw_X12_eachs_ok krI_ok (kxN_ok (f := eI)) (List.forall_mem_cons.mpr ⟨kf_X12_eachs_6 (hk6), List.forall_mem_cons.mpr ⟨kf_X12_eachs_99 (ih), fun _ h => absurd h List.not_mem_nil⟩⟩) ((e_X12_eachs_99 F (k6) (f_X12_eachs_99 F k6 n) x0 x1 x2 x3 x4 x6 x7 M).symm.trans h)
set_option maxRecDepth 20000 in
theorem e_X12_eachs_67 (F : Nat) (t99 : Nat → Int32 → Int32 → Int32 → Int32 → Int32 → Int32 → cM → Option (Int32 × cM)) (x0 : Nat) (x1 : Int32) (x2 : Int32) (x3 : Int32) (x4 : Int32) (s0 : Int32) (M : cM) : b_X12_eachs_67 F t99 x0 x1 x2 x3 x4 s0 M = run T_X12_eachs P_RX12 false 1 (naL na_X12_eachs) (caL (ca_X12_eachs F)) (lkN th_X12_eachs) (lkN sw_X12_eachs) krI kxN (spL [99]) (KL [(99, kd_X12_eachs_99 t99)]) 82 67 [some (.ref x0), some (.int x1), some (.int x2), some (.int x3), some (.int x4), none, none, none] [.int s0] M := rfl
theorem ok_X12_eachs_67 {X : cCtx} {D : Nat} {r : Int32 × cM} (G : FX X 8 (eI r) cX12_eachs RX12 1 D) {F : Nat} (hca : ∀ x ∈ (ca_X12_eachs (R' := Int32 × cM) F), 1 ≤ D ∧ ceS X.1 RX12 (D - 1) x.1 x.2) (k6 : Nat → Int32 → Int32 → Int32 → Int32 → cM → Option (Int32 × cM)) (hk6 : ∀ x0 x1 x2 x3 x4 M, k6 x0 x1 x2 x3 x4 M = some r → WX X 8 (eI r) 6 [some (.ref x0), some (.int x1), some (.int x2), some (.int x3), some (.int x4), none, none, none] [] M) : ∀ x0 x1 x2 x3 x4 s0 M, f_X12_eachs_67 F k6 x0 x1 x2 x3 x4 s0 M = some r → WX X 8 (eI r) 67 [some (.ref x0), some (.int x1), some (.int x2), some (.int x3), some (.int x4), none, none, none] [.int s0] M := by
  intro x0 x1 x2 x3 x4 s0 M h
  exact seg_ok G P_RX12_ok T_X12_eachs_ok hca (fun _ h => absurd h List.not_mem_nil) sw_X12_eachs_ok krI_ok (kxN_ok (f := eI)) (List.forall_mem_cons.mpr ⟨kf_X12_eachs_99 (ok_X12_eachs_99 G hca k6 hk6 F), fun _ h => absurd h List.not_mem_nil⟩) ((e_X12_eachs_67 F (f_X12_eachs_99 F k6 F) x0 x1 x2 x3 x4 s0 M).symm.trans h)
set_option maxRecDepth 20000 in
theorem e_X12_eachs_43 (F : Nat) (t67 : Nat → Int32 → Int32 → Int32 → Int32 → Int32 → cM → Option (Int32 × cM)) (x0 : Nat) (x1 : Int32) (x2 : Int32) (x3 : Int32) (x4 : Int32) (M : cM) : b_X12_eachs_43 F t67 x0 x1 x2 x3 x4 M = run T_X12_eachs P_RX12 false 1 (naL na_X12_eachs) (caL (ca_X12_eachs F)) (lkN th_X12_eachs) (lkN sw_X12_eachs) krI kxN (spL [67]) (KL [(67, kd_X12_eachs_67 t67)]) 82 43 [some (.ref x0), some (.int x1), some (.int x2), some (.int x3), some (.int x4), none, none, none] [] M := rfl
theorem ok_X12_eachs_43 {X : cCtx} {D : Nat} {r : Int32 × cM} (G : FX X 8 (eI r) cX12_eachs RX12 1 D) {F : Nat} (hca : ∀ x ∈ (ca_X12_eachs (R' := Int32 × cM) F), 1 ≤ D ∧ ceS X.1 RX12 (D - 1) x.1 x.2) (k6 : Nat → Int32 → Int32 → Int32 → Int32 → cM → Option (Int32 × cM)) (hk6 : ∀ x0 x1 x2 x3 x4 M, k6 x0 x1 x2 x3 x4 M = some r → WX X 8 (eI r) 6 [some (.ref x0), some (.int x1), some (.int x2), some (.int x3), some (.int x4), none, none, none] [] M) : ∀ x0 x1 x2 x3 x4 M, f_X12_eachs_43 F k6 x0 x1 x2 x3 x4 M = some r → WX X 8 (eI r) 43 [some (.ref x0), some (.int x1), some (.int x2), some (.int x3), some (.int x4), none, none, none] [] M := by
  intro x0 x1 x2 x3 x4 M h
  exact seg_ok G P_RX12_ok T_X12_eachs_ok hca (fun _ h => absurd h List.not_mem_nil) sw_X12_eachs_ok krI_ok (kxN_ok (f := eI)) (List.forall_mem_cons.mpr ⟨kf_X12_eachs_67 (ok_X12_eachs_67 G hca k6 hk6), fun _ h => absurd h List.not_mem_nil⟩) ((e_X12_eachs_43 F (f_X12_eachs_67 F k6) x0 x1 x2 x3 x4 M).symm.trans h)
set_option maxRecDepth 20000 in
theorem e_X12_eachs_6 (F : Nat) (t43 : Nat → Int32 → Int32 → Int32 → Int32 → cM → Option (Int32 × cM)) (x0 : Nat) (x1 : Int32) (x2 : Int32) (x3 : Int32) (x4 : Int32) (M : cM) : b_X12_eachs_6 F t43 x0 x1 x2 x3 x4 M = run T_X12_eachs P_RX12 false 1 (naL na_X12_eachs) (caL (ca_X12_eachs F)) (lkN th_X12_eachs) (lkN sw_X12_eachs) krI kxN (spL [43]) (KL [(43, kd_X12_eachs_43 t43)]) 82 6 [some (.ref x0), some (.int x1), some (.int x2), some (.int x3), some (.int x4), none, none, none] [] M := rfl
theorem ok_X12_eachs_6 {X : cCtx} {D : Nat} {r : Int32 × cM} (G : FX X 8 (eI r) cX12_eachs RX12 1 D) {F : Nat} (hca : ∀ x ∈ (ca_X12_eachs (R' := Int32 × cM) F), 1 ≤ D ∧ ceS X.1 RX12 (D - 1) x.1 x.2) (n : Nat) : ∀ x0 x1 x2 x3 x4 M, f_X12_eachs_6 F n x0 x1 x2 x3 x4 M = some r → WX X 8 (eI r) 6 [some (.ref x0), some (.int x1), some (.int x2), some (.int x3), some (.int x4), none, none, none] [] M := by
  induction n with
  | zero => intro x0 x1 x2 x3 x4 M h; cases h
  | succ n ih =>
    intro x0 x1 x2 x3 x4 M h
    exact seg_ok G P_RX12_ok T_X12_eachs_ok hca (fun _ h => absurd h List.not_mem_nil) sw_X12_eachs_ok krI_ok (kxN_ok (f := eI)) (List.forall_mem_cons.mpr ⟨kf_X12_eachs_43 (ok_X12_eachs_43 G hca (f_X12_eachs_6 F n) ih), fun _ h => absurd h List.not_mem_nil⟩) ((e_X12_eachs_6 F (f_X12_eachs_43 F (f_X12_eachs_6 F n)) x0 x1 x2 x3 x4 M).symm.trans h)
set_option maxRecDepth 20000 in
theorem e_X12_eachs_0 (F : Nat) (t6 : Nat → Int32 → Int32 → Int32 → Int32 → cM → Option (Int32 × cM)) (x0 : Nat) (x1 : Int32) (x2 : Int32) (x3 : Int32) (M : cM) : b_X12_eachs_0 F t6 x0 x1 x2 x3 M = run T_X12_eachs P_RX12 false 1 (naL na_X12_eachs) (caL (ca_X12_eachs F)) (lkN th_X12_eachs) (lkN sw_X12_eachs) krI kxN (spL [6]) (KL [(6, kd_X12_eachs_6 t6)]) 82 0 [some (.ref x0), some (.int x1), some (.int x2), some (.int x3), none, none, none, none] [] M := rfl
theorem ok_X12_eachs_0 {X : cCtx} {D : Nat} {r : Int32 × cM} (G : FX X 8 (eI r) cX12_eachs RX12 1 D) {F : Nat} (hca : ∀ x ∈ (ca_X12_eachs (R' := Int32 × cM) F), 1 ≤ D ∧ ceS X.1 RX12 (D - 1) x.1 x.2) : ∀ x0 x1 x2 x3 M, f_X12_eachs_0 F x0 x1 x2 x3 M = some r → WX X 8 (eI r) 0 [some (.ref x0), some (.int x1), some (.int x2), some (.int x3), none, none, none, none] [] M := by
  intro x0 x1 x2 x3 M h
  exact seg_ok G P_RX12_ok T_X12_eachs_ok hca (fun _ h => absurd h List.not_mem_nil) sw_X12_eachs_ok krI_ok (kxN_ok (f := eI)) (List.forall_mem_cons.mpr ⟨kf_X12_eachs_6 (ok_X12_eachs_6 G hca F), fun _ h => absurd h List.not_mem_nil⟩) ((e_X12_eachs_0 F (f_X12_eachs_6 F F) x0 x1 x2 x3 M).symm.trans h)
theorem c_X12_eachs {q : cL} (hst : q.1.stackTraces = false) {D : Nat} (hD : 1 ≤ D) (F : Nat) (a0 : Nat) (a1 : Int32) (a2 : Int32) (a3 : Int32) (M : cM) (r : Int32 × cM) (h : f_X12_eachs F a0 a1 a2 a3 M = some r) : CTx q yX12_eachs (.code yX12_eachs cX12_eachs 8 (some .boolean)) D [.ref a0, .int a1, .int a2, .int a3] M (eI r) ∧ ∃ fs, M[a0]? = some (.inr (10, fs)) := by
  unfold f_X12_eachs at h
  split at h
  · next hi => exact ⟨CTx_of (own := RX12) (rk := 1) hst (by decide +kernel) rfl (rfl) (Nat.le_of_ble_eq_true rfl) (fun X hX G => by subst hX; exact ok_X12_eachs_0 G (ca_X12_eachs_ok hst hD F) a0 a1 a2 a3 M h), isC_of hi⟩
  · cases h
def n_X12_eachs {R' : Type} (f : Nat → Int32 → Int32 → Int32 → cM → Option (Int32 × cM)) : cFn R' := fun as M κ κx => match as with
  | [.ref a0, .int a1, .int a2, .int a3] => (f a0 a1 a2 a3 M).bind fun p => κ (some (.int p.1)) p.2
  | _ => none
theorem w_X12_eachs : ∀ w ∈ [Cond.instanceMethod yX12_eachs, .selects yX12_eachs.cls yX12_eachs yX12_eachs, .initialized yX12_eachs.cls, .code yX12_eachs cX12_eachs 8 (some .boolean)], w ∈ lw_good := List.forall_mem_cons.mpr ⟨lw_good_of (tb_ok 1413 (by decide +kernel)) rfl, List.forall_mem_cons.mpr ⟨lw_good_of (ts_ok 42 (by decide +kernel)) rfl, List.forall_mem_cons.mpr ⟨lw_good_of (tb_ok 11 (by decide +kernel)) rfl, List.forall_mem_cons.mpr ⟨lw_good_of (tb_ok 1414 (by decide +kernel)) rfl, fun _ h => absurd h List.not_mem_nil⟩⟩⟩⟩
theorem n_X12_eachs_ok {R' : Type} {q : cL} {own : String} {d k : Nat} {f : Nat → Int32 → Int32 → Int32 → cM → Option (Int32 × cM)} (hl : Cond.methodLink own k yX12_eachs ∈ lw_good) (hf : ∀ a0 a1 a2 a3 M r, f a0 a1 a2 a3 M = some r → CTx q yX12_eachs (.code yX12_eachs cX12_eachs 8 (some .boolean)) d [.ref a0, .int a1, .int a2, .int a3] M (eI r) ∧ ∃ fs, M[a0]? = some (.inr (10, fs))) : ceS q own d (3 * k + 1) (n_X12_eachs (R' := R') f) := by
  intro as M κ κx r h
  unfold n_X12_eachs at h
  split at h
  · obtain ⟨p, h1, h2⟩ := Option.bind_eq_some_iff.mp h
    obtain ⟨hc, fs, ha⟩ := hf _ _ _ _ _ _ h1
    exact ⟨eI p, fun _ => h2, fun hne => absurd rfl hne, Or.inr (Or.inl ⟨yX12_eachs, cX12_eachs, 8, (some .boolean), k, 3, _, _, 10, TX12, 76, fs, rfl, rfl, hc, ha, rfl, List.forall_mem_cons.mpr ⟨hl, w_X12_eachs⟩, ⟨rfl, by decide +kernel, by decide +kernel, by decide +kernel⟩, rfl, by decide⟩)⟩
  · cases h
-- PatchbayScriptModel.makes(I)Z
def T_X12_makes : List cRow := [(0, .aload_n 0, 1, 0), (1, .iconst 0, 2, 0), (2, .putfield 228, 5, 0), (5, .iconst 1, 6, 0), (6, .istore_n 2, 7, 0), (7, .iconst 4, 8, 0), (8, .iload_n 1, 9, 0), (9, .imul, 10, 0), (10, .istore_n 3, 11, 0), (11, .iload_n 3, 12, 0), (12, .iconst 4, 13, 0), (13, .iload_n 1, 14, 0), (14, .imul, 15, 0), (15, .aload_n 0, 16, 0), (16, .getfield 89, 19, 0), (19, .iload_n 1, 20, 0), (20, .iaload, 21, 0), (21, .iadd, 22, 0), (22, .if_icmp .ge 118, 25, 140), (25, .iload_n 2, 26, 0), (26, .ifCond .eq 114, 29, 140), (29, .aload_n 0, 30, 0), (30, .getfield 95, 33, 0), (33, .iload_n 3, 34, 0), (34, .iaload, 35, 0), (35, .ifCond .ne 41, 38, 76), (38, .iconst 0, 39, 0), (39, .istore 4, 41, 0), (41, .iload 4, 43, 0), (43, .aload_n 0, 44, 0), (44, .getfield 98, 47, 0), (47, .iload_n 3, 48, 0), (48, .iaload, 49, 0), (49, .if_icmp .ge 24, 52, 73), (52, .aload_n 0, 53, 0), (53, .aload_n 0, 54, 0), (54, .getfield 107, 57, 0), (57, .iconst 4, 58, 0), (58, .iload_n 3, 59, 0), (59, .imul, 60, 0), (60, .iload 4, 62, 0), (62, .iadd, 63, 0), (63, .iaload, 64, 0), (64, .invokevirtual 240, 67, 0), (67, .iinc 4 1, 70, 0), (70, .goto (-29), 73, 41), (73, .goto 61, 76, 134), (76, .aload_n 0, 77, 0), (77, .getfield 95, 80, 0), (80, .iload_n 3, 81, 0), (81, .iaload, 82, 0), (82, .iconst 1, 83, 0), (83, .if_icmp .ne 28, 86, 111), (86, .aload_n 0, 87, 0), (87, .aload_n 0, 88, 0), (88, .getfield 98, 91, 0), (91, .iload_n 3, 92, 0), (92, .iaload, 93, 0), (93, .aload_n 0, 94, 0), (94, .getfield 101, 97, 0), (97, .iload_n 3, 98, 0), (98, .iaload, 99, 0), (99, .aload_n 0, 100, 0), (100, .getfield 104, 103, 0), (103, .iload_n 3, 104, 0), (104, .iaload, 105, 0), (105, .invokevirtual 247, 108, 0), (108, .goto 25, 111, 133), (111, .aload_n 0, 112, 0), (112, .aload_n 0, 113, 0), (113, .getfield 98, 116, 0), (116, .iload_n 3, 117, 0), (117, .iaload, 118, 0), (118, .aload_n 0, 119, 0), (119, .getfield 101, 122, 0), (122, .iload_n 3, 123, 0), (123, .iaload, 124, 0), (124, .aload_n 0, 125, 0), (125, .getfield 104, 128, 0), (128, .iload_n 3, 129, 0), (129, .iaload, 130, 0), (130, .invokevirtual 250, 133, 0), (133, .istore_n 2, 134, 0), (134, .iinc 3 1, 137, 0), (137, .goto (-126), 140, 11), (140, .iload_n 2, 141, 0), (141, .ifCond .eq 16, 144, 157), (144, .aload_n 0, 145, 0), (145, .getfield 228, 148, 0), (148, .bipush 20, 150, 0), (150, .if_icmp .gt 7, 153, 157), (153, .iconst 1, 154, 0), (154, .goto 4, 157, 158), (157, .iconst 0, 158, 0), (158, .ireturn, 159, 0)]
theorem T_X12_makes_ok : T_X12_makes.all (rowB cX12_makes) = true := by decide +kernel
def th_X12_makes : List (Nat × Nat) := []
def sw_X12_makes : List (Nat × (List (Int32 × Nat) × Nat)) := []
theorem sw_X12_makes_ok : ∀ q ∈ sw_X12_makes, swS cX12_makes q := fun _ h => absurd h List.not_mem_nil
def na_X12_makes : List (Nat × Nat) := [(721, 2), (742, 4), (751, 4)]
def ca_X12_makes {R' : Type} (F : Nat) : List (Nat × cFn R') := [(721, n_X12_adds (f_X12_adds F)), (742, n_X12_cuts (f_X12_cuts F)), (751, n_X12_eachs (f_X12_eachs F))]
theorem ca_X12_makes_ok {R' : Type} {q : cL} (hst : q.1.stackTraces = false) {D : Nat} (hD : 3 ≤ D) (F : Nat) : ∀ x ∈ (ca_X12_makes (R' := R') F), 1 ≤ D ∧ ceS q RX12 (D - 1) x.1 x.2 := List.forall_mem_cons.mpr ⟨⟨by omega, n_X12_adds_ok (k := 240) (lw_good_of (tb_ok 1393 (by decide +kernel)) rfl) (fun a0 a1 M r h => c_X12_adds hst (by omega) F a0 a1 M r h)⟩, List.forall_mem_cons.mpr ⟨⟨by omega, n_X12_cuts_ok (k := 247) (lw_good_of (tb_ok 1397 (by decide +kernel)) rfl) (fun a0 a1 a2 a3 M r h => c_X12_cuts hst (by omega) F a0 a1 a2 a3 M r h)⟩, List.forall_mem_cons.mpr ⟨⟨by omega, n_X12_eachs_ok (k := 250) (lw_good_of (tb_ok 1411 (by decide +kernel)) rfl) (fun a0 a1 a2 a3 M r h => c_X12_eachs hst (by omega) F a0 a1 a2 a3 M r h)⟩, fun _ h => absurd h List.not_mem_nil⟩⟩⟩
def kd_X12_makes_11 (g : Nat → Int32 → Int32 → Int32 → cM → Option (Int32 × cM)) : cKf (Int32 × cM) := fun vs st M => (lR vs 0).bind fun x0 => (lI vs 1).bind fun x1 => (lI vs 2).bind fun x2 => (lI vs 3).bind fun x3 => match st with
  | [] => g x0 x1 x2 x3 M
  | _ => none
theorem kf_X12_makes_11 {X : cCtx} {o : cO} {r : Int32 × cM} {g : Nat → Int32 → Int32 → Int32 → cM → Option (Int32 × cM)} (hg : ∀ x0 x1 x2 x3 M, g x0 x1 x2 x3 M = some r → WX X 5 o 11 [some (.ref x0), some (.int x1), some (.int x2), some (.int x3), none] [] M) : ∀ vs st M, kd_X12_makes_11 g vs st M = some r → WX X 5 o 11 vs st M := by
  intro vs st M h
  unfold kd_X12_makes_11 at h
  obtain ⟨x0, h0, h⟩ := Option.bind_eq_some_iff.mp h
  obtain ⟨x1, h1, h⟩ := Option.bind_eq_some_iff.mp h
  obtain ⟨x2, h2, h⟩ := Option.bind_eq_some_iff.mp h
  obtain ⟨x3, h3, h⟩ := Option.bind_eq_some_iff.mp h
  split at h
  · exact WX_weak (hg _ _ _ _ _ h) rfl ⟨lR_of h0, lI_of h1, lI_of h2, lI_of h3, trivial⟩
  · cases h
def kd_X12_makes_41 (g : Nat → Int32 → Int32 → Int32 → Int32 → cM → Option (Int32 × cM)) : cKf (Int32 × cM) := fun vs st M => (lR vs 0).bind fun x0 => (lI vs 1).bind fun x1 => (lI vs 2).bind fun x2 => (lI vs 3).bind fun x3 => (lI vs 4).bind fun x4 => match st with
  | [] => g x0 x1 x2 x3 x4 M
  | _ => none
theorem kf_X12_makes_41 {X : cCtx} {o : cO} {r : Int32 × cM} {g : Nat → Int32 → Int32 → Int32 → Int32 → cM → Option (Int32 × cM)} (hg : ∀ x0 x1 x2 x3 x4 M, g x0 x1 x2 x3 x4 M = some r → WX X 5 o 41 [some (.ref x0), some (.int x1), some (.int x2), some (.int x3), some (.int x4)] [] M) : ∀ vs st M, kd_X12_makes_41 g vs st M = some r → WX X 5 o 41 vs st M := by
  intro vs st M h
  unfold kd_X12_makes_41 at h
  obtain ⟨x0, h0, h⟩ := Option.bind_eq_some_iff.mp h
  obtain ⟨x1, h1, h⟩ := Option.bind_eq_some_iff.mp h
  obtain ⟨x2, h2, h⟩ := Option.bind_eq_some_iff.mp h
  obtain ⟨x3, h3, h⟩ := Option.bind_eq_some_iff.mp h
  obtain ⟨x4, h4, h⟩ := Option.bind_eq_some_iff.mp h
  split at h
  · exact WX_weak (hg _ _ _ _ _ _ h) rfl ⟨lR_of h0, lI_of h1, lI_of h2, lI_of h3, lI_of h4, trivial⟩
  · cases h
def kd_X12_makes_76 (g : Nat → Int32 → Int32 → cM → Option (Int32 × cM)) : cKf (Int32 × cM) := fun vs st M => (lR vs 0).bind fun x0 => (lI vs 1).bind fun x1 => (lI vs 3).bind fun x3 => match st with
  | [] => g x0 x1 x3 M
  | _ => none
theorem kf_X12_makes_76 {X : cCtx} {o : cO} {r : Int32 × cM} {g : Nat → Int32 → Int32 → cM → Option (Int32 × cM)} (hg : ∀ x0 x1 x3 M, g x0 x1 x3 M = some r → WX X 5 o 76 [some (.ref x0), some (.int x1), none, some (.int x3), none] [] M) : ∀ vs st M, kd_X12_makes_76 g vs st M = some r → WX X 5 o 76 vs st M := by
  intro vs st M h
  unfold kd_X12_makes_76 at h
  obtain ⟨x0, h0, h⟩ := Option.bind_eq_some_iff.mp h
  obtain ⟨x1, h1, h⟩ := Option.bind_eq_some_iff.mp h
  obtain ⟨x3, h3, h⟩ := Option.bind_eq_some_iff.mp h
  split at h
  · exact WX_weak (hg _ _ _ _ h) rfl ⟨lR_of h0, lI_of h1, lI_of h3, trivial⟩
  · cases h
def kd_X12_makes_140 (g : Nat → Int32 → cM → Option (Int32 × cM)) : cKf (Int32 × cM) := fun vs st M => (lR vs 0).bind fun x0 => (lI vs 2).bind fun x2 => match st with
  | [] => g x0 x2 M
  | _ => none
theorem kf_X12_makes_140 {X : cCtx} {o : cO} {r : Int32 × cM} {g : Nat → Int32 → cM → Option (Int32 × cM)} (hg : ∀ x0 x2 M, g x0 x2 M = some r → WX X 5 o 140 [some (.ref x0), none, some (.int x2), none, none] [] M) : ∀ vs st M, kd_X12_makes_140 g vs st M = some r → WX X 5 o 140 vs st M := by
  intro vs st M h
  unfold kd_X12_makes_140 at h
  obtain ⟨x0, h0, h⟩ := Option.bind_eq_some_iff.mp h
  obtain ⟨x2, h2, h⟩ := Option.bind_eq_some_iff.mp h
  split at h
  · exact WX_weak (hg _ _ _ h) rfl ⟨lR_of h0, lI_of h2, trivial⟩
  · cases h
set_option maxRecDepth 20000 in
theorem e_X12_makes_140 (F : Nat) (x0 : Nat) (x2 : Int32) (M : cM) : b_X12_makes_140 F x0 x2 M = run T_X12_makes P_RX12 false 1 (naL na_X12_makes) (caL (ca_X12_makes F)) (lkN th_X12_makes) (lkN sw_X12_makes) krI kxN (spL []) (KL []) 98 140 [some (.ref x0), none, some (.int x2), none, none] [] M := rfl
theorem ok_X12_makes_140 {X : cCtx} {D : Nat} {r : Int32 × cM} (G : FX X 5 (eI r) cX12_makes RX12 1 D) {F : Nat} (hca : ∀ x ∈ (ca_X12_makes (R' := Int32 × cM) F), 1 ≤ D ∧ ceS X.1 RX12 (D - 1) x.1 x.2) : ∀ x0 x2 M, f_X12_makes_140 F x0 x2 M = some r → WX X 5 (eI r) 140 [some (.ref x0), none, some (.int x2), none, none] [] M := by
  intro x0 x2 M h
  exact seg_ok G P_RX12_ok T_X12_makes_ok hca (fun _ h => absurd h List.not_mem_nil) sw_X12_makes_ok krI_ok (kxN_ok (f := eI)) (fun _ h => absurd h List.not_mem_nil) ((e_X12_makes_140 F x0 x2 M).symm.trans h)
set_option maxRecDepth 20000 in
theorem e_X12_makes_41 (F : Nat) (t11 : Nat → Int32 → Int32 → Int32 → cM → Option (Int32 × cM)) (t41 : Nat → Int32 → Int32 → Int32 → Int32 → cM → Option (Int32 × cM)) (x0 : Nat) (x1 : Int32) (x2 : Int32) (x3 : Int32) (x4 : Int32) (M : cM) : b_X12_makes_41 F t11 t41 x0 x1 x2 x3 x4 M = run T_X12_makes P_RX12 false 1 (naL na_X12_makes) (caL (ca_X12_makes F)) (lkN th_X12_makes) (lkN sw_X12_makes) krI kxN (spL [11, 41]) (KL [(11, kd_X12_makes_11 t11), (41, kd_X12_makes_41 t41)]) 98 41 [some (.ref x0), some (.int x1), some (.int x2), some (.int x3), some (.int x4)] [] M := rfl
theorem ok_X12_makes_41 {X : cCtx} {D : Nat} {r : Int32 × cM} (G : FX X 5 (eI r) cX12_makes RX12 1 D) {F : Nat} (hca : ∀ x ∈ (ca_X12_makes (R' := Int32 × cM) F), 1 ≤ D ∧ ceS X.1 RX12 (D - 1) x.1 x.2) (k11 : Nat → Int32 → Int32 → Int32 → cM → Option (Int32 × cM)) (hk11 : ∀ x0 x1 x2 x3 M, k11 x0 x1 x2 x3 M = some r → WX X 5 (eI r) 11 [some (.ref x0), some (.int x1), some (.int x2), some (.int x3), none] [] M) (n : Nat) : ∀ x0 x1 x2 x3 x4 M, f_X12_makes_41 F k11 n x0 x1 x2 x3 x4 M = some r → WX X 5 (eI r) 41 [some (.ref x0), some (.int x1), some (.int x2), some (.int x3), some (.int x4)] [] M := by
  induction n with
  | zero => intro x0 x1 x2 x3 x4 M h; cases h
  | succ n ih =>
    intro x0 x1 x2 x3 x4 M h
    exact seg_ok G P_RX12_ok T_X12_makes_ok hca (fun _ h => absurd h List.not_mem_nil) sw_X12_makes_ok krI_ok (kxN_ok (f := eI)) (List.forall_mem_cons.mpr ⟨kf_X12_makes_11 (hk11), List.forall_mem_cons.mpr ⟨kf_X12_makes_41 (ih), fun _ h => absurd h List.not_mem_nil⟩⟩) ((e_X12_makes_41 F (k11) (f_X12_makes_41 F k11 n) x0 x1 x2 x3 x4 M).symm.trans h)
set_option maxRecDepth 20000 in
theorem e_X12_makes_76 (F : Nat) (t11 : Nat → Int32 → Int32 → Int32 → cM → Option (Int32 × cM)) (x0 : Nat) (x1 : Int32) (x3 : Int32) (M : cM) : b_X12_makes_76 F t11 x0 x1 x3 M = run T_X12_makes P_RX12 false 1 (naL na_X12_makes) (caL (ca_X12_makes F)) (lkN th_X12_makes) (lkN sw_X12_makes) krI kxN (spL [11]) (KL [(11, kd_X12_makes_11 t11)]) 98 76 [some (.ref x0), some (.int x1), none, some (.int x3), none] [] M := rfl
theorem ok_X12_makes_76 {X : cCtx} {D : Nat} {r : Int32 × cM} (G : FX X 5 (eI r) cX12_makes RX12 1 D) {F : Nat} (hca : ∀ x ∈ (ca_X12_makes (R' := Int32 × cM) F), 1 ≤ D ∧ ceS X.1 RX12 (D - 1) x.1 x.2) (k11 : Nat → Int32 → Int32 → Int32 → cM → Option (Int32 × cM)) (hk11 : ∀ x0 x1 x2 x3 M, k11 x0 x1 x2 x3 M = some r → WX X 5 (eI r) 11 [some (.ref x0), some (.int x1), some (.int x2), some (.int x3), none] [] M) : ∀ x0 x1 x3 M, f_X12_makes_76 F k11 x0 x1 x3 M = some r → WX X 5 (eI r) 76 [some (.ref x0), some (.int x1), none, some (.int x3), none] [] M := by
  intro x0 x1 x3 M h
  exact seg_ok G P_RX12_ok T_X12_makes_ok hca (fun _ h => absurd h List.not_mem_nil) sw_X12_makes_ok krI_ok (kxN_ok (f := eI)) (List.forall_mem_cons.mpr ⟨kf_X12_makes_11 (hk11), fun _ h => absurd h List.not_mem_nil⟩) ((e_X12_makes_76 F (k11) x0 x1 x3 M).symm.trans h)
set_option maxRecDepth 20000 in
theorem e_X12_makes_11 (F : Nat) (t41 : Nat → Int32 → Int32 → Int32 → Int32 → cM → Option (Int32 × cM)) (t76 : Nat → Int32 → Int32 → cM → Option (Int32 × cM)) (t140 : Nat → Int32 → cM → Option (Int32 × cM)) (x0 : Nat) (x1 : Int32) (x2 : Int32) (x3 : Int32) (M : cM) : b_X12_makes_11 F t41 t76 t140 x0 x1 x2 x3 M = run T_X12_makes P_RX12 false 1 (naL na_X12_makes) (caL (ca_X12_makes F)) (lkN th_X12_makes) (lkN sw_X12_makes) krI kxN (spL [41, 76, 140]) (KL [(41, kd_X12_makes_41 t41), (76, kd_X12_makes_76 t76), (140, kd_X12_makes_140 t140)]) 98 11 [some (.ref x0), some (.int x1), some (.int x2), some (.int x3), none] [] M := rfl
theorem ok_X12_makes_11 {X : cCtx} {D : Nat} {r : Int32 × cM} (G : FX X 5 (eI r) cX12_makes RX12 1 D) {F : Nat} (hca : ∀ x ∈ (ca_X12_makes (R' := Int32 × cM) F), 1 ≤ D ∧ ceS X.1 RX12 (D - 1) x.1 x.2) (n : Nat) : ∀ x0 x1 x2 x3 M, f_X12_makes_11 F n x0 x1 x2 x3 M = some r → WX X 5 (eI r) 11 [some (.ref x0), some (.int x1), some (.int x2), some (.int x3), none] [] M := by
  induction n with
  | zero => intro x0 x1 x2 x3 M h; cases h
  | succ n ih =>
    intro x0 x1 x2 x3 M h
    exact seg_ok G P_RX12_ok T_X12_makes_ok hca (fun _ h => absurd h List.not_mem_nil) sw_X12_makes_ok krI_ok (kxN_ok (f := eI)) (List.forall_mem_cons.mpr ⟨kf_X12_makes_41 (ok_X12_makes_41 G hca (f_X12_makes_11 F n) ih F), List.forall_mem_cons.mpr ⟨kf_X12_makes_76 (ok_X12_makes_76 G hca (f_X12_makes_11 F n) ih), List.forall_mem_cons.mpr ⟨kf_X12_makes_140 (ok_X12_makes_140 G hca), fun _ h => absurd h List.not_mem_nil⟩⟩⟩) ((e_X12_makes_11 F (f_X12_makes_41 F (f_X12_makes_11 F n) F) (f_X12_makes_76 F (f_X12_makes_11 F n)) (f_X12_makes_140 F) x0 x1 x2 x3 M).symm.trans h)
set_option maxRecDepth 20000 in
theorem e_X12_makes_0 (F : Nat) (t11 : Nat → Int32 → Int32 → Int32 → cM → Option (Int32 × cM)) (x0 : Nat) (x1 : Int32) (M : cM) : b_X12_makes_0 F t11 x0 x1 M = run T_X12_makes P_RX12 false 1 (naL na_X12_makes) (caL (ca_X12_makes F)) (lkN th_X12_makes) (lkN sw_X12_makes) krI kxN (spL [11]) (KL [(11, kd_X12_makes_11 t11)]) 98 0 [some (.ref x0), some (.int x1), none, none, none] [] M := rfl
theorem ok_X12_makes_0 {X : cCtx} {D : Nat} {r : Int32 × cM} (G : FX X 5 (eI r) cX12_makes RX12 1 D) {F : Nat} (hca : ∀ x ∈ (ca_X12_makes (R' := Int32 × cM) F), 1 ≤ D ∧ ceS X.1 RX12 (D - 1) x.1 x.2) : ∀ x0 x1 M, f_X12_makes_0 F x0 x1 M = some r → WX X 5 (eI r) 0 [some (.ref x0), some (.int x1), none, none, none] [] M := by
  intro x0 x1 M h
  exact seg_ok G P_RX12_ok T_X12_makes_ok hca (fun _ h => absurd h List.not_mem_nil) sw_X12_makes_ok krI_ok (kxN_ok (f := eI)) (List.forall_mem_cons.mpr ⟨kf_X12_makes_11 (ok_X12_makes_11 G hca F), fun _ h => absurd h List.not_mem_nil⟩) ((e_X12_makes_0 F (f_X12_makes_11 F F) x0 x1 M).symm.trans h)
theorem c_X12_makes {q : cL} (hst : q.1.stackTraces = false) {D : Nat} (hD : 3 ≤ D) (F : Nat) (a0 : Nat) (a1 : Int32) (M : cM) (r : Int32 × cM) (h : f_X12_makes F a0 a1 M = some r) : CTx q yX12_makes (.code yX12_makes cX12_makes 5 (some .boolean)) D [.ref a0, .int a1] M (eI r) ∧ ∃ fs, M[a0]? = some (.inr (10, fs)) := by
  unfold f_X12_makes at h
  split at h
  · next hi => exact ⟨CTx_of (own := RX12) (rk := 1) hst (by decide +kernel) rfl (rfl) (Nat.le_of_ble_eq_true rfl) (fun X hX G => by subst hX; exact ok_X12_makes_0 G (ca_X12_makes_ok hst hD F) a0 a1 M h), isC_of hi⟩
  · cases h
def n_X12_makes {R' : Type} (f : Nat → Int32 → cM → Option (Int32 × cM)) : cFn R' := fun as M κ κx => match as with
  | [.ref a0, .int a1] => (f a0 a1 M).bind fun p => κ (some (.int p.1)) p.2
  | _ => none
theorem w_X12_makes : ∀ w ∈ [Cond.instanceMethod yX12_makes, .selects yX12_makes.cls yX12_makes yX12_makes, .initialized yX12_makes.cls, .code yX12_makes cX12_makes 5 (some .boolean)], w ∈ lw_good := List.forall_mem_cons.mpr ⟨lw_good_of (tb_ok 1391 (by decide +kernel)) rfl, List.forall_mem_cons.mpr ⟨lw_good_of (ts_ok 38 (by decide +kernel)) rfl, List.forall_mem_cons.mpr ⟨lw_good_of (tb_ok 11 (by decide +kernel)) rfl, List.forall_mem_cons.mpr ⟨lw_good_of (tb_ok 1392 (by decide +kernel)) rfl, fun _ h => absurd h List.not_mem_nil⟩⟩⟩⟩
theorem n_X12_makes_ok {R' : Type} {q : cL} {own : String} {d k : Nat} {f : Nat → Int32 → cM → Option (Int32 × cM)} (hl : Cond.methodLink own k yX12_makes ∈ lw_good) (hf : ∀ a0 a1 M r, f a0 a1 M = some r → CTx q yX12_makes (.code yX12_makes cX12_makes 5 (some .boolean)) d [.ref a0, .int a1] M (eI r) ∧ ∃ fs, M[a0]? = some (.inr (10, fs))) : ceS q own d (3 * k + 1) (n_X12_makes (R' := R') f) := by
  intro as M κ κx r h
  unfold n_X12_makes at h
  split at h
  · obtain ⟨p, h1, h2⟩ := Option.bind_eq_some_iff.mp h
    obtain ⟨hc, fs, ha⟩ := hf _ _ _ _ h1
    exact ⟨eI p, fun _ => h2, fun hne => absurd rfl hne, Or.inr (Or.inl ⟨yX12_makes, cX12_makes, 5, (some .boolean), k, 1, _, _, 10, TX12, 76, fs, rfl, rfl, hc, ha, rfl, List.forall_mem_cons.mpr ⟨hl, w_X12_makes⟩, ⟨rfl, by decide +kernel, by decide +kernel, by decide +kernel⟩, rfl, by decide⟩)⟩
  · cases h
-- PatchbayScriptModel.copies(II)V
def T_X12_copies : List cRow := [(0, .aload_n 0, 1, 0), (1, .getfield 89, 4, 0), (4, .iload_n 2, 5, 0), (5, .aload_n 0, 6, 0), (6, .getfield 89, 9, 0), (9, .iload_n 1, 10, 0), (10, .iaload, 11, 0), (11, .iastore, 12, 0), (12, .aload_n 0, 13, 0), (13, .getfield 92, 16, 0), (16, .iload_n 2, 17, 0), (17, .aload_n 0, 18, 0), (18, .getfield 92, 21, 0), (21, .iload_n 1, 22, 0), (22, .iaload, 23, 0), (23, .iastore, 24, 0), (24, .iconst 0, 25, 0), (25, .istore_n 3, 26, 0), (26, .iload_n 3, 27, 0), (27, .iconst 4, 28, 0), (28, .if_icmp .ge 89, 31, 117), (31, .aload_n 0, 32, 0), (32, .getfield 95, 35, 0), (35, .iconst 4, 36, 0), (36, .iload_n 2, 37, 0), (37, .imul, 38, 0), (38, .iload_n 3, 39, 0), (39, .iadd, 40, 0), (40, .aload_n 0, 41, 0), (41, .getfield 95, 44, 0), (44, .iconst 4, 45, 0), (45, .iload_n 1, 46, 0), (46, .imul, 47, 0), (47, .iload_n 3, 48, 0), (48, .iadd, 49, 0), (49, .iaload, 50, 0), (50, .iastore, 51, 0), (51, .aload_n 0, 52, 0), (52, .getfield 98, 55, 0), (55, .iconst 4, 56, 0), (56, .iload_n 2, 57, 0), (57, .imul, 58, 0), (58, .iload_n 3, 59, 0), (59, .iadd, 60, 0), (60, .aload_n 0, 61, 0), (61, .getfield 98, 64, 0), (64, .iconst 4, 65, 0), (65, .iload_n 1, 66, 0), (66, .imul, 67, 0), (67, .iload_n 3, 68, 0), (68, .iadd, 69, 0), (69, .iaload, 70, 0), (70, .iastore, 71, 0), (71, .aload_n 0, 72, 0), (72, .getfield 101, 75, 0), (75, .iconst 4, 76, 0), (76, .iload_n 2, 77, 0), (77, .imul, 78, 0), (78, .iload_n 3, 79, 0), (79, .iadd, 80, 0), (80, .aload_n 0, 81, 0), (81, .getfield 101, 84, 0), (84, .iconst 4, 85, 0), (85, .iload_n 1, 86, 0), (86, .imul, 87, 0), (87, .iload_n 3, 88, 0), (88, .iadd, 89, 0), (89, .iaload, 90, 0), (90, .iastore, 91, 0), (91, .aload_n 0, 92, 0), (92, .getfield 104, 95, 0), (95, .iconst 4, 96, 0), (96, .iload_n 2, 97, 0), (97, .imul, 98, 0), (98, .iload_n 3, 99, 0), (99, .iadd, 100, 0), (100, .aload_n 0, 101, 0), (101, .getfield 104, 104, 0), (104, .iconst 4, 105, 0), (105, .iload_n 1, 106, 0), (106, .imul, 107, 0), (107, .iload_n 3, 108, 0), (108, .iadd, 109, 0), (109, .iaload, 110, 0), (110, .iastore, 111, 0), (111, .iinc 3 1, 114, 0), (114, .goto (-88), 117, 26), (117, .iconst 0, 118, 0), (118, .istore_n 3, 119, 0), (119, .iload_n 3, 120, 0), (120, .bipush 16, 122, 0), (122, .if_icmp .ge 31, 125, 153), (125, .aload_n 0, 126, 0), (126, .getfield 107, 129, 0), (129, .bipush 16, 131, 0), (131, .iload_n 2, 132, 0), (132, .imul, 133, 0), (133, .iload_n 3, 134, 0), (134, .iadd, 135, 0), (135, .aload_n 0, 136, 0), (136, .getfield 107, 139, 0), (139, .bipush 16, 141, 0), (141, .iload_n 1, 142, 0), (142, .imul, 143, 0), (143, .iload_n 3, 144, 0), (144, .iadd, 145, 0), (145, .iaload, 146, 0), (146, .iastore, 147, 0), (147, .iinc 3 1, 150, 0), (150, .goto (-31), 153, 119), (153, .return_, 154, 0)]
theorem T_X12_copies_ok : T_X12_copies.all (rowB cX12_copies) = true := by decide +kernel
def th_X12_copies : List (Nat × Nat) := []
def sw_X12_copies : List (Nat × (List (Int32 × Nat) × Nat)) := []
theorem sw_X12_copies_ok : ∀ q ∈ sw_X12_copies, swS cX12_copies q := fun _ h => absurd h List.not_mem_nil
def na_X12_copies : List (Nat × Nat) := []
def ca_X12_copies {R' : Type} (F : Nat) : List (Nat × cFn R') := []
theorem ca_X12_copies_ok {R' : Type} {q : cL} (hst : q.1.stackTraces = false) {D : Nat} (hD : 0 ≤ D) (F : Nat) : ∀ x ∈ (ca_X12_copies (R' := R') F), 1 ≤ D ∧ ceS q RX12 (D - 1) x.1 x.2 := fun _ h => absurd h List.not_mem_nil
def kd_X12_copies_26 (g : Nat → Int32 → Int32 → Int32 → cM → Option (cM)) : cKf (cM) := fun vs st M => (lR vs 0).bind fun x0 => (lI vs 1).bind fun x1 => (lI vs 2).bind fun x2 => (lI vs 3).bind fun x3 => match st with
  | [] => g x0 x1 x2 x3 M
  | _ => none
theorem kf_X12_copies_26 {X : cCtx} {o : cO} {r : cM} {g : Nat → Int32 → Int32 → Int32 → cM → Option (cM)} (hg : ∀ x0 x1 x2 x3 M, g x0 x1 x2 x3 M = some r → WX X 4 o 26 [some (.ref x0), some (.int x1), some (.int x2), some (.int x3)] [] M) : ∀ vs st M, kd_X12_copies_26 g vs st M = some r → WX X 4 o 26 vs st M := by
  intro vs st M h
  unfold kd_X12_copies_26 at h
  obtain ⟨x0, h0, h⟩ := Option.bind_eq_some_iff.mp h
  obtain ⟨x1, h1, h⟩ := Option.bind_eq_some_iff.mp h
  obtain ⟨x2, h2, h⟩ := Option.bind_eq_some_iff.mp h
  obtain ⟨x3, h3, h⟩ := Option.bind_eq_some_iff.mp h
  split at h
  · exact WX_weak (hg _ _ _ _ _ h) rfl ⟨lR_of h0, lI_of h1, lI_of h2, lI_of h3, trivial⟩
  · cases h
def kd_X12_copies_71 (g : Nat → Int32 → Int32 → Int32 → cM → Option (cM)) : cKf (cM) := fun vs st M => (lR vs 0).bind fun x0 => (lI vs 1).bind fun x1 => (lI vs 2).bind fun x2 => (lI vs 3).bind fun x3 => match st with
  | [] => g x0 x1 x2 x3 M
  | _ => none
theorem kf_X12_copies_71 {X : cCtx} {o : cO} {r : cM} {g : Nat → Int32 → Int32 → Int32 → cM → Option (cM)} (hg : ∀ x0 x1 x2 x3 M, g x0 x1 x2 x3 M = some r → WX X 4 o 71 [some (.ref x0), some (.int x1), some (.int x2), some (.int x3)] [] M) : ∀ vs st M, kd_X12_copies_71 g vs st M = some r → WX X 4 o 71 vs st M := by
  intro vs st M h
  unfold kd_X12_copies_71 at h
  obtain ⟨x0, h0, h⟩ := Option.bind_eq_some_iff.mp h
  obtain ⟨x1, h1, h⟩ := Option.bind_eq_some_iff.mp h
  obtain ⟨x2, h2, h⟩ := Option.bind_eq_some_iff.mp h
  obtain ⟨x3, h3, h⟩ := Option.bind_eq_some_iff.mp h
  split at h
  · exact WX_weak (hg _ _ _ _ _ h) rfl ⟨lR_of h0, lI_of h1, lI_of h2, lI_of h3, trivial⟩
  · cases h
def kd_X12_copies_119 (g : Nat → Int32 → Int32 → Int32 → cM → Option (cM)) : cKf (cM) := fun vs st M => (lR vs 0).bind fun x0 => (lI vs 1).bind fun x1 => (lI vs 2).bind fun x2 => (lI vs 3).bind fun x3 => match st with
  | [] => g x0 x1 x2 x3 M
  | _ => none
theorem kf_X12_copies_119 {X : cCtx} {o : cO} {r : cM} {g : Nat → Int32 → Int32 → Int32 → cM → Option (cM)} (hg : ∀ x0 x1 x2 x3 M, g x0 x1 x2 x3 M = some r → WX X 4 o 119 [some (.ref x0), some (.int x1), some (.int x2), some (.int x3)] [] M) : ∀ vs st M, kd_X12_copies_119 g vs st M = some r → WX X 4 o 119 vs st M := by
  intro vs st M h
  unfold kd_X12_copies_119 at h
  obtain ⟨x0, h0, h⟩ := Option.bind_eq_some_iff.mp h
  obtain ⟨x1, h1, h⟩ := Option.bind_eq_some_iff.mp h
  obtain ⟨x2, h2, h⟩ := Option.bind_eq_some_iff.mp h
  obtain ⟨x3, h3, h⟩ := Option.bind_eq_some_iff.mp h
  split at h
  · exact WX_weak (hg _ _ _ _ _ h) rfl ⟨lR_of h0, lI_of h1, lI_of h2, lI_of h3, trivial⟩
  · cases h
set_option maxRecDepth 20000 in
theorem e_X12_copies_119 (F : Nat) (t119 : Nat → Int32 → Int32 → Int32 → cM → Option (cM)) (x0 : Nat) (x1 : Int32) (x2 : Int32) (x3 : Int32) (M : cM) : b_X12_copies_119 F t119 x0 x1 x2 x3 M = run T_X12_copies P_RX12 false 5 (naL na_X12_copies) (caL (ca_X12_copies F)) (lkN th_X12_copies) (lkN sw_X12_copies) krV kxN (spL [119]) (KL [(119, kd_X12_copies_119 t119)]) 114 119 [some (.ref x0), some (.int x1), some (.int x2), some (.int x3)] [] M := rfl
theorem ok_X12_copies_119 {X : cCtx} {D : Nat} {r : cM} (G : FX X 4 (eV r) cX12_copies RX12 5 D) {F : Nat} (hca : ∀ x ∈ (ca_X12_copies (R' := cM) F), 1 ≤ D ∧ ceS X.1 RX12 (D - 1) x.1 x.2) (n : Nat) : ∀ x0 x1 x2 x3 M, f_X12_copies_119 F n x0 x1 x2 x3 M = some r → WX X 4 (eV r) 119 [some (.ref x0), some (.int x1), some (.int x2), some (.int x3)] [] M := by
  induction n with
  | zero => intro x0 x1 x2 x3 M h; cases h
  | succ n ih =>
    intro x0 x1 x2 x3 M h
    exact seg_ok G P_RX12_ok T_X12_copies_ok hca (fun _ h => absurd h List.not_mem_nil) sw_X12_copies_ok krV_ok (kxN_ok (f := eV)) (List.forall_mem_cons.mpr ⟨kf_X12_copies_119 (ih), fun _ h => absurd h List.not_mem_nil⟩) ((e_X12_copies_119 F (f_X12_copies_119 F n) x0 x1 x2 x3 M).symm.trans h)
set_option maxRecDepth 20000 in
theorem e_X12_copies_71 (F : Nat) (t26 : Nat → Int32 → Int32 → Int32 → cM → Option (cM)) (x0 : Nat) (x1 : Int32) (x2 : Int32) (x3 : Int32) (M : cM) : b_X12_copies_71 F t26 x0 x1 x2 x3 M = run T_X12_copies P_RX12 false 5 (naL na_X12_copies) (caL (ca_X12_copies F)) (lkN th_X12_copies) (lkN sw_X12_copies) krV kxN (spL [26]) (KL [(26, kd_X12_copies_26 t26)]) 114 71 [some (.ref x0), some (.int x1), some (.int x2), some (.int x3)] [] M := rfl
theorem ok_X12_copies_71 {X : cCtx} {D : Nat} {r : cM} (G : FX X 4 (eV r) cX12_copies RX12 5 D) {F : Nat} (hca : ∀ x ∈ (ca_X12_copies (R' := cM) F), 1 ≤ D ∧ ceS X.1 RX12 (D - 1) x.1 x.2) (k26 : Nat → Int32 → Int32 → Int32 → cM → Option (cM)) (hk26 : ∀ x0 x1 x2 x3 M, k26 x0 x1 x2 x3 M = some r → WX X 4 (eV r) 26 [some (.ref x0), some (.int x1), some (.int x2), some (.int x3)] [] M) : ∀ x0 x1 x2 x3 M, f_X12_copies_71 F k26 x0 x1 x2 x3 M = some r → WX X 4 (eV r) 71 [some (.ref x0), some (.int x1), some (.int x2), some (.int x3)] [] M := by
  intro x0 x1 x2 x3 M h
  exact seg_ok G P_RX12_ok T_X12_copies_ok hca (fun _ h => absurd h List.not_mem_nil) sw_X12_copies_ok krV_ok (kxN_ok (f := eV)) (List.forall_mem_cons.mpr ⟨kf_X12_copies_26 (hk26), fun _ h => absurd h List.not_mem_nil⟩) ((e_X12_copies_71 F (k26) x0 x1 x2 x3 M).symm.trans h)
set_option maxRecDepth 20000 in
theorem e_X12_copies_26 (F : Nat) (t71 : Nat → Int32 → Int32 → Int32 → cM → Option (cM)) (t119 : Nat → Int32 → Int32 → Int32 → cM → Option (cM)) (x0 : Nat) (x1 : Int32) (x2 : Int32) (x3 : Int32) (M : cM) : b_X12_copies_26 F t71 t119 x0 x1 x2 x3 M = run T_X12_copies P_RX12 false 5 (naL na_X12_copies) (caL (ca_X12_copies F)) (lkN th_X12_copies) (lkN sw_X12_copies) krV kxN (spL [71, 119]) (KL [(71, kd_X12_copies_71 t71), (119, kd_X12_copies_119 t119)]) 114 26 [some (.ref x0), some (.int x1), some (.int x2), some (.int x3)] [] M := rfl
theorem ok_X12_copies_26 {X : cCtx} {D : Nat} {r : cM} (G : FX X 4 (eV r) cX12_copies RX12 5 D) {F : Nat} (hca : ∀ x ∈ (ca_X12_copies (R' := cM) F), 1 ≤ D ∧ ceS X.1 RX12 (D - 1) x.1 x.2) (n : Nat) : ∀ x0 x1 x2 x3 M, f_X12_copies_26 F n x0 x1 x2 x3 M = some r → WX X 4 (eV r) 26 [some (.ref x0), some (.int x1), some (.int x2), some (.int x3)] [] M := by
  induction n with
  | zero => intro x0 x1 x2 x3 M h; cases h
  | succ n ih =>
    intro x0 x1 x2 x3 M h
    exact seg_ok G P_RX12_ok T_X12_copies_ok hca (fun _ h => absurd h List.not_mem_nil) sw_X12_copies_ok krV_ok (kxN_ok (f := eV)) (List.forall_mem_cons.mpr ⟨kf_X12_copies_71 (ok_X12_copies_71 G hca (f_X12_copies_26 F n) ih), List.forall_mem_cons.mpr ⟨kf_X12_copies_119 (ok_X12_copies_119 G hca F), fun _ h => absurd h List.not_mem_nil⟩⟩) ((e_X12_copies_26 F (f_X12_copies_71 F (f_X12_copies_26 F n)) (f_X12_copies_119 F F) x0 x1 x2 x3 M).symm.trans h)
set_option maxRecDepth 20000 in
theorem e_X12_copies_0 (F : Nat) (t26 : Nat → Int32 → Int32 → Int32 → cM → Option (cM)) (x0 : Nat) (x1 : Int32) (x2 : Int32) (M : cM) : b_X12_copies_0 F t26 x0 x1 x2 M = run T_X12_copies P_RX12 false 5 (naL na_X12_copies) (caL (ca_X12_copies F)) (lkN th_X12_copies) (lkN sw_X12_copies) krV kxN (spL [26]) (KL [(26, kd_X12_copies_26 t26)]) 114 0 [some (.ref x0), some (.int x1), some (.int x2), none] [] M := rfl
theorem ok_X12_copies_0 {X : cCtx} {D : Nat} {r : cM} (G : FX X 4 (eV r) cX12_copies RX12 5 D) {F : Nat} (hca : ∀ x ∈ (ca_X12_copies (R' := cM) F), 1 ≤ D ∧ ceS X.1 RX12 (D - 1) x.1 x.2) : ∀ x0 x1 x2 M, f_X12_copies_0 F x0 x1 x2 M = some r → WX X 4 (eV r) 0 [some (.ref x0), some (.int x1), some (.int x2), none] [] M := by
  intro x0 x1 x2 M h
  exact seg_ok G P_RX12_ok T_X12_copies_ok hca (fun _ h => absurd h List.not_mem_nil) sw_X12_copies_ok krV_ok (kxN_ok (f := eV)) (List.forall_mem_cons.mpr ⟨kf_X12_copies_26 (ok_X12_copies_26 G hca F), fun _ h => absurd h List.not_mem_nil⟩) ((e_X12_copies_0 F (f_X12_copies_26 F F) x0 x1 x2 M).symm.trans h)
theorem c_X12_copies {q : cL} (hst : q.1.stackTraces = false) {D : Nat} (hD : 0 ≤ D) (F : Nat) (a0 : Nat) (a1 : Int32) (a2 : Int32) (M : cM) (r : cM) (h : f_X12_copies F a0 a1 a2 M = some r) : CTx q yX12_copies (.code yX12_copies cX12_copies 4 none) D [.ref a0, .int a1, .int a2] M (eV r) ∧ ∃ fs, M[a0]? = some (.inr (10, fs)) := by
  unfold f_X12_copies at h
  split at h
  · next hi => exact ⟨CTx_of (own := RX12) (rk := 5) hst (by decide +kernel) rfl (rfl) (Nat.le_of_ble_eq_true rfl) (fun X hX G => by subst hX; exact ok_X12_copies_0 G (ca_X12_copies_ok hst hD F) a0 a1 a2 M h), isC_of hi⟩
  · cases h
def n_X12_copies {R' : Type} (f : Nat → Int32 → Int32 → cM → Option (cM)) : cFn R' := fun as M κ κx => match as with
  | [.ref a0, .int a1, .int a2] => (f a0 a1 a2 M).bind fun p => κ none p
  | _ => none
theorem w_X12_copies : ∀ w ∈ [Cond.instanceMethod yX12_copies, .selects yX12_copies.cls yX12_copies yX12_copies, .initialized yX12_copies.cls, .code yX12_copies cX12_copies 4 none], w ∈ lw_good := List.forall_mem_cons.mpr ⟨lw_good_of (tb_ok 1357 (by decide +kernel)) rfl, List.forall_mem_cons.mpr ⟨lw_good_of (ts_ok 31 (by decide +kernel)) rfl, List.forall_mem_cons.mpr ⟨lw_good_of (tb_ok 11 (by decide +kernel)) rfl, List.forall_mem_cons.mpr ⟨lw_good_of (tb_ok 1358 (by decide +kernel)) rfl, fun _ h => absurd h List.not_mem_nil⟩⟩⟩⟩
theorem n_X12_copies_ok {R' : Type} {q : cL} {own : String} {d k : Nat} {f : Nat → Int32 → Int32 → cM → Option (cM)} (hl : Cond.methodLink own k yX12_copies ∈ lw_good) (hf : ∀ a0 a1 a2 M r, f a0 a1 a2 M = some r → CTx q yX12_copies (.code yX12_copies cX12_copies 4 none) d [.ref a0, .int a1, .int a2] M (eV r) ∧ ∃ fs, M[a0]? = some (.inr (10, fs))) : ceS q own d (3 * k + 1) (n_X12_copies (R' := R') f) := by
  intro as M κ κx r h
  unfold n_X12_copies at h
  split at h
  · obtain ⟨p, h1, h2⟩ := Option.bind_eq_some_iff.mp h
    obtain ⟨hc, fs, ha⟩ := hf _ _ _ _ _ h1
    exact ⟨eV p, fun _ => h2, fun hne => absurd rfl hne, Or.inr (Or.inl ⟨yX12_copies, cX12_copies, 4, none, k, 2, _, _, 10, TX12, 76, fs, rfl, rfl, hc, ha, rfl, List.forall_mem_cons.mpr ⟨hl, w_X12_copies⟩, ⟨rfl, by decide +kernel, by decide +kernel, by decide +kernel⟩, rfl, by decide⟩)⟩
  · cases h
-- PatchbayScriptModel.holds(I)Z
def T_X12_holds : List cRow := [(0, .iload_n 1, 1, 0), (1, .bipush 12, 3, 0), (3, .if_icmp .ge 25, 6, 28), (6, .aload_n 0, 7, 0), (7, .getfield 116, 10, 0), (10, .iload_n 1, 11, 0), (11, .iconst 3, 12, 0), (12, .idiv, 13, 0), (13, .iaload, 14, 0), (14, .iload_n 1, 15, 0), (15, .iconst 3, 16, 0), (16, .irem, 17, 0), (17, .iconst 1, 18, 0), (18, .iadd, 19, 0), (19, .if_icmp .lt 7, 22, 26), (22, .iconst 1, 23, 0), (23, .goto 4, 26, 27), (26, .iconst 0, 27, 0), (27, .ireturn, 28, 0), (28, .iload_n 1, 29, 0), (29, .bipush 16, 31, 0), (31, .if_icmp .ge 32, 34, 63), (34, .aload_n 0, 35, 0), (35, .getfield 214, 38, 0), (38, .ifCond .le 23, 41, 61), (41, .aload_n 0, 42, 0), (42, .getfield 113, 45, 0), (45, .iconst 0, 46, 0), (46, .iaload, 47, 0), (47, .iload_n 1, 48, 0), (48, .bipush 12, 50, 0), (50, .isub, 51, 0), (51, .invokestatic 220, 54, 0), (54, .ifCond .eq 7, 57, 61), (57, .iconst 1, 58, 0), (58, .goto 4, 61, 62), (61, .iconst 0, 62, 0), (62, .ireturn, 63, 0), (63, .iconst 0, 64, 0), (64, .istore_n 2, 65, 0), (65, .iconst 0, 66, 0), (66, .istore_n 3, 67, 0), (67, .iload_n 3, 68, 0), (68, .aload_n 0, 69, 0), (69, .getfield 214, 72, 0), (72, .if_icmp .ge 35, 75, 107), (75, .iload_n 2, 76, 0), (76, .ifCond .ne 19, 79, 95), (79, .aload_n 0, 80, 0), (80, .getfield 113, 83, 0), (83, .iload_n 3, 84, 0), (84, .iaload, 85, 0), (85, .iload_n 1, 86, 0), (86, .bipush 15, 88, 0), (88, .isub, 89, 0), (89, .invokestatic 244, 92, 0), (92, .if_icmp .ne 7, 95, 99), (95, .iconst 1, 96, 0), (96, .goto 4, 99, 100), (99, .iconst 0, 100, 0), (100, .istore_n 2, 101, 0), (101, .iinc 3 1, 104, 0), (104, .goto (-37), 107, 67), (107, .iload_n 2, 108, 0), (108, .ireturn, 109, 0)]
theorem T_X12_holds_ok : T_X12_holds.all (rowB cX12_holds) = true := by decide +kernel
def th_X12_holds : List (Nat × Nat) := []
def sw_X12_holds : List (Nat × (List (Int32 × Nat) × Nat)) := []
theorem sw_X12_holds_ok : ∀ q ∈ sw_X12_holds, swS cX12_holds q := fun _ h => absurd h List.not_mem_nil
def na_X12_holds : List (Nat × Nat) := [(660, 2), (732, 1)]
def ca_X12_holds {R' : Type} (F : Nat) : List (Nat × cFn R') := [(660, n_X12_isOf (f_X12_isOf F)), (732, n_X12_markOf (f_X12_markOf F))]
theorem ca_X12_holds_ok {R' : Type} {q : cL} (hst : q.1.stackTraces = false) {D : Nat} (hD : 3 ≤ D) (F : Nat) : ∀ x ∈ (ca_X12_holds (R' := R') F), 1 ≤ D ∧ ceS q RX12 (D - 1) x.1 x.2 := List.forall_mem_cons.mpr ⟨⟨by omega, n_X12_isOf_ok (k := 220) (lw_good_of (tb_ok 1375 (by decide +kernel)) rfl) (fun a0 a1 M r h => c_X12_isOf hst (by omega) F a0 a1 M r h)⟩, List.forall_mem_cons.mpr ⟨⟨by omega, n_X12_markOf_ok (k := 244) (lw_good_of (tb_ok 1386 (by decide +kernel)) rfl) (fun a0 M r h => c_X12_markOf hst (by omega) F a0 M r h)⟩, fun _ h => absurd h List.not_mem_nil⟩⟩
def kd_X12_holds_67 (g : Nat → Int32 → Int32 → Int32 → cM → Option (Int32 × cM)) : cKf (Int32 × cM) := fun vs st M => (lR vs 0).bind fun x0 => (lI vs 1).bind fun x1 => (lI vs 2).bind fun x2 => (lI vs 3).bind fun x3 => match st with
  | [] => g x0 x1 x2 x3 M
  | _ => none
theorem kf_X12_holds_67 {X : cCtx} {o : cO} {r : Int32 × cM} {g : Nat → Int32 → Int32 → Int32 → cM → Option (Int32 × cM)} (hg : ∀ x0 x1 x2 x3 M, g x0 x1 x2 x3 M = some r → WX X 4 o 67 [some (.ref x0), some (.int x1), some (.int x2), some (.int x3)] [] M) : ∀ vs st M, kd_X12_holds_67 g vs st M = some r → WX X 4 o 67 vs st M := by
  intro vs st M h
  unfold kd_X12_holds_67 at h
  obtain ⟨x0, h0, h⟩ := Option.bind_eq_some_iff.mp h
  obtain ⟨x1, h1, h⟩ := Option.bind_eq_some_iff.mp h
  obtain ⟨x2, h2, h⟩ := Option.bind_eq_some_iff.mp h
  obtain ⟨x3, h3, h⟩ := Option.bind_eq_some_iff.mp h
  split at h
  · exact WX_weak (hg _ _ _ _ _ h) rfl ⟨lR_of h0, lI_of h1, lI_of h2, lI_of h3, trivial⟩
  · cases h
set_option maxRecDepth 20000 in
theorem e_X12_holds_67 (F : Nat) (t67 : Nat → Int32 → Int32 → Int32 → cM → Option (Int32 × cM)) (x0 : Nat) (x1 : Int32) (x2 : Int32) (x3 : Int32) (M : cM) : b_X12_holds_67 F t67 x0 x1 x2 x3 M = run T_X12_holds P_RX12 false 1 (naL na_X12_holds) (caL (ca_X12_holds F)) (lkN th_X12_holds) (lkN sw_X12_holds) krI kxN (spL [67]) (KL [(67, kd_X12_holds_67 t67)]) 68 67 [some (.ref x0), some (.int x1), some (.int x2), some (.int x3)] [] M := rfl
theorem ok_X12_holds_67 {X : cCtx} {D : Nat} {r : Int32 × cM} (G : FX X 4 (eI r) cX12_holds RX12 1 D) {F : Nat} (hca : ∀ x ∈ (ca_X12_holds (R' := Int32 × cM) F), 1 ≤ D ∧ ceS X.1 RX12 (D - 1) x.1 x.2) (n : Nat) : ∀ x0 x1 x2 x3 M, f_X12_holds_67 F n x0 x1 x2 x3 M = some r → WX X 4 (eI r) 67 [some (.ref x0), some (.int x1), some (.int x2), some (.int x3)] [] M := by
  induction n with
  | zero => intro x0 x1 x2 x3 M h; cases h
  | succ n ih =>
    intro x0 x1 x2 x3 M h
    exact seg_ok G P_RX12_ok T_X12_holds_ok hca (fun _ h => absurd h List.not_mem_nil) sw_X12_holds_ok krI_ok (kxN_ok (f := eI)) (List.forall_mem_cons.mpr ⟨kf_X12_holds_67 (ih), fun _ h => absurd h List.not_mem_nil⟩) ((e_X12_holds_67 F (f_X12_holds_67 F n) x0 x1 x2 x3 M).symm.trans h)
set_option maxRecDepth 20000 in
theorem e_X12_holds_0 (F : Nat) (t67 : Nat → Int32 → Int32 → Int32 → cM → Option (Int32 × cM)) (x0 : Nat) (x1 : Int32) (M : cM) : b_X12_holds_0 F t67 x0 x1 M = run T_X12_holds P_RX12 false 1 (naL na_X12_holds) (caL (ca_X12_holds F)) (lkN th_X12_holds) (lkN sw_X12_holds) krI kxN (spL [67]) (KL [(67, kd_X12_holds_67 t67)]) 68 0 [some (.ref x0), some (.int x1), none, none] [] M := rfl
theorem ok_X12_holds_0 {X : cCtx} {D : Nat} {r : Int32 × cM} (G : FX X 4 (eI r) cX12_holds RX12 1 D) {F : Nat} (hca : ∀ x ∈ (ca_X12_holds (R' := Int32 × cM) F), 1 ≤ D ∧ ceS X.1 RX12 (D - 1) x.1 x.2) : ∀ x0 x1 M, f_X12_holds_0 F x0 x1 M = some r → WX X 4 (eI r) 0 [some (.ref x0), some (.int x1), none, none] [] M := by
  intro x0 x1 M h
  exact seg_ok G P_RX12_ok T_X12_holds_ok hca (fun _ h => absurd h List.not_mem_nil) sw_X12_holds_ok krI_ok (kxN_ok (f := eI)) (List.forall_mem_cons.mpr ⟨kf_X12_holds_67 (ok_X12_holds_67 G hca F), fun _ h => absurd h List.not_mem_nil⟩) ((e_X12_holds_0 F (f_X12_holds_67 F F) x0 x1 M).symm.trans h)
theorem c_X12_holds {q : cL} (hst : q.1.stackTraces = false) {D : Nat} (hD : 3 ≤ D) (F : Nat) (a0 : Nat) (a1 : Int32) (M : cM) (r : Int32 × cM) (h : f_X12_holds F a0 a1 M = some r) : CTx q yX12_holds (.code yX12_holds cX12_holds 4 (some .boolean)) D [.ref a0, .int a1] M (eI r) ∧ ∃ fs, M[a0]? = some (.inr (10, fs)) := by
  unfold f_X12_holds at h
  split at h
  · next hi => exact ⟨CTx_of (own := RX12) (rk := 1) hst (by decide +kernel) rfl (rfl) (Nat.le_of_ble_eq_true rfl) (fun X hX G => by subst hX; exact ok_X12_holds_0 G (ca_X12_holds_ok hst hD F) a0 a1 M h), isC_of hi⟩
  · cases h
def n_X12_holds {R' : Type} (f : Nat → Int32 → cM → Option (Int32 × cM)) : cFn R' := fun as M κ κx => match as with
  | [.ref a0, .int a1] => (f a0 a1 M).bind fun p => κ (some (.int p.1)) p.2
  | _ => none
theorem w_X12_holds : ∀ w ∈ [Cond.instanceMethod yX12_holds, .selects yX12_holds.cls yX12_holds yX12_holds, .initialized yX12_holds.cls, .code yX12_holds cX12_holds 4 (some .boolean)], w ∈ lw_good := List.forall_mem_cons.mpr ⟨lw_good_of (tb_ok 1384 (by decide +kernel)) rfl, List.forall_mem_cons.mpr ⟨lw_good_of (ts_ok 37 (by decide +kernel)) rfl, List.forall_mem_cons.mpr ⟨lw_good_of (tb_ok 11 (by decide +kernel)) rfl, List.forall_mem_cons.mpr ⟨lw_good_of (tb_ok 1385 (by decide +kernel)) rfl, fun _ h => absurd h List.not_mem_nil⟩⟩⟩⟩
theorem n_X12_holds_ok {R' : Type} {q : cL} {own : String} {d k : Nat} {f : Nat → Int32 → cM → Option (Int32 × cM)} (hl : Cond.methodLink own k yX12_holds ∈ lw_good) (hf : ∀ a0 a1 M r, f a0 a1 M = some r → CTx q yX12_holds (.code yX12_holds cX12_holds 4 (some .boolean)) d [.ref a0, .int a1] M (eI r) ∧ ∃ fs, M[a0]? = some (.inr (10, fs))) : ceS q own d (3 * k + 1) (n_X12_holds (R' := R') f) := by
  intro as M κ κx r h
  unfold n_X12_holds at h
  split at h
  · obtain ⟨p, h1, h2⟩ := Option.bind_eq_some_iff.mp h
    obtain ⟨hc, fs, ha⟩ := hf _ _ _ _ h1
    exact ⟨eI p, fun _ => h2, fun hne => absurd rfl hne, Or.inr (Or.inl ⟨yX12_holds, cX12_holds, 4, (some .boolean), k, 1, _, _, 10, TX12, 76, fs, rfl, rfl, hc, ha, rfl, List.forall_mem_cons.mpr ⟨hl, w_X12_holds⟩, ⟨rfl, by decide +kernel, by decide +kernel, by decide +kernel⟩, rfl, by decide⟩)⟩
  · cases h
-- PatchbayScriptModel.makesBy(II)Z
def T_X12_makesBy : List cRow := [(0, .aload_n 0, 1, 0), (1, .iload_n 2, 2, 0), (2, .iconst (-1), 3, 0), (3, .if_icmp .eq 11, 6, 14), (6, .aload_n 0, 7, 0), (7, .iload_n 2, 8, 0), (8, .invokevirtual 253, 11, 0), (11, .ifCond .eq 7, 14, 18), (14, .iload_n 1, 15, 0), (15, .goto 6, 18, 21), (18, .iload_n 1, 19, 0), (19, .iconst 1, 20, 0), (20, .iadd, 21, 0), (21, .invokevirtual 256, 24, 0), (24, .ireturn, 25, 0)]
theorem T_X12_makesBy_ok : T_X12_makesBy.all (rowB cX12_makesBy) = true := by decide +kernel
def th_X12_makesBy : List (Nat × Nat) := []
def sw_X12_makesBy : List (Nat × (List (Int32 × Nat) × Nat)) := []
theorem sw_X12_makesBy_ok : ∀ q ∈ sw_X12_makesBy, swS cX12_makesBy q := fun _ h => absurd h List.not_mem_nil
def na_X12_makesBy : List (Nat × Nat) := [(760, 2), (769, 2)]
def ca_X12_makesBy {R' : Type} (F : Nat) : List (Nat × cFn R') := [(760, n_X12_holds (f_X12_holds F)), (769, n_X12_makes (f_X12_makes F))]
theorem ca_X12_makesBy_ok {R' : Type} {q : cL} (hst : q.1.stackTraces = false) {D : Nat} (hD : 4 ≤ D) (F : Nat) : ∀ x ∈ (ca_X12_makesBy (R' := R') F), 1 ≤ D ∧ ceS q RX12 (D - 1) x.1 x.2 := List.forall_mem_cons.mpr ⟨⟨by omega, n_X12_holds_ok (k := 253) (lw_good_of (tb_ok 1382 (by decide +kernel)) rfl) (fun a0 a1 M r h => c_X12_holds hst (by omega) F a0 a1 M r h)⟩, List.forall_mem_cons.mpr ⟨⟨by omega, n_X12_makes_ok (k := 256) (lw_good_of (tb_ok 1389 (by decide +kernel)) rfl) (fun a0 a1 M r h => c_X12_makes hst (by omega) F a0 a1 M r h)⟩, fun _ h => absurd h List.not_mem_nil⟩⟩
set_option maxRecDepth 20000 in
theorem e_X12_makesBy_0 (F : Nat) (x0 : Nat) (x1 : Int32) (x2 : Int32) (M : cM) : b_X12_makesBy_0 F x0 x1 x2 M = run T_X12_makesBy P_RX12 false 1 (naL na_X12_makesBy) (caL (ca_X12_makesBy F)) (lkN th_X12_makesBy) (lkN sw_X12_makesBy) krI kxN (spL []) (KL []) 18 0 [some (.ref x0), some (.int x1), some (.int x2)] [] M := rfl
theorem ok_X12_makesBy_0 {X : cCtx} {D : Nat} {r : Int32 × cM} (G : FX X 3 (eI r) cX12_makesBy RX12 1 D) {F : Nat} (hca : ∀ x ∈ (ca_X12_makesBy (R' := Int32 × cM) F), 1 ≤ D ∧ ceS X.1 RX12 (D - 1) x.1 x.2) : ∀ x0 x1 x2 M, f_X12_makesBy_0 F x0 x1 x2 M = some r → WX X 3 (eI r) 0 [some (.ref x0), some (.int x1), some (.int x2)] [] M := by
  intro x0 x1 x2 M h
  exact seg_ok G P_RX12_ok T_X12_makesBy_ok hca (fun _ h => absurd h List.not_mem_nil) sw_X12_makesBy_ok krI_ok (kxN_ok (f := eI)) (fun _ h => absurd h List.not_mem_nil) ((e_X12_makesBy_0 F x0 x1 x2 M).symm.trans h)
theorem c_X12_makesBy {q : cL} (hst : q.1.stackTraces = false) {D : Nat} (hD : 4 ≤ D) (F : Nat) (a0 : Nat) (a1 : Int32) (a2 : Int32) (M : cM) (r : Int32 × cM) (h : f_X12_makesBy F a0 a1 a2 M = some r) : CTx q yX12_makesBy (.code yX12_makesBy cX12_makesBy 3 (some .boolean)) D [.ref a0, .int a1, .int a2] M (eI r) ∧ ∃ fs, M[a0]? = some (.inr (10, fs)) := by
  unfold f_X12_makesBy at h
  split at h
  · next hi => exact ⟨CTx_of (own := RX12) (rk := 1) hst (by decide +kernel) rfl (rfl) (Nat.le_of_ble_eq_true rfl) (fun X hX G => by subst hX; exact ok_X12_makesBy_0 G (ca_X12_makesBy_ok hst hD F) a0 a1 a2 M h), isC_of hi⟩
  · cases h
def n_X12_makesBy {R' : Type} (f : Nat → Int32 → Int32 → cM → Option (Int32 × cM)) : cFn R' := fun as M κ κx => match as with
  | [.ref a0, .int a1, .int a2] => (f a0 a1 a2 M).bind fun p => κ (some (.int p.1)) p.2
  | _ => none
theorem w_X12_makesBy : ∀ w ∈ [Cond.instanceMethod yX12_makesBy, .selects yX12_makesBy.cls yX12_makesBy yX12_makesBy, .initialized yX12_makesBy.cls, .code yX12_makesBy cX12_makesBy 3 (some .boolean)], w ∈ lw_good := List.forall_mem_cons.mpr ⟨lw_good_of (tb_ok 1380 (by decide +kernel)) rfl, List.forall_mem_cons.mpr ⟨lw_good_of (ts_ok 36 (by decide +kernel)) rfl, List.forall_mem_cons.mpr ⟨lw_good_of (tb_ok 11 (by decide +kernel)) rfl, List.forall_mem_cons.mpr ⟨lw_good_of (tb_ok 1381 (by decide +kernel)) rfl, fun _ h => absurd h List.not_mem_nil⟩⟩⟩⟩
theorem n_X12_makesBy_ok {R' : Type} {q : cL} {own : String} {d k : Nat} {f : Nat → Int32 → Int32 → cM → Option (Int32 × cM)} (hl : Cond.methodLink own k yX12_makesBy ∈ lw_good) (hf : ∀ a0 a1 a2 M r, f a0 a1 a2 M = some r → CTx q yX12_makesBy (.code yX12_makesBy cX12_makesBy 3 (some .boolean)) d [.ref a0, .int a1, .int a2] M (eI r) ∧ ∃ fs, M[a0]? = some (.inr (10, fs))) : ceS q own d (3 * k + 1) (n_X12_makesBy (R' := R') f) := by
  intro as M κ κx r h
  unfold n_X12_makesBy at h
  split at h
  · obtain ⟨p, h1, h2⟩ := Option.bind_eq_some_iff.mp h
    obtain ⟨hc, fs, ha⟩ := hf _ _ _ _ _ h1
    exact ⟨eI p, fun _ => h2, fun hne => absurd rfl hne, Or.inr (Or.inl ⟨yX12_makesBy, cX12_makesBy, 3, (some .boolean), k, 2, _, _, 10, TX12, 76, fs, rfl, rfl, hc, ha, rfl, List.forall_mem_cons.mpr ⟨hl, w_X12_makesBy⟩, ⟨rfl, by decide +kernel, by decide +kernel, by decide +kernel⟩, rfl, by decide⟩)⟩
  · cases h
