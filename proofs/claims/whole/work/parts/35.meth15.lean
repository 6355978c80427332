/-! METHODS, part 15 (laid by wip/whole/tools/gen.py) -/
-- PatchbayScriptModel.isAllowed(II)Z
def T_X12_isAllowed : List cRow := [(0, .aload_n 0, 1, 0), (1, .getfield 169, 4, 0), (4, .iload_n 2, 5, 0), (5, .iaload, 6, 0), (6, .iconst (-1), 7, 0), (7, .if_icmp .eq 13, 10, 20), (10, .aload_n 0, 11, 0), (11, .getfield 169, 14, 0), (14, .iload_n 2, 15, 0), (15, .iaload, 16, 0), (16, .iload_n 1, 17, 0), (17, .if_icmp .ne 7, 20, 24), (20, .iconst 1, 21, 0), (21, .goto 4, 24, 25), (24, .iconst 0, 25, 0), (25, .ireturn, 26, 0)]
theorem T_X12_isAllowed_ok : T_X12_isAllowed.all (rowB cX12_isAllowed) = true := by decide +kernel
def th_X12_isAllowed : List (Nat × Nat) := []
def sw_X12_isAllowed : List (Nat × (List (Int32 × Nat) × Nat)) := []
theorem sw_X12_isAllowed_ok : ∀ q ∈ sw_X12_isAllowed, swS cX12_isAllowed q := fun _ h => absurd h List.not_mem_nil
def na_X12_isAllowed : List (Nat × Nat) := []
def ca_X12_isAllowed {R' : Type} (F : Nat) : List (Nat × cFn R') := []
theorem ca_X12_isAllowed_ok {R' : Type} {q : cL} (hst : q.1.stackTraces = false) {D : Nat} (hD : 0 ≤ D) (F : Nat) : ∀ x ∈ (ca_X12_isAllowed (R' := R') F), 1 ≤ D ∧ ceS q RX12 (D - 1) x.1 x.2 := fun _ h => absurd h List.not_mem_nil
set_option maxRecDepth 20000 in
theorem e_X12_isAllowed_0 (F : Nat) (x0 : Nat) (x1 : Int32) (x2 : Int32) (M : cM) : b_X12_isAllowed_0 F x0 x1 x2 M = run T_X12_isAllowed P_RX12 false 1 (naL na_X12_isAllowed) (caL (ca_X12_isAllowed F)) (lkN th_X12_isAllowed) (lkN sw_X12_isAllowed) krI kxN (spL []) (KL []) 19 0 [some (.ref x0), some (.int x1), some (.int x2)] [] M := rfl
theorem ok_X12_isAllowed_0 {X : cCtx} {D : Nat} {r : Int32 × cM} (G : FX X 3 (eI r) cX12_isAllowed RX12 1 D) {F : Nat} (hca : ∀ x ∈ (ca_X12_isAllowed (R' := Int32 × cM) F), 1 ≤ D ∧ ceS X.1 RX12 (D - 1) x.1 x.2) : ∀ x0 x1 x2 M, f_X12_isAllowed_0 F x0 x1 x2 M = some r → WX X 3 (eI r) 0 [some (.ref x0), some (.int x1), some (.int x2)] [] M := by
  intro x0 x1 x2 M h
  exact seg_ok G P_RX12_ok T_X12_isAllowed_ok hca (fun _ h => absurd h List.not_mem_nil) sw_X12_isAllowed_ok krI_ok (kxN_ok (f := eI)) (fun _ h => absurd h List.not_mem_nil) ((e_X12_isAllowed_0 F x0 x1 x2 M).symm.trans h)
theorem c_X12_isAllowed {q : cL} (hst : q.1.stackTraces = false) {D : Nat} (hD : 0 ≤ D) (F : Nat) (a0 : Nat) (a1 : Int32) (a2 : Int32) (M : cM) (r : Int32 × cM) (h : f_X12_isAllowed F a0 a1 a2 M = some r) : CTx q yX12_isAllowed (.code yX12_isAllowed cX12_isAllowed 3 (some .boolean)) D [.ref a0, .int a1, .int a2] M (eI r) ∧ ∃ fs, M[a0]? = some (.inr (10, fs)) := by
  unfold f_X12_isAllowed at h
  split at h
  · next hi => exact ⟨CTx_of (own := RX12) (rk := 1) hst (by decide +kernel) rfl (rfl) (Nat.le_of_ble_eq_true rfl) (fun X hX G => by subst hX; exact ok_X12_isAllowed_0 G (ca_X12_isAllowed_ok hst hD F) a0 a1 a2 M h), isC_of hi⟩
  · cases h
def n_X12_isAllowed {R' : Type} (f : Nat → Int32 → Int32 → cM → Option (Int32 × cM)) : cFn R' := fun as M κ κx => match as with
  | [.ref a0, .int a1, .int a2] => (f a0 a1 a2 M).bind fun p => κ (some (.int p.1)) p.2
  | _ => none
theorem w_X12_isAllowed : ∀ w ∈ [Cond.instanceMethod yX12_isAllowed, .selects yX12_isAllowed.cls yX12_isAllowed yX12_isAllowed, .initialized yX12_isAllowed.cls, .code yX12_isAllowed cX12_isAllowed 3 (some .boolean)], w ∈ lw_good := List.forall_mem_cons.mpr ⟨lw_good_of (tb_ok 1502 (by decide +kernel)) rfl, List.forall_mem_cons.mpr ⟨lw_good_of (ts_ok 55 (by decide +kernel)) rfl, List.forall_mem_cons.mpr ⟨lw_good_of (tb_ok 11 (by decide +kernel)) rfl, List.forall_mem_cons.mpr ⟨lw_good_of (tb_ok 1503 (by decide +kernel)) rfl, fun _ h => absurd h List.not_mem_nil⟩⟩⟩⟩
theorem n_X12_isAllowed_ok {R' : Type} {q : cL} {own : String} {d k : Nat} {f : Nat → Int32 → Int32 → cM → Option (Int32 × cM)} (hl : Cond.methodLink own k yX12_isAllowed ∈ lw_good) (hf : ∀ a0 a1 a2 M r, f a0 a1 a2 M = some r → CTx q yX12_isAllowed (.code yX12_isAllowed cX12_isAllowed 3 (some .boolean)) d [.ref a0, .int a1, .int a2] M (eI r) ∧ ∃ fs, M[a0]? = some (.inr (10, fs))) : ceS q own d (3 * k + 1) (n_X12_isAllowed (R' := R') f) := by
  intro as M κ κx r h
  unfold n_X12_isAllowed at h
  split at h
  · obtain ⟨p, h1, h2⟩ := Option.bind_eq_some_iff.mp h
    obtain ⟨hc, fs, ha⟩ := hf _ _ _ _ _ h1
    exact ⟨eI p, fun _ => h2, fun hne => absurd rfl hne, Or.inr (Or.inl ⟨yX12_isAllowed, cX12_isAllowed, 3, (some .boolean), k, 2, _, _, 10, TX12, 76, fs, rfl, rfl, hc, ha, rfl, List.forall_mem_cons.mpr ⟨hl, w_X12_isAllowed⟩, ⟨rfl, by decide +kernel, by decide +kernel, by decide +kernel⟩, rfl, by decide⟩)⟩
  · cases h
-- PatchbayScriptModel.behind(II)I
def T_X12_behind : List cRow := [(0, .iconst 0, 1, 0), (1, .istore_n 3, 2, 0), (2, .iconst 0, 3, 0), (3, .istore 4, 5, 0), (5, .iload 4, 7, 0), (7, .aload_n 0, 8, 0), (8, .getfield 323, 11, 0), (11, .if_icmp .ge 82, 14, 93), (14, .aload_n 0, 15, 0), (15, .getfield 172, 18, 0), (18, .iconst 4, 19, 0), (19, .iload_n 2, 20, 0), (20, .imul, 21, 0), (21, .iload 4, 23, 0), (23, .iadd, 24, 0), (24, .iaload, 25, 0), (25, .istore 5, 27, 0), (27, .aload_n 0, 28, 0), (28, .getfield 134, 31, 0), (31, .sipush 4000, 34, 0), (34, .aload_n 0, 35, 0), (35, .getfield 146, 38, 0), (38, .iload 4, 40, 0), (40, .iaload, 41, 0), (41, .imul, 42, 0), (42, .iload_n 1, 43, 0), (43, .iadd, 44, 0), (44, .iaload, 45, 0), (45, .iload 5, 47, 0), (47, .ishr, 48, 0), (48, .iconst 1, 49, 0), (49, .iand, 50, 0), (50, .ifCond .ne 5, 53, 55), (53, .iconst (-1), 54, 0), (54, .ireturn, 55, 0), (55, .iload_n 3, 56, 0), (56, .iload 5, 58, 0), (58, .aload_n 0, 59, 0), (59, .getfield 137, 62, 0), (62, .sipush 4000, 65, 0), (65, .aload_n 0, 66, 0), (66, .getfield 146, 69, 0), (69, .iload 4, 71, 0), (71, .iaload, 72, 0), (72, .imul, 73, 0), (73, .iload_n 1, 74, 0), (74, .iadd, 75, 0), (75, .iaload, 76, 0), (76, .iadd, 77, 0), (77, .aload_n 0, 78, 0), (78, .getfield 149, 81, 0), (81, .iload 4, 83, 0), (83, .iaload, 84, 0), (84, .imul, 85, 0), (85, .iadd, 86, 0), (86, .istore_n 3, 87, 0), (87, .iinc 4 1, 90, 0), (90, .goto (-85), 93, 5), (93, .iload_n 3, 94, 0), (94, .ireturn, 95, 0)]
theorem T_X12_behind_ok : T_X12_behind.all (rowB cX12_behind) = true := by decide +kernel
def th_X12_behind : List (Nat × Nat) := []
def sw_X12_behind : List (Nat × (List (Int32 × Nat) × Nat)) := []
theorem sw_X12_behind_ok : ∀ q ∈ sw_X12_behind, swS cX12_behind q := fun _ h => absurd h List.not_mem_nil
def na_X12_behind : List (Nat × Nat) := []
def ca_X12_behind {R' : Type} (F : Nat) : List (Nat × cFn R') := []
theorem ca_X12_behind_ok {R' : Type} {q : cL} (hst : q.1.stackTraces = false) {D : Nat} (hD : 0 ≤ D) (F : Nat) : ∀ x ∈ (ca_X12_behind (R' := R') F), 1 ≤ D ∧ ceS q RX12 (D - 1) x.1 x.2 := fun _ h => absurd h List.not_mem_nil
def kd_X12_behind_5 (g : Nat → Int32 → Int32 → Int32 → Int32 → cM → Option (Int32 × cM)) : cKf (Int32 × cM) := fun vs st M => (lR vs 0).bind fun x0 => (lI vs 1).bind fun x1 => (lI vs 2).bind fun x2 => (lI vs 3).bind fun x3 => (lI vs 4).bind fun x4 => match st with
  | [] => g x0 x1 x2 x3 x4 M
  | _ => none
theorem kf_X12_behind_5 {X : cCtx} {o : cO} {r : Int32 × cM} {g : Nat → Int32 → Int32 → Int32 → Int32 → cM → Option (Int32 × cM)} (hg : ∀ x0 x1 x2 x3 x4 M, g x0 x1 x2 x3 x4 M = some r → WX X 6 o 5 [some (.ref x0), some (.int x1), some (.int x2), some (.int x3), some (.int x4), none] [] M) : ∀ vs st M, kd_X12_behind_5 g vs st M = some r → WX X 6 o 5 vs st M := by
  intro vs st M h
  unfold kd_X12_behind_5 at h
  obtain ⟨x0, h0, h⟩ := Option.bind_eq_some_iff.mp h
  obtain ⟨x1, h1, h⟩ := Option.bind_eq_some_iff.mp h
  obtain ⟨x2, h2, h⟩ := Option.bind_eq_some_iff.mp h
  obtain ⟨x3, h3, h⟩ := Option.bind_eq_some_iff.mp h
  obtain ⟨x4, h4, h⟩ := Option.bind_eq_some_iff.mp h
  split at h
  · exact WX_weak (hg _ _ _ _ _ _ h) rfl ⟨lR_of h0, lI_of h1, lI_of h2, lI_of h3, lI_of h4, trivial⟩
  · cases h
def kd_X12_behind_55 (g : Nat → Int32 → Int32 → Int32 → Int32 → Int32 → cM → Option (Int32 × cM)) : cKf (Int32 × cM) := fun vs st M => (lR vs 0).bind fun x0 => (lI vs 1).bind fun x1 => (lI vs 2).bind fun x2 => (lI vs 3).bind fun x3 => (lI vs 4).bind fun x4 => (lI vs 5).bind fun x5 => match st with
  | [] => g x0 x1 x2 x3 x4 x5 M
  | _ => none
theorem kf_X12_behind_55 {X : cCtx} {o : cO} {r : Int32 × cM} {g : Nat → Int32 → Int32 → Int32 → Int32 → Int32 → cM → Option (Int32 × cM)} (hg : ∀ x0 x1 x2 x3 x4 x5 M, g x0 x1 x2 x3 x4 x5 M = some r → WX X 6 o 55 [some (.ref x0), some (.int x1), some (.int x2), some (.int x3), some (.int x4), some (.int x5)] [] M) : ∀ vs st M, kd_X12_behind_55 g vs st M = some r → WX X 6 o 55 vs st M := by
  intro vs st M h
  unfold kd_X12_behind_55 at h
  obtain ⟨x0, h0, h⟩ := Option.bind_eq_some_iff.mp h
  obtain ⟨x1, h1, h⟩ := Option.bind_eq_some_iff.mp h
  obtain ⟨x2, h2, h⟩ := Option.bind_eq_some_iff.mp h
  obtain ⟨x3, h3, h⟩ := Option.bind_eq_some_iff.mp h
  obtain ⟨x4, h4, h⟩ := Option.bind_eq_some_iff.mp h
  obtain ⟨x5, h5, h⟩ := Option.bind_eq_some_iff.mp h
  split at h
  · exact WX_weak (hg _ _ _ _ _ _ _ h) rfl ⟨lR_of h0, lI_of h1, lI_of h2, lI_of h3, lI_of h4, lI_of h5, trivial⟩
  · cases h
set_option maxRecDepth 20000 in
theorem e_X12_behind_55 (F : Nat) (t5 : Nat → Int32 → Int32 → Int32 → Int32 → cM → Option (Int32 × cM)) (x0 : Nat) (x1 : Int32) (x2 : Int32) (x3 : Int32) (x4 : Int32) (x5 : Int32) (M : cM) : b_X12_behind_55 F t5 x0 x1 x2 x3 x4 x5 M = run T_X12_behind P_RX12 false 0 (naL na_X12_behind) (caL (ca_X12_behind F)) (lkN th_X12_behind) (lkN sw_X12_behind) krI kxN (spL [5]) (KL [(5, kd_X12_behind_5 t5)]) 63 55 [some (.ref x0), some (.int x1), some (.int x2), some (.int x3), some (.int x4), some (.int x5)] [] M := rfl
theorem ok_X12_behind_55 {X : cCtx} {D : Nat} {r : Int32 × cM} (G : FX X 6 (eI r) cX12_behind RX12 0 D) {F : Nat} (hca : ∀ x ∈ (ca_X12_behind (R' := Int32 × cM) F), 1 ≤ D ∧ ceS X.1 RX12 (D - 1) x.1 x.2) (k5 : Nat → Int32 → Int32 → Int32 → Int32 → cM → Option (Int32 × cM)) (hk5 : ∀ x0 x1 x2 x3 x4 M, k5 x0 x1 x2 x3 x4 M = some r → WX X 6 (eI r) 5 [some (.ref x0), some (.int x1), some (.int x2), some (.int x3), some (.int x4), none] [] M) : ∀ x0 x1 x2 x3 x4 x5 M, f_X12_behind_55 F k5 x0 x1 x2 x3 x4 x5 M = some r → WX X 6 (eI r) 55 [some (.ref x0), some (.int x1), some (.int x2), some (.int x3), some (.int x4), some (.int x5)] [] M := by
  intro x0 x1 x2 x3 x4 x5 M h
  exact seg_ok G P_RX12_ok T_X12_behind_ok hca (fun _ h => absurd h List.not_mem_nil) sw_X12_behind_ok krI_ok (kxN_ok (f := eI)) (List.forall_mem_cons.mpr ⟨kf_X12_behind_5 (hk5), fun _ h => absurd h List.not_mem_nil⟩) ((e_X12_behind_55 F (k5) x0 x1 x2 x3 x4 x5 M).symm.trans h)
set_option maxRecDepth 20000 in
theorem e_X12_behind_5 (F : Nat) (t55 : Nat → Int32 → Int32 → Int32 → Int32 → Int32 → cM → Option (Int32 × cM)) (x0 : Nat) (x1 : Int32) (x2 : Int32) (x3 : Int32) (x4 : Int32) (M : cM) : b_X12_behind_5 F t55 x0 x1 x2 x3 x4 M = run T_X12_behind P_RX12 false 0 (naL na_X12_behind) (caL (ca_X12_behind F)) (lkN th_X12_behind) (lkN sw_X12_behind) krI kxN (spL [55]) (KL [(55, kd_X12_behind_55 t55)]) 63 5 [some (.ref x0), some (.int x1), some (.int x2), some (.int x3), some (.int x4), none] [] M := rfl
theorem ok_X12_behind_5 {X : cCtx} {D : Nat} {r : Int32 × cM} (G : FX X 6 (eI r) cX12_behind RX12 0 D) {F : Nat} (hca : ∀ x ∈ (ca_X12_behind (R' := Int32 × cM) F), 1 ≤ D ∧ ceS X.1 RX12 (D - 1) x.1 x.2) (n : Nat) : ∀ x0 x1 x2 x3 x4 M, f_X12_behind_5 F n x0 x1 x2 x3 x4 M = some r → WX X 6 (eI r) 5 [some (.ref x0), some (.int x1), some (.int x2), some (.int x3), some (.int x4), none] [] M := by
  induction n with
  | zero => intro x0 x1 x2 x3 x4 M h; cases h
  | succ n ih =>
    intro x0 x1 x2 x3 x4 M h
    exact seg_ok G P_RX12_ok T_X12_behind_ok hca (fun _ h => absurd h List.not_mem_nil) sw_X12_behind_ok krI_ok (kxN_ok (f := eI)) (List.forall_mem_cons.mpr ⟨kf_X12_behind_55 (ok_X12_behind_55 G hca (f_X12_behind_5 F n) ih), fun _ h => absurd h List.not_mem_nil⟩) ((e_X12_behind_5 F (f_X12_behind_55 F (f_X12_behind_5 F n)) x0 x1 x2 x3 x4 M).symm.trans h)
set_option maxRecDepth 20000 in
theorem e_X12_behind_0 (F : Nat) (t5 : Nat → Int32 → Int32 → Int32 → Int32 → cM → Option (Int32 × cM)) (x0 : Nat) (x1 : Int32) (x2 : Int32) (M : cM) : b_X12_behind_0 F t5 x0 x1 x2 M = run T_X12_behind P_RX12 false 0 (naL na_X12_behind) (caL (ca_X12_behind F)) (lkN th_X12_behind) (lkN sw_X12_behind) krI kxN (spL [5]) (KL [(5, kd_X12_behind_5 t5)]) 63 0 [some (.ref x0), some (.int x1), some (.int x2), none, none, none] [] M := rfl
theorem ok_X12_behind_0 {X : cCtx} {D : Nat} {r : Int32 × cM} (G : FX X 6 (eI r) cX12_behind RX12 0 D) {F : Nat} (hca : ∀ x ∈ (ca_X12_behind (R' := Int32 × cM) F), 1 ≤ D ∧ ceS X.1 RX12 (D - 1) x.1 x.2) : ∀ x0 x1 x2 M, f_X12_behind_0 F x0 x1 x2 M = some r → WX X 6 (eI r) 0 [some (.ref x0), some (.int x1), some (.int x2), none, none, none] [] M := by
  intro x0 x1 x2 M h
  exact seg_ok G P_RX12_ok T_X12_behind_ok hca (fun _ h => absurd h List.not_mem_nil) sw_X12_behind_ok krI_ok (kxN_ok (f := eI)) (List.forall_mem_cons.mpr ⟨kf_X12_behind_5 (ok_X12_behind_5 G hca F), fun _ h => absurd h List.not_mem_nil⟩) ((e_X12_behind_0 F (f_X12_behind_5 F F) x0 x1 x2 M).symm.trans h)
theorem c_X12_behind {q : cL} (hst : q.1.stackTraces = false) {D : Nat} (hD : 0 ≤ D) (F : Nat) (a0 : Nat) (a1 : Int32) (a2 : Int32) (M : cM) (r : Int32 × cM) (h : f_X12_behind F a0 a1 a2 M = some r) : CTx q yX12_behind (.code yX12_behind cX12_behind 6 (some .int)) D [.ref a0, .int a1, .int a2] M (eI r) ∧ ∃ fs, M[a0]? = some (.inr (10, fs)) := by
  unfold f_X12_behind at h
  split at h
  · next hi => exact ⟨CTx_of (own := RX12) (rk := 0) hst (by decide +kernel) rfl (rfl) (Nat.le_of_ble_eq_true rfl) (fun X hX G => by subst hX; exact ok_X12_behind_0 G (ca_X12_behind_ok hst hD F) a0 a1 a2 M h), isC_of hi⟩
  · cases h
def n_X12_behind {R' : Type} (f : Nat → Int32 → Int32 → cM → Option (Int32 × cM)) : cFn R' := fun as M κ κx => match as with
  | [.ref a0, .int a1, .int a2] => (f a0 a1 a2 M).bind fun p => κ (some (.int p.1)) p.2
  | _ => none
theorem w_X12_behind : ∀ w ∈ [Cond.instanceMethod yX12_behind, .selects yX12_behind.cls yX12_behind yX12_behind, .initialized yX12_behind.cls, .code yX12_behind cX12_behind 6 (some .int)], w ∈ lw_good := List.forall_mem_cons.mpr ⟨lw_good_of (tb_ok 1518 (by decide +kernel)) rfl, List.forall_mem_cons.mpr ⟨lw_good_of (ts_ok 59 (by decide +kernel)) rfl, List.forall_mem_cons.mpr ⟨lw_good_of (tb_ok 11 (by decide +kernel)) rfl, List.forall_mem_cons.mpr ⟨lw_good_of (tb_ok 1519 (by decide +kernel)) rfl, fun _ h => absurd h List.not_mem_nil⟩⟩⟩⟩
theorem n_X12_behind_ok {R' : Type} {q : cL} {own : String} {d k : Nat} {f : Nat → Int32 → Int32 → cM → Option (Int32 × cM)} (hl : Cond.methodLink own k yX12_behind ∈ lw_good) (hf : ∀ a0 a1 a2 M r, f a0 a1 a2 M = some r → CTx q yX12_behind (.code yX12_behind cX12_behind 6 (some .int)) d [.ref a0, .int a1, .int a2] M (eI r) ∧ ∃ fs, M[a0]? = some (.inr (10, fs))) : ceS q own d (3 * k + 1) (n_X12_behind (R' := R') f) := by
  intro as M κ κx r h
  unfold n_X12_behind at h
  split at h
  · obtain ⟨p, h1, h2⟩ := Option.bind_eq_some_iff.mp h
    obtain ⟨hc, fs, ha⟩ := hf _ _ _ _ _ h1
    exact ⟨eI p, fun _ => h2, fun hne => absurd rfl hne, Or.inr (Or.inl ⟨yX12_behind, cX12_behind, 6, (some .int), k, 2, _, _, 10, TX12, 76, fs, rfl, rfl, hc, ha, rfl, List.forall_mem_cons.mpr ⟨hl, w_X12_behind⟩, ⟨rfl, by decide +kernel, by decide +kernel, by decide +kernel⟩, rfl, by decide⟩)⟩
  · cases h
-- PatchbayScriptModel.ahead(II)I
def T_X12_ahead : List cRow := [(0, .iconst 0, 1, 0), (1, .istore_n 3, 2, 0), (2, .iconst 0, 3, 0), (3, .istore 4, 5, 0), (5, .iload 4, 7, 0), (7, .aload_n 0, 8, 0), (8, .getfield 323, 11, 0), (11, .if_icmp .ge 93, 14, 104), (14, .iload_n 2, 15, 0), (15, .aload_n 0, 16, 0), (16, .getfield 149, 19, 0), (19, .iload 4, 21, 0), (21, .iaload, 22, 0), (22, .idiv, 23, 0), (23, .aload_n 0, 24, 0), (24, .getfield 152, 27, 0), (27, .iload 4, 29, 0), (29, .iaload, 30, 0), (30, .irem, 31, 0), (31, .aload_n 0, 32, 0), (32, .getfield 137, 35, 0), (35, .sipush 4000, 38, 0), (38, .aload_n 0, 39, 0), (39, .getfield 146, 42, 0), (42, .iload 4, 44, 0), (44, .iaload, 45, 0), (45, .imul, 46, 0), (46, .iload_n 1, 47, 0), (47, .iadd, 48, 0), (48, .iaload, 49, 0), (49, .isub, 50, 0), (50, .istore 5, 52, 0), (52, .iload 5, 54, 0), (54, .ifCond .lt 29, 57, 83), (57, .aload_n 0, 58, 0), (58, .getfield 134, 61, 0), (61, .sipush 4000, 64, 0), (64, .aload_n 0, 65, 0), (65, .getfield 146, 68, 0), (68, .iload 4, 70, 0), (70, .iaload, 71, 0), (71, .imul, 72, 0), (72, .iload_n 1, 73, 0), (73, .iadd, 74, 0), (74, .iaload, 75, 0), (75, .iload 5, 77, 0), (77, .ishr, 78, 0), (78, .iconst 1, 79, 0), (79, .iand, 80, 0), (80, .ifCond .ne 5, 83, 85), (83, .iconst (-1), 84, 0), (84, .ireturn, 85, 0), (85, .iload_n 3, 86, 0), (86, .iload 5, 88, 0), (88, .aload_n 0, 89, 0), (89, .getfield 149, 92, 0), (92, .iload 4, 94, 0), (94, .iaload, 95, 0), (95, .imul, 96, 0), (96, .iadd, 97, 0), (97, .istore_n 3, 98, 0), (98, .iinc 4 1, 101, 0), (101, .goto (-96), 104, 5), (104, .iload_n 3, 105, 0), (105, .ireturn, 106, 0)]
theorem T_X12_ahead_ok : T_X12_ahead.all (rowB cX12_ahead) = true := by decide +kernel
def th_X12_ahead : List (Nat × Nat) := []
def sw_X12_ahead : List (Nat × (List (Int32 × Nat) × Nat)) := []
theorem sw_X12_ahead_ok : ∀ q ∈ sw_X12_ahead, swS cX12_ahead q := fun _ h => absurd h List.not_mem_nil
def na_X12_ahead : List (Nat × Nat) := []
def ca_X12_ahead {R' : Type} (F : Nat) : List (Nat × cFn R') := []
theorem ca_X12_ahead_ok {R' : Type} {q : cL} (hst : q.1.stackTraces = false) {D : Nat} (hD : 0 ≤ D) (F : Nat) : ∀ x ∈ (ca_X12_ahead (R' := R') F), 1 ≤ D ∧ ceS q RX12 (D - 1) x.1 x.2 := fun _ h => absurd h List.not_mem_nil
def kd_X12_ahead_5 (g : Nat → Int32 → Int32 → Int32 → Int32 → cM → Option (Int32 × cM)) : cKf (Int32 × cM) := fun vs st M => (lR vs 0).bind fun x0 => (lI vs 1).bind fun x1 => (lI vs 2).bind fun x2 => (lI vs 3).bind fun x3 => (lI vs 4).bind fun x4 => match st with
  | [] => g x0 x1 x2 x3 x4 M
  | _ => none
theorem kf_X12_ahead_5 {X : cCtx} {o : cO} {r : Int32 × cM} {g : Nat → Int32 → Int32 → Int32 → Int32 → cM → Option (Int32 × cM)} (hg : ∀ x0 x1 x2 x3 x4 M, g x0 x1 x2 x3 x4 M = some r → WX X 6 o 5 [some (.ref x0), some (.int x1), some (.int x2), some (.int x3), some (.int x4), none] [] M) : ∀ vs st M, kd_X12_ahead_5 g vs st M = some r → WX X 6 o 5 vs st M := by
  intro vs st M h
  unfold kd_X12_ahead_5 at h
  obtain ⟨x0, h0, h⟩ := Option.bind_eq_some_iff.mp h
  obtain ⟨x1, h1, h⟩ := Option.bind_eq_some_iff.mp h
  obtain ⟨x2, h2, h⟩ := Option.bind_eq_some_iff.mp h
  obtain ⟨x3, h3, h⟩ := Option.bind_eq_some_iff.mp h
  obtain ⟨x4, h4, h⟩ := Option.bind_eq_some_iff.mp h
  split at h
  · exact WX_weak (hg _ _ _ _ _ _ h) rfl ⟨lR_of h0, lI_of h1, lI_of h2, lI_of h3, lI_of h4, trivial⟩
  · cases h
def kd_X12_ahead_52 (g : Nat → Int32 → Int32 → Int32 → Int32 → Int32 → cM → Option (Int32 × cM)) : cKf (Int32 × cM) := fun vs st M => (lR vs 0).bind fun x0 => (lI vs 1).bind fun x1 => (lI vs 2).bind fun x2 => (lI vs 3).bind fun x3 => (lI vs 4).bind fun x4 => (lI vs 5).bind fun x5 => match st with
  | [] => g x0 x1 x2 x3 x4 x5 M
  | _ => none
theorem kf_X12_ahead_52 {X : cCtx} {o : cO} {r : Int32 × cM} {g : Nat → Int32 → Int32 → Int32 → Int32 → Int32 → cM → Option (Int32 × cM)} (hg : ∀ x0 x1 x2 x3 x4 x5 M, g x0 x1 x2 x3 x4 x5 M = some r → WX X 6 o 52 [some (.ref x0), some (.int x1), some (.int x2), some (.int x3), some (.int x4), some (.int x5)] [] M) : ∀ vs st M, kd_X12_ahead_52 g vs st M = some r → WX X 6 o 52 vs st M := by
  intro vs st M h
  unfold kd_X12_ahead_52 at h
  obtain ⟨x0, h0, h⟩ := Option.bind_eq_some_iff.mp h
  obtain ⟨x1, h1, h⟩ := Option.bind_eq_some_iff.mp h
  obtain ⟨x2, h2, h⟩ := Option.bind_eq_some_iff.mp h
  obtain ⟨x3, h3, h⟩ := Option.bind_eq_some_iff.mp h
  obtain ⟨x4, h4, h⟩ := Option.bind_eq_some_iff.mp h
  obtain ⟨x5, h5, h⟩ := Option.bind_eq_some_iff.mp h
  split at h
  · exact WX_weak (hg _ _ _ _ _ _ _ h) rfl ⟨lR_of h0, lI_of h1, lI_of h2, lI_of h3, lI_of h4, lI_of h5, trivial⟩
  · cases h
set_option maxRecDepth 20000 in
theorem e_X12_ahead_52 (F : Nat) (t5 : Nat → Int32 → Int32 → Int32 → Int32 → cM → Option (Int32 × cM)) (x0 : Nat) (x1 : Int32) (x2 : Int32) (x3 : Int32) (x4 : Int32) (x5 : Int32) (M : cM) : b_X12_ahead_52 F t5 x0 x1 x2 x3 x4 x5 M = run T_X12_ahead P_RX12 false 0 (naL na_X12_ahead) (caL (ca_X12_ahead F)) (lkN th_X12_ahead) (lkN sw_X12_ahead) krI kxN (spL [5]) (KL [(5, kd_X12_ahead_5 t5)]) 68 52 [some (.ref x0), some (.int x1), some (.int x2), some (.int x3), some (.int x4), some (.int x5)] [] M := rfl
theorem ok_X12_ahead_52 {X : cCtx} {D : Nat} {r : Int32 × cM} (G : FX X 6 (eI r) cX12_ahead RX12 0 D) {F : Nat} (hca : ∀ x ∈ (ca_X12_ahead (R' := Int32 × cM) F), 1 ≤ D ∧ ceS X.1 RX12 (D - 1) x.1 x.2) (k5 : Nat → Int32 → Int32 → Int32 → Int32 → cM → Option (Int32 × cM)) (hk5 : ∀ x0 x1 x2 x3 x4 M, k5 x0 x1 x2 x3 x4 M = some r → WX X 6 (eI r) 5 [some (.ref x0), some (.int x1), some (.int x2), some (.int x3), some (.int x4), none] [] M) : ∀ x0 x1 x2 x3 x4 x5 M, f_X12_ahead_52 F k5 x0 x1 x2 x3 x4 x5 M = some r → WX X 6 (eI r) 52 [some (.ref x0), some (.int x1), some (.int x2), some (.int x3), some (.int x4), some (.int x5)] [] M := by
  intro x0 x1 x2 x3 x4 x5 M h
  exact seg_ok G P_RX12_ok T_X12_ahead_ok hca (fun _ h => absurd h List.not_mem_nil) sw_X12_ahead_ok krI_ok (kxN_ok (f := eI)) (List.forall_mem_cons.mpr ⟨kf_X12_ahead_5 (hk5), fun _ h => absurd h List.not_mem_nil⟩) ((e_X12_ahead_52 F (k5) x0 x1 x2 x3 x4 x5 M).symm.trans h)
set_option maxRecDepth 20000 in
theorem e_X12_ahead_5 (F : Nat) (t52 : Nat → Int32 → Int32 → Int32 → Int32 → Int32 → cM → Option (Int32 × cM)) (x0 : Nat) (x1 : Int32) (x2 : Int32) (x3 : Int32) (x4 : Int32) (M : cM) : b_X12_ahead_5 F t52 x0 x1 x2 x3 x4 M = run T_X12_ahead P_RX12 false 0 (naL na_X12_ahead) (caL (ca_X12_ahead F)) (lkN th_X12_ahead) (lkN sw_X12_ahead) krI kxN (spL [52]) (KL [(52, kd_X12_ahead_52 t52)]) 68 5 [some (.ref x0), some (.int x1), some (.int x2), some (.int x3), some (.int x4), none] [] M := rfl
theorem ok_X12_ahead_5 {X : cCtx} {D : Nat} {r : Int32 × cM} (G : FX X 6 (eI r) cX12_ahead RX12 0 D) {F : Nat} (hca : ∀ x ∈ (ca_X12_ahead (R' := Int32 × cM) F), 1 ≤ D ∧ ceS X.1 RX12 (D - 1) x.1 x.2) (n : Nat) : ∀ x0 x1 x2 x3 x4 M, f_X12_ahead_5 F n x0 x1 x2 x3 x4 M = some r → WX X 6 (eI r) 5 [some (.ref x0), some (.int x1), some (.int x2), some (.int x3), some (.int x4), none] [] M := by
  induction n with
  | zero => intro x0 x1 x2 x3 x4 M h; cases h
  | succ n ih =>
    intro x0 x1 x2 x3 x4 M h
    exact seg_ok G P_RX12_ok T_X12_ahead_ok hca (fun _ h => absurd h List.not_mem_nil) sw_X12_ahead_ok krI_ok (kxN_ok (f := eI)) (List.forall_mem_cons.mpr ⟨kf_X12_ahead_52 (ok_X12_ahead_52 G hca (f_X12_ahead_5 F n) ih), fun _ h => absurd h List.not_mem_nil⟩) ((e_X12_ahead_5 F (f_X12_ahead_52 F (f_X12_ahead_5 F n)) x0 x1 x2 x3 x4 M).symm.trans h)
set_option maxRecDepth 20000 in
theorem e_X12_ahead_0 (F : Nat) (t5 : Nat → Int32 → Int32 → Int32 → Int32 → cM → Option (Int32 × cM)) (x0 : Nat) (x1 : Int32) (x2 : Int32) (M : cM) : b_X12_ahead_0 F t5 x0 x1 x2 M = run T_X12_ahead P_RX12 false 0 (naL na_X12_ahead) (caL (ca_X12_ahead F)) (lkN th_X12_ahead) (lkN sw_X12_ahead) krI kxN (spL [5]) (KL [(5, kd_X12_ahead_5 t5)]) 68 0 [some (.ref x0), some (.int x1), some (.int x2), none, none, none] [] M := rfl
theorem ok_X12_ahead_0 {X : cCtx} {D : Nat} {r : Int32 × cM} (G : FX X 6 (eI r) cX12_ahead RX12 0 D) {F : Nat} (hca : ∀ x ∈ (ca_X12_ahead (R' := Int32 × cM) F), 1 ≤ D ∧ ceS X.1 RX12 (D - 1) x.1 x.2) : ∀ x0 x1 x2 M, f_X12_ahead_0 F x0 x1 x2 M = some r → WX X 6 (eI r) 0 [some (.ref x0), some (.int x1), some (.int x2), none, none, none] [] M := by
  intro x0 x1 x2 M h
  exact seg_ok G P_RX12_ok T_X12_ahead_ok hca (fun _ h => absurd h List.not_mem_nil) sw_X12_ahead_ok krI_ok (kxN_ok (f := eI)) (List.forall_mem_cons.mpr ⟨kf_X12_ahead_5 (ok_X12_ahead_5 G hca F), fun _ h => absurd h List.not_mem_nil⟩) ((e_X12_ahead_0 F (f_X12_ahead_5 F F) x0 x1 x2 M).symm.trans h)
theorem c_X12_ahead {q : cL} (hst : q.1.stackTraces = false) {D : Nat} (hD : 0 ≤ D) (F : Nat) (a0 : Nat) (a1 : Int32) (a2 : Int32) (M : cM) (r : Int32 × cM) (h : f_X12_ahead F a0 a1 a2 M = some r) : CTx q yX12_ahead (.code yX12_ahead cX12_ahead 6 (some .int)) D [.ref a0, .int a1, .int a2] M (eI r) ∧ ∃ fs, M[a0]? = some (.inr (10, fs)) := by
  unfold f_X12_ahead at h
  split at h
  · next hi => exact ⟨CTx_of (own := RX12) (rk := 0) hst (by decide +kernel) rfl (rfl) (Nat.le_of_ble_eq_true rfl) (fun X hX G => by subst hX; exact ok_X12_ahead_0 G (ca_X12_ahead_ok hst hD F) a0 a1 a2 M h), isC_of hi⟩
  · cases h
def n_X12_ahead {R' : Type} (f : Nat → Int32 → Int32 → cM → Option (Int32 × cM)) : cFn R' := fun as M κ κx => match as with
  | [.ref a0, .int a1, .int a2] => (f a0 a1 a2 M).bind fun p => κ (some (.int p.1)) p.2
  | _ => none
theorem w_X12_ahead : ∀ w ∈ [Cond.instanceMethod yX12_ahead, .selects yX12_ahead.cls yX12_ahead yX12_ahead, .initialized yX12_ahead.cls, .code yX12_ahead cX12_ahead 6 (some .int)], w ∈ lw_good := List.forall_mem_cons.mpr ⟨lw_good_of (tb_ok 1506 (by decide +kernel)) rfl, List.forall_mem_cons.mpr ⟨lw_good_of (ts_ok 56 (by decide +kernel)) rfl, List.forall_mem_cons.mpr ⟨lw_good_of (tb_ok 11 (by decide +kernel)) rfl, List.forall_mem_cons.mpr ⟨lw_good_of (tb_ok 1507 (by decide +kernel)) rfl, fun _ h => absurd h List.not_mem_nil⟩⟩⟩⟩
theorem n_X12_ahead_ok {R' : Type} {q : cL} {own : String} {d k : Nat} {f : Nat → Int32 → Int32 → cM → Option (Int32 × cM)} (hl : Cond.methodLink own k yX12_ahead ∈ lw_good) (hf : ∀ a0 a1 a2 M r, f a0 a1 a2 M = some r → CTx q yX12_ahead (.code yX12_ahead cX12_ahead 6 (some .int)) d [.ref a0, .int a1, .int a2] M (eI r) ∧ ∃ fs, M[a0]? = some (.inr (10, fs))) : ceS q own d (3 * k + 1) (n_X12_ahead (R' := R') f) := by
  intro as M κ κx r h
  unfold n_X12_ahead at h
  split at h
  · obtain ⟨p, h1, h2⟩ := Option.bind_eq_some_iff.mp h
    obtain ⟨hc, fs, ha⟩ := hf _ _ _ _ _ h1
    exact ⟨eI p, fun _ => h2, fun hne => absurd rfl hne, Or.inr (Or.inl ⟨yX12_ahead, cX12_ahead, 6, (some .int), k, 2, _, _, 10, TX12, 76, fs, rfl, rfl, hc, ha, rfl, List.forall_mem_cons.mpr ⟨hl, w_X12_ahead⟩, ⟨rfl, by decide +kernel, by decide +kernel, by decide +kernel⟩, rfl, by decide⟩)⟩
  · cases h
-- PatchbayScriptModel.goesTo(II)V
def T_X12_goesTo : List cRow := [(0, .iconst 0, 1, 0), (1, .istore_n 3, 2, 0), (2, .iload_n 3, 3, 0), (3, .aload_n 0, 4, 0), (4, .getfield 323, 7, 0), (7, .if_icmp .ge 34, 10, 41), (10, .aload_n 0, 11, 0), (11, .getfield 172, 14, 0), (14, .iconst 4, 15, 0), (15, .iload_n 1, 16, 0), (16, .imul, 17, 0), (17, .iload_n 3, 18, 0), (18, .iadd, 19, 0), (19, .iload_n 2, 20, 0), (20, .aload_n 0, 21, 0), (21, .getfield 149, 24, 0), (24, .iload_n 3, 25, 0), (25, .iaload, 26, 0), (26, .idiv, 27, 0), (27, .aload_n 0, 28, 0), (28, .getfield 152, 31, 0), (31, .iload_n 3, 32, 0), (32, .iaload, 33, 0), (33, .irem, 34, 0), (34, .iastore, 35, 0), (35, .iinc 3 1, 38, 0), (38, .goto (-36), 41, 2), (41, .return_, 42, 0)]
theorem T_X12_goesTo_ok : T_X12_goesTo.all (rowB cX12_goesTo) = true := by decide +kernel
def th_X12_goesTo : List (Nat × Nat) := []
def sw_X12_goesTo : List (Nat × (List (Int32 × Nat) × Nat)) := []
theorem sw_X12_goesTo_ok : ∀ q ∈ sw_X12_goesTo, swS cX12_goesTo q := fun _ h => absurd h List.not_mem_nil
def na_X12_goesTo : List (Nat × Nat) := []
def ca_X12_goesTo {R' : Type} (F : Nat) : List (Nat × cFn R') := []
theorem ca_X12_goesTo_ok {R' : Type} {q : cL} (hst : q.1.stackTraces = false) {D : Nat} (hD : 0 ≤ D) (F : Nat) : ∀ x ∈ (ca_X12_goesTo (R' := R') F), 1 ≤ D ∧ ceS q RX12 (D - 1) x.1 x.2 := fun _ h => absurd h List.not_mem_nil
def kd_X12_goesTo_2 (g : Nat → Int32 → Int32 → Int32 → cM → Option (cM)) : cKf (cM) := fun vs st M => (lR vs 0).bind fun x0 => (lI vs 1).bind fun x1 => (lI vs 2).bind fun x2 => (lI vs 3).bind fun x3 => match st with
  | [] => g x0 x1 x2 x3 M
  | _ => none
theorem kf_X12_goesTo_2 {X : cCtx} {o : cO} {r : cM} {g : Nat → Int32 → Int32 → Int32 → cM → Option (cM)} (hg : ∀ x0 x1 x2 x3 M, g x0 x1 x2 x3 M = some r → WX X 4 o 2 [some (.ref x0), some (.int x1), some (.int x2), some (.int x3)] [] M) : ∀ vs st M, kd_X12_goesTo_2 g vs st M = some r → WX X 4 o 2 vs st M := by
  intro vs st M h
  unfold kd_X12_goesTo_2 at h
  obtain ⟨x0, h0, h⟩ := Option.bind_eq_some_iff.mp h
  obtain ⟨x1, h1, h⟩ := Option.bind_eq_some_iff.mp h
  obtain ⟨x2, h2, h⟩ := Option.bind_eq_some_iff.mp h
  obtain ⟨x3, h3, h⟩ := Option.bind_eq_some_iff.mp h
  split at h
  · exact WX_weak (hg _ _ _ _ _ h) rfl ⟨lR_of h0, lI_of h1, lI_of h2, lI_of h3, trivial⟩
  · cases h
set_option maxRecDepth 20000 in
theorem e_X12_goesTo_2 (F : Nat) (t2 : Nat → Int32 → Int32 → Int32 → cM → Option (cM)) (x0 : Nat) (x1 : Int32) (x2 : Int32) (x3 : Int32) (M : cM) : b_X12_goesTo_2 F t2 x0 x1 x2 x3 M = run T_X12_goesTo P_RX12 false 5 (naL na_X12_goesTo) (caL (ca_X12_goesTo F)) (lkN th_X12_goesTo) (lkN sw_X12_goesTo) krV kxN (spL [2]) (KL [(2, kd_X12_goesTo_2 t2)]) 31 2 [some (.ref x0), some (.int x1), some (.int x2), some (.int x3)] [] M := rfl
theorem ok_X12_goesTo_2 {X : cCtx} {D : Nat} {r : cM} (G : FX X 4 (eV r) cX12_goesTo RX12 5 D) {F : Nat} (hca : ∀ x ∈ (ca_X12_goesTo (R' := cM) F), 1 ≤ D ∧ ceS X.1 RX12 (D - 1) x.1 x.2) (n : Nat) : ∀ x0 x1 x2 x3 M, f_X12_goesTo_2 F n x0 x1 x2 x3 M = some r → WX X 4 (eV r) 2 [some (.ref x0), some (.int x1), some (.int x2), some (.int x3)] [] M := by
  induction n with
  | zero => intro x0 x1 x2 x3 M h; cases h
  | succ n ih =>
    intro x0 x1 x2 x3 M h
    exact seg_ok G P_RX12_ok T_X12_goesTo_ok hca (fun _ h => absurd h List.not_mem_nil) sw_X12_goesTo_ok krV_ok (kxN_ok (f := eV)) (List.forall_mem_cons.mpr ⟨kf_X12_goesTo_2 (ih), fun _ h => absurd h List.not_mem_nil⟩) ((e_X12_goesTo_2 F (f_X12_goesTo_2 F n) x0 x1 x2 x3 M).symm.trans h)
set_option maxRecDepth 20000 in
theorem e_X12_goesTo_0 (F : Nat) (t2 : Nat → Int32 → Int32 → Int32 → cM → Option (cM)) (x0 : Nat) (x1 : Int32) (x2 : Int32) (M : cM) : b_X12_goesTo_0 F t2 x0 x1 x2 M = run T_X12_goesTo P_RX12 false 5 (naL na_X12_goesTo) (caL (ca_X12_goesTo F)) (lkN th_X12_goesTo) (lkN sw_X12_goesTo) krV kxN (spL [2]) (KL [(2, kd_X12_goesTo_2 t2)]) 31 0 [some (.ref x0), some (.int x1), some (.int x2), none] [] M := rfl
theorem ok_X12_goesTo_0 {X : cCtx} {D : Nat} {r : cM} (G : FX X 4 (eV r) cX12_goesTo RX12 5 D) {F : Nat} (hca : ∀ x ∈ (ca_X12_goesTo (R' := cM) F), 1 ≤ D ∧ ceS X.1 RX12 (D - 1) x.1 x.2) : ∀ x0 x1 x2 M, f_X12_goesTo_0 F x0 x1 x2 M = some r → WX X 4 (eV r) 0 [some (.ref x0), some (.int x1), some (.int x2), none] [] M := by
  intro x0 x1 x2 M h
  exact seg_ok G P_RX12_ok T_X12_goesTo_ok hca (fun _ h => absurd h List.not_mem_nil) sw_X12_goesTo_ok krV_ok (kxN_ok (f := eV)) (List.forall_mem_cons.mpr ⟨kf_X12_goesTo_2 (ok_X12_goesTo_2 G hca F), fun _ h => absurd h List.not_mem_nil⟩) ((e_X12_goesTo_0 F (f_X12_goesTo_2 F F) x0 x1 x2 M).symm.trans h)
theorem c_X12_goesTo {q : cL} (hst : q.1.stackTraces = false) {D : Nat} (hD : 0 ≤ D) (F : Nat) (a0 : Nat) (a1 : Int32) (a2 : Int32) (M : cM) (r : cM) (h : f_X12_goesTo F a0 a1 a2 M = some r) : CTx q yX12_goesTo (.code yX12_goesTo cX12_goesTo 4 none) D [.ref a0, .int a1, .int a2] M (eV r) ∧ ∃ fs, M[a0]? = some (.inr (10, fs)) := by
  unfold f_X12_goesTo at h
  split at h
  · next hi => exact ⟨CTx_of (own := RX12) (rk := 5) hst (by decide +kernel) rfl (rfl) (Nat.le_of_ble_eq_true rfl) (fun X hX G => by subst hX; exact ok_X12_goesTo_0 G (ca_X12_goesTo_ok hst hD F) a0 a1 a2 M h), isC_of hi⟩
  · cases h
def n_X12_goesTo {R' : Type} (f : Nat → Int32 → Int32 → cM → Option (cM)) : cFn R' := fun as M κ κx => match as with
  | [.ref a0, .int a1, .int a2] => (f a0 a1 a2 M).bind fun p => κ none p
  | _ => none
theorem w_X12_goesTo : ∀ w ∈ [Cond.instanceMethod yX12_goesTo, .selects yX12_goesTo.cls yX12_goesTo yX12_goesTo, .initialized yX12_goesTo.cls, .code yX12_goesTo cX12_goesTo 4 none], w ∈ lw_good := List.forall_mem_cons.mpr ⟨lw_good_of (tb_ok 1510 (by decide +kernel)) rfl, List.forall_mem_cons.mpr ⟨lw_good_of (ts_ok 57 (by decide +kernel)) rfl, List.forall_mem_cons.mpr ⟨lw_good_of (tb_ok 11 (by decide +kernel)) rfl, List.forall_mem_cons.mpr ⟨lw_good_of (tb_ok 1511 (by decide +kernel)) rfl, fun _ h => absurd h List.not_mem_nil⟩⟩⟩⟩
theorem n_X12_goesTo_ok {R' : Type} {q : cL} {own : String} {d k : Nat} {f : Nat → Int32 → Int32 → cM → Option (cM)} (hl : Cond.methodLink own k yX12_goesTo ∈ lw_good) (hf : ∀ a0 a1 a2 M r, f a0 a1 a2 M = some r → CTx q yX12_goesTo (.code yX12_goesTo cX12_goesTo 4 none) d [.ref a0, .int a1, .int a2] M (eV r) ∧ ∃ fs, M[a0]? = some (.inr (10, fs))) : ceS q own d (3 * k + 1) (n_X12_goesTo (R' := R') f) := by
  intro as M κ κx r h
  unfold n_X12_goesTo at h
  split at h
  · obtain ⟨p, h1, h2⟩ := Option.bind_eq_some_iff.mp h
    obtain ⟨hc, fs, ha⟩ := hf _ _ _ _ _ h1
    exact ⟨eV p, fun _ => h2, fun hne => absurd rfl hne, Or.inr (Or.inl ⟨yX12_goesTo, cX12_goesTo, 4, none, k, 2, _, _, 10, TX12, 76, fs, rfl, rfl, hc, ha, rfl, List.forall_mem_cons.mpr ⟨hl, w_X12_goesTo⟩, ⟨rfl, by decide +kernel, by decide +kernel, by decide +kernel⟩, rfl, by decide⟩)⟩
  · cases h
-- PatchbayScriptModel.threeFrom(II)J
def T_X12_threeFrom : List cRow := [(0, .lconst 0, 1, 0), (1, .lstore_n 3, 2, 0), (2, .iconst 0, 3, 0), (3, .istore 5, 5, 0), (5, .iload 5, 7, 0), (7, .aload_n 0, 8, 0), (8, .getfield 329, 11, 0), (11, .if_icmp .ge 78, 14, 89), (14, .aload_n 0, 15, 0), (15, .aload_n 0, 16, 0), (16, .getfield 143, 19, 0), (19, .iload 5, 21, 0), (21, .iaload, 22, 0), (22, .iload_n 2, 23, 0), (23, .invokevirtual 332, 26, 0), (26, .ifCond .eq 18, 29, 44), (29, .aload_n 0, 30, 0), (30, .aload_n 0, 31, 0), (31, .getfield 143, 34, 0), (34, .iload 5, 36, 0), (36, .iaload, 37, 0), (37, .iload_n 1, 38, 0), (38, .invokevirtual 335, 41, 0), (41, .goto 4, 44, 45), (44, .iconst (-1), 45, 0), (45, .istore 6, 47, 0), (47, .lload_n 3, 48, 0), (48, .iload 6, 50, 0), (50, .iconst (-1), 51, 0), (51, .if_icmp .ne 7, 54, 58), (54, .lconst 0, 55, 0), (55, .goto 26, 58, 81), (58, .aload_n 0, 59, 0), (59, .getfield 159, 62, 0), (62, .iload 6, 64, 0), (64, .iaload, 65, 0), (65, .i2l, 66, 0), (66, .aload_n 0, 67, 0), (67, .getfield 140, 70, 0), (70, .aload_n 0, 71, 0), (71, .getfield 143, 74, 0), (74, .iload 5, 76, 0), (76, .iaload, 77, 0), (77, .iaload, 78, 0), (78, .iconst 4, 79, 0), (79, .isub, 80, 0), (80, .lshl, 81, 0), (81, .lor, 82, 0), (82, .lstore_n 3, 83, 0), (83, .iinc 5 1, 86, 0), (86, .goto (-81), 89, 5), (89, .lload_n 3, 90, 0), (90, .lreturn, 91, 0)]
theorem T_X12_threeFrom_ok : T_X12_threeFrom.all (rowB cX12_threeFrom) = true := by decide +kernel
def th_X12_threeFrom : List (Nat × Nat) := []
def sw_X12_threeFrom : List (Nat × (List (Int32 × Nat) × Nat)) := []
theorem sw_X12_threeFrom_ok : ∀ q ∈ sw_X12_threeFrom, swS cX12_threeFrom q := fun _ h => absurd h List.not_mem_nil
def na_X12_threeFrom : List (Nat × Nat) := [(997, 3), (1006, 3)]
def ca_X12_threeFrom {R' : Type} (F : Nat) : List (Nat × cFn R') := [(997, n_X12_isAllowed (f_X12_isAllowed F)), (1006, n_X12_behind (f_X12_behind F))]
theorem ca_X12_threeFrom_ok {R' : Type} {q : cL} (hst : q.1.stackTraces = false) {D : Nat} (hD : 1 ≤ D) (F : Nat) : ∀ x ∈ (ca_X12_threeFrom (R' := R') F), 1 ≤ D ∧ ceS q RX12 (D - 1) x.1 x.2 := List.forall_mem_cons.mpr ⟨⟨by omega, n_X12_isAllowed_ok (k := 332) (lw_good_of (tb_ok 1500 (by decide +kernel)) rfl) (fun a0 a1 a2 M r h => c_X12_isAllowed hst (by omega) F a0 a1 a2 M r h)⟩, List.forall_mem_cons.mpr ⟨⟨by omega, n_X12_behind_ok (k := 335) (lw_good_of (tb_ok 1516 (by decide +kernel)) rfl) (fun a0 a1 a2 M r h => c_X12_behind hst (by omega) F a0 a1 a2 M r h)⟩, fun _ h => absurd h List.not_mem_nil⟩⟩
def kd_X12_threeFrom_5 (g : Nat → Int32 → Int32 → Int64 → Int32 → cM → Option (Int64 × cM)) : cKf (Int64 × cM) := fun vs st M => (lR vs 0).bind fun x0 => (lI vs 1).bind fun x1 => (lI vs 2).bind fun x2 => (lJ vs 3).bind fun x3 => (lI vs 5).bind fun x5 => match st with
  | [] => g x0 x1 x2 x3 x5 M
  | _ => none
theorem kf_X12_threeFrom_5 {X : cCtx} {o : cO} {r : Int64 × cM} {g : Nat → Int32 → Int32 → Int64 → Int32 → cM → Option (Int64 × cM)} (hg : ∀ x0 x1 x2 x3 x5 M, g x0 x1 x2 x3 x5 M = some r → WX X 7 o 5 [some (.ref x0), some (.int x1), some (.int x2), some (.long x3), none, some (.int x5), none] [] M) : ∀ vs st M, kd_X12_threeFrom_5 g vs st M = some r → WX X 7 o 5 vs st M := by
  intro vs st M h
  unfold kd_X12_threeFrom_5 at h
  obtain ⟨x0, h0, h⟩ := Option.bind_eq_some_iff.mp h
  obtain ⟨x1, h1, h⟩ := Option.bind_eq_some_iff.mp h
  obtain ⟨x2, h2, h⟩ := Option.bind_eq_some_iff.mp h
  obtain ⟨x3, h3, h⟩ := Option.bind_eq_some_iff.mp h
  obtain ⟨x5, h5, h⟩ := Option.bind_eq_some_iff.mp h
  split at h
  · exact WX_weak (hg _ _ _ _ _ _ h) rfl ⟨lR_of h0, lI_of h1, lI_of h2, lJ_of h3, lI_of h5, trivial⟩
  · cases h
def kd_X12_threeFrom_45 (g : Nat → Int32 → Int32 → Int64 → Int32 → Int32 → cM → Option (Int64 × cM)) : cKf (Int64 × cM) := fun vs st M => (lR vs 0).bind fun x0 => (lI vs 1).bind fun x1 => (lI vs 2).bind fun x2 => (lJ vs 3).bind fun x3 => (lI vs 5).bind fun x5 => match st with
  | [.int s0] => g x0 x1 x2 x3 x5 s0 M
  | _ => none
theorem kf_X12_threeFrom_45 {X : cCtx} {o : cO} {r : Int64 × cM} {g : Nat → Int32 → Int32 → Int64 → Int32 → Int32 → cM → Option (Int64 × cM)} (hg : ∀ x0 x1 x2 x3 x5 s0 M, g x0 x1 x2 x3 x5 s0 M = some r → WX X 7 o 45 [some (.ref x0), some (.int x1), some (.int x2), some (.long x3), none, some (.int x5), none] [.int s0] M) : ∀ vs st M, kd_X12_threeFrom_45 g vs st M = some r → WX X 7 o 45 vs st M := by
  intro vs st M h
  unfold kd_X12_threeFrom_45 at h
  obtain ⟨x0, h0, h⟩ := Option.bind_eq_some_iff.mp h
  obtain ⟨x1, h1, h⟩ := Option.bind_eq_some_iff.mp h
  obtain ⟨x2, h2, h⟩ := Option.bind_eq_some_iff.mp h
  obtain ⟨x3, h3, h⟩ := Option.bind_eq_some_iff.mp h
  obtain ⟨x5, h5, h⟩ := Option.bind_eq_some_iff.mp h
  split at h
  · exact WX_weak (hg _ _ _ _ _ _ _ h) rfl ⟨lR_of h0, lI_of h1, lI_of h2, lJ_of h3, lI_of h5, trivial⟩
  · cases h
set_option maxRecDepth 20000 in
theorem e_X12_threeFrom_45 (F : Nat) (t5 : Nat → Int32 → Int32 → Int64 → Int32 → cM → Option (Int64 × cM)) (x0 : Nat) (x1 : Int32) (x2 : Int32) (x3 : Int64) (x5 : Int32) (s0 : Int32) (M : cM) : b_X12_threeFrom_45 F t5 x0 x1 x2 x3 x5 s0 M = run T_X12_threeFrom P_RX12 false 3 (naL na_X12_threeFrom) (caL (ca_X12_threeFrom F)) (lkN th_X12_threeFrom) (lkN sw_X12_threeFrom) krJ kxN (spL [5]) (KL [(5, kd_X12_threeFrom_5 t5)]) 56 45 [some (.ref x0), some (.int x1), some (.int x2), some (.long x3), none, some (.int x5), none] [.int s0] M := rfl
theorem ok_X12_threeFrom_45 {X : cCtx} {D : Nat} {r : Int64 × cM} (G : FX X 7 (eJ r) cX12_threeFrom RX12 3 D) {F : Nat} (hca : ∀ x ∈ (ca_X12_threeFrom (R' := Int64 × cM) F), 1 ≤ D ∧ ceS X.1 RX12 (D - 1) x.1 x.2) (k5 : Nat → Int32 → Int32 → Int64 → Int32 → cM → Option (Int64 × cM)) (hk5 : ∀ x0 x1 x2 x3 x5 M, k5 x0 x1 x2 x3 x5 M = some r → WX X 7 (eJ r) 5 [some (.ref x0), some (.int x1), some (.int x2), some (.long x3), none, some (.int x5), none] [] M) : ∀ x0 x1 x2 x3 x5 s0 M, f_X12_threeFrom_45 F k5 x0 x1 x2 x3 x5 s0 M = some r → WX X 7 (eJ r) 45 [some (.ref x0), some (.int x1), some (.int x2), some (.long x3), none, some (.int x5), none] [.int s0] M := by
  intro x0 x1 x2 x3 x5 s0 M h
  exact seg_ok G P_RX12_ok T_X12_threeFrom_ok hca (fun _ h => absurd h List.not_mem_nil) sw_X12_threeFrom_ok krJ_ok (kxN_ok (f := eJ)) (List.forall_mem_cons.mpr ⟨kf_X12_threeFrom_5 (hk5), fun _ h => absurd h List.not_mem_nil⟩) ((e_X12_threeFrom_45 F (k5) x0 x1 x2 x3 x5 s0 M).symm.trans h)
set_option maxRecDepth 20000 in
theorem e_X12_threeFrom_5 (F : Nat) (t45 : Nat → Int32 → Int32 → Int64 → Int32 → Int32 → cM → Option (Int64 × cM)) (x0 : Nat) (x1 : Int32) (x2 : Int32) (x3 : Int64) (x5 : Int32) (M : cM) : b_X12_threeFrom_5 F t45 x0 x1 x2 x3 x5 M = run T_X12_threeFrom P_RX12 false 3 (naL na_X12_threeFrom) (caL (ca_X12_threeFrom F)) (lkN th_X12_threeFrom) (lkN sw_X12_threeFrom) krJ kxN (spL [45]) (KL [(45, kd_X12_threeFrom_45 t45)]) 56 5 [some (.ref x0), some (.int x1), some (.int x2), some (.long x3), none, some (.int x5), none] [] M := rfl
theorem ok_X12_threeFrom_5 {X : cCtx} {D : Nat} {r : Int64 × cM} (G : FX X 7 (eJ r) cX12_threeFrom RX12 3 D) {F : Nat} (hca : ∀ x ∈ (ca_X12_threeFrom (R' := Int64 × cM) F), 1 ≤ D ∧ ceS X.1 RX12 (D - 1) x.1 x.2) (n : Nat) : ∀ x0 x1 x2 x3 x5 M, f_X12_threeFrom_5 F n x0 x1 x2 x3 x5 M = some r → WX X 7 (eJ r) 5 [some (.ref x0), some (.int x1), some (.int x2), some (.long x3), none, some (.int x5), none] [] M := by
  induction n with
  | zero => intro x0 x1 x2 x3 x5 M h; cases h
  | succ n ih =>
    intro x0 x1 x2 x3 x5 M h
    exact seg_ok G P_RX12_ok T_X12_threeFrom_ok hca (fun _ h => absurd h List.not_mem_nil) sw_X12_threeFrom_ok krJ_ok (kxN_ok (f := eJ)) (List.forall_mem_cons.mpr ⟨kf_X12_threeFrom_45 (ok_X12_threeFrom_45 G hca (f_X12_threeFrom_5 F n) ih), fun _ h => absurd h List.not_mem_nil⟩) ((e_X12_threeFrom_5 F (f_X12_threeFrom_45 F (f_X12_threeFrom_5 F n)) x0 x1 x2 x3 x5 M).symm.trans h)
set_option maxRecDepth 20000 in
theorem e_X12_threeFrom_0 (F : Nat) (t5 : Nat → Int32 → Int32 → Int64 → Int32 → cM → Option (Int64 × cM)) (x0 : Nat) (x1 : Int32) (x2 : Int32) (M : cM) : b_X12_threeFrom_0 F t5 x0 x1 x2 M = run T_X12_threeFrom P_RX12 false 3 (naL na_X12_threeFrom) (caL (ca_X12_threeFrom F)) (lkN th_X12_threeFrom) (lkN sw_X12_threeFrom) krJ kxN (spL [5]) (KL [(5, kd_X12_threeFrom_5 t5)]) 56 0 [some (.ref x0), some (.int x1), some (.int x2), none, none, none, none] [] M := rfl
theorem ok_X12_threeFrom_0 {X : cCtx} {D : Nat} {r : Int64 × cM} (G : FX X 7 (eJ r) cX12_threeFrom RX12 3 D) {F : Nat} (hca : ∀ x ∈ (ca_X12_threeFrom (R' := Int64 × cM) F), 1 ≤ D ∧ ceS X.1 RX12 (D - 1) x.1 x.2) : ∀ x0 x1 x2 M, f_X12_threeFrom_0 F x0 x1 x2 M = some r → WX X 7 (eJ r) 0 [some (.ref x0), some (.int x1), some (.int x2), none, none, none, none] [] M := by
  intro x0 x1 x2 M h
  exact seg_ok G P_RX12_ok T_X12_threeFrom_ok hca (fun _ h => absurd h List.not_mem_nil) sw_X12_threeFrom_ok krJ_ok (kxN_ok (f := eJ)) (List.forall_mem_cons.mpr ⟨kf_X12_threeFrom_5 (ok_X12_threeFrom_5 G hca F), fun _ h => absurd h List.not_mem_nil⟩) ((e_X12_threeFrom_0 F (f_X12_threeFrom_5 F F) x0 x1 x2 M).symm.trans h)
theorem c_X12_threeFrom {q : cL} (hst : q.1.stackTraces = false) {D : Nat} (hD : 1 ≤ D) (F : Nat) (a0 : Nat) (a1 : Int32) (a2 : Int32) (M : cM) (r : Int64 × cM) (h : f_X12_threeFrom F a0 a1 a2 M = some r) : CTx q yX12_threeFrom (.code yX12_threeFrom cX12_threeFrom 7 (some .long)) D [.ref a0, .int a1, .int a2] M (eJ r) ∧ ∃ fs, M[a0]? = some (.inr (10, fs)) := by
  unfold f_X12_threeFrom at h
  split at h
  · next hi => exact ⟨CTx_of (own := RX12) (rk := 3) hst (by decide +kernel) rfl (rfl) (Nat.le_of_ble_eq_true rfl) (fun X hX G => by subst hX; exact ok_X12_threeFrom_0 G (ca_X12_threeFrom_ok hst hD F) a0 a1 a2 M h), isC_of hi⟩
  · cases h
def n_X12_threeFrom {R' : Type} (f : Nat → Int32 → Int32 → cM → Option (Int64 × cM)) : cFn R' := fun as M κ κx => match as with
  | [.ref a0, .int a1, .int a2] => (f a0 a1 a2 M).bind fun p => κ (some (.long p.1)) p.2
  | _ => none
theorem w_X12_threeFrom : ∀ w ∈ [Cond.instanceMethod yX12_threeFrom, .selects yX12_threeFrom.cls yX12_threeFrom yX12_threeFrom, .initialized yX12_threeFrom.cls, .code yX12_threeFrom cX12_threeFrom 7 (some .long)], w ∈ lw_good := List.forall_mem_cons.mpr ⟨lw_good_of (tb_ok 1514 (by decide +kernel)) rfl, List.forall_mem_cons.mpr ⟨lw_good_of (ts_ok 58 (by decide +kernel)) rfl, List.forall_mem_cons.mpr ⟨lw_good_of (tb_ok 11 (by decide +kernel)) rfl, List.forall_mem_cons.mpr ⟨lw_good_of (tb_ok 1515 (by decide +kernel)) rfl, fun _ h => absurd h List.not_mem_nil⟩⟩⟩⟩
theorem n_X12_threeFrom_ok {R' : Type} {q : cL} {own : String} {d k : Nat} {f : Nat → Int32 → Int32 → cM → Option (Int64 × cM)} (hl : Cond.methodLink own k yX12_threeFrom ∈ lw_good) (hf : ∀ a0 a1 a2 M r, f a0 a1 a2 M = some r → CTx q yX12_threeFrom (.code yX12_threeFrom cX12_threeFrom 7 (some .long)) d [.ref a0, .int a1, .int a2] M (eJ r) ∧ ∃ fs, M[a0]? = some (.inr (10, fs))) : ceS q own d (3 * k + 1) (n_X12_threeFrom (R' := R') f) := by
  intro as M κ κx r h
  unfold n_X12_threeFrom at h
  split at h
  · obtain ⟨p, h1, h2⟩ := Option.bind_eq_some_iff.mp h
    obtain ⟨hc, fs, ha⟩ := hf _ _ _ _ _ h1
    exact ⟨eJ p, fun _ => h2, fun hne => absurd rfl hne, Or.inr (Or.inl ⟨yX12_threeFrom, cX12_threeFrom, 7, (some .long), k, 2, _, _, 10, TX12, 76, fs, rfl, rfl, hc, ha, rfl, List.forall_mem_cons.mpr ⟨hl, w_X12_threeFrom⟩, ⟨rfl, by decide +kernel, by decide +kernel, by decide +kernel⟩, rfl, by decide⟩)⟩
  · cases h
-- PatchbayScriptModel.can(III)Z
def T_X12_can : List cRow := [(0, .iload_n 1, 1, 0), (1, .ifCond .ne 23, 4, 24), (4, .iload_n 2, 5, 0), (5, .aload_n 0, 6, 0), (6, .getfield 326, 9, 0), (9, .iconst 1, 10, 0), (10, .isub, 11, 0), (11, .if_icmp .ne 11, 14, 22), (14, .iload_n 3, 15, 0), (15, .ifCond .ne 7, 18, 22), (18, .iconst 1, 19, 0), (19, .goto 4, 22, 23), (22, .iconst 0, 23, 0), (23, .ireturn, 24, 0), (24, .iload_n 1, 25, 0), (25, .iconst 1, 26, 0), (26, .if_icmp .ne 33, 29, 59), (29, .iload_n 3, 30, 0), (30, .iconst 0, 31, 0), (31, .bipush 31, 33, 0), (33, .invokestatic 200, 36, 0), (36, .ifCond .eq 21, 39, 57), (39, .aload_n 0, 40, 0), (40, .getfield 156, 43, 0), (43, .iload_n 2, 44, 0), (44, .iaload, 45, 0), (45, .iload_n 3, 46, 0), (46, .ishr, 47, 0), (47, .iconst 1, 48, 0), (48, .iand, 49, 0), (49, .iconst 1, 50, 0), (50, .if_icmp .ne 7, 53, 57), (53, .iconst 1, 54, 0), (54, .goto 4, 57, 58), (57, .iconst 0, 58, 0), (58, .ireturn, 59, 0), (59, .iload_n 1, 60, 0), (60, .iconst 2, 61, 0), (61, .if_icmp .ne 37, 64, 98), (64, .iload_n 3, 65, 0), (65, .bipush 8, 67, 0), (67, .bipush 39, 69, 0), (69, .invokestatic 200, 72, 0), (72, .ifCond .eq 24, 75, 96), (75, .aload_n 0, 76, 0), (76, .getfield 159, 79, 0), (79, .iload_n 2, 80, 0), (80, .iaload, 81, 0), (81, .iload_n 3, 82, 0), (82, .bipush 8, 84, 0), (84, .isub, 85, 0), (85, .ishr, 86, 0), (86, .iconst 1, 87, 0), (87, .iand, 88, 0), (88, .iconst 1, 89, 0), (89, .if_icmp .ne 7, 92, 96), (92, .iconst 1, 93, 0), (93, .goto 4, 96, 97), (96, .iconst 0, 97, 0), (97, .ireturn, 98, 0), (98, .aload_n 0, 99, 0), (99, .getfield 162, 102, 0), (102, .iload_n 2, 103, 0), (103, .iaload, 104, 0), (104, .ifCond .le 43, 107, 147), (107, .iload_n 3, 108, 0), (108, .bipush 12, 110, 0), (110, .bipush 75, 112, 0), (112, .invokestatic 200, 115, 0), (115, .ifCond .eq 32, 118, 147), (118, .aload_n 0, 119, 0), (119, .getfield 165, 122, 0), (122, .aload_n 0, 123, 0), (123, .getfield 162, 126, 0), (126, .iload_n 2, 127, 0), (127, .iaload, 128, 0), (128, .iconst 1, 129, 0), (129, .isub, 130, 0), (130, .laload, 131, 0), (131, .iload_n 3, 132, 0), (132, .bipush 12, 134, 0), (134, .isub, 135, 0), (135, .lshr, 136, 0), (136, .lconst 1, 137, 0), (137, .land, 138, 0), (138, .lconst 1, 139, 0), (139, .lcmp, 140, 0), (140, .ifCond .ne 7, 143, 147), (143, .iconst 1, 144, 0), (144, .goto 4, 147, 148), (147, .iconst 0, 148, 0), (148, .ireturn, 149, 0)]
theorem T_X12_can_ok : T_X12_can.all (rowB cX12_can) = true := by decide +kernel
def th_X12_can : List (Nat × Nat) := []
def sw_X12_can : List (Nat × (List (Int32 × Nat) × Nat)) := []
theorem sw_X12_can_ok : ∀ q ∈ sw_X12_can, swS cX12_can q := fun _ h => absurd h List.not_mem_nil
def na_X12_can : List (Nat × Nat) := [(600, 3)]
def ca_X12_can {R' : Type} (F : Nat) : List (Nat × cFn R') := [(600, n_X12_isIn (f_X12_isIn F))]
theorem ca_X12_can_ok {R' : Type} {q : cL} (hst : q.1.stackTraces = false) {D : Nat} (hD : 1 ≤ D) (F : Nat) : ∀ x ∈ (ca_X12_can (R' := R') F), 1 ≤ D ∧ ceS q RX12 (D - 1) x.1 x.2 := List.forall_mem_cons.mpr ⟨⟨by omega, n_X12_isIn_ok (k := 200) (lw_good_of (tb_ok 1341 (by decide +kernel)) rfl) (fun a0 a1 a2 M r h => c_X12_isIn hst (by omega) F a0 a1 a2 M r h)⟩, fun _ h => absurd h List.not_mem_nil⟩
set_option maxRecDepth 20000 in
theorem e_X12_can_0 (F : Nat) (x0 : Nat) (x1 : Int32) (x2 : Int32) (x3 : Int32) (M : cM) : b_X12_can_0 F x0 x1 x2 x3 M = run T_X12_can P_RX12 false 1 (naL na_X12_can) (caL (ca_X12_can F)) (lkN th_X12_can) (lkN sw_X12_can) krI kxN (spL []) (KL []) 95 0 [some (.ref x0), some (.int x1), some (.int x2), some (.int x3)] [] M := rfl
theorem ok_X12_can_0 {X : cCtx} {D : Nat} {r : Int32 × cM} (G : FX X 4 (eI r) cX12_can RX12 1 D) {F : Nat} (hca : ∀ x ∈ (ca_X12_can (R' := Int32 × cM) F), 1 ≤ D ∧ ceS X.1 RX12 (D - 1) x.1 x.2) : ∀ x0 x1 x2 x3 M, f_X12_can_0 F x0 x1 x2 x3 M = some r → WX X 4 (eI r) 0 [some (.ref x0), some (.int x1), some (.int x2), some (.int x3)] [] M := by
  intro x0 x1 x2 x3 M h
  exact seg_ok G P_RX12_ok T_X12_can_ok hca (fun _ h => absurd h List.not_mem_nil) sw_X12_can_ok krI_ok (kxN_ok (f := eI)) (fun _ h => absurd h List.not_mem_nil) ((e_X12_can_0 F x0 x1 x2 x3 M).symm.trans h)
theorem c_X12_can {q : cL} (hst : q.1.stackTraces = false) {D : Nat} (hD : 1 ≤ D) (F : Nat) (a0 : Nat) (a1 : Int32) (a2 : Int32) (a3 : Int32) (M : cM) (r : Int32 × cM) (h : f_X12_can F a0 a1 a2 a3 M = some r) : CTx q yX12_can (.code yX12_can cX12_can 4 (some .boolean)) D [.ref a0, .int a1, .int a2, .int a3] M (eI r) ∧ ∃ fs, M[a0]? = some (.inr (10, fs)) := by
  unfold f_X12_can at h
  split at h
  · next hi => exact ⟨CTx_of (own := RX12) (rk := 1) hst (by decide +kernel) rfl (rfl) (Nat.le_of_ble_eq_true rfl) (fun X hX G => by subst hX; exact ok_X12_can_0 G (ca_X12_can_ok hst hD F) a0 a1 a2 a3 M h), isC_of hi⟩
  · cases h
def n_X12_can {R' : Type} (f : Nat → Int32 → Int32 → Int32 → cM → Option (Int32 × cM)) : cFn R' := fun as M κ κx => match as with
  | [.ref a0, .int a1, .int a2, .int a3] => (f a0 a1 a2 a3 M).bind fun p => κ (some (.int p.1)) p.2
  | _ => none
theorem w_X12_can : ∀ w ∈ [Cond.instanceMethod yX12_can, .selects yX12_can.cls yX12_can yX12_can, .initialized yX12_can.cls, .code yX12_can cX12_can 4 (some .boolean)], w ∈ lw_good := List.forall_mem_cons.mpr ⟨lw_good_of (tb_ok 1526 (by decide +kernel)) rfl, List.forall_mem_cons.mpr ⟨lw_good_of (ts_ok 61 (by decide +kernel)) rfl, List.forall_mem_cons.mpr ⟨lw_good_of (tb_ok 11 (by decide +kernel)) rfl, List.forall_mem_cons.mpr ⟨lw_good_of (tb_ok 1527 (by decide +kernel)) rfl, fun _ h => absurd h List.not_mem_nil⟩⟩⟩⟩
theorem n_X12_can_ok {R' : Type} {q : cL} {own : String} {d k : Nat} {f : Nat → Int32 → Int32 → Int32 → cM → Option (Int32 × cM)} (hl : Cond.methodLink own k yX12_can ∈ lw_good) (hf : ∀ a0 a1 a2 a3 M r, f a0 a1 a2 a3 M = some r → CTx q yX12_can (.code yX12_can cX12_can 4 (some .boolean)) d [.ref a0, .int a1, .int a2, .int a3] M (eI r) ∧ ∃ fs, M[a0]? = some (.inr (10, fs))) : ceS q own d (3 * k + 1) (n_X12_can (R' := R') f) := by
  intro as M κ κx r h
  unfold n_X12_can at h
  split at h
  · obtain ⟨p, h1, h2⟩ := Option.bind_eq_some_iff.mp h
    obtain ⟨hc, fs, ha⟩ := hf _ _ _ _ _ _ h1
    exact ⟨eI p, fun _ => h2, fun hne => absurd rfl hne, Or.inr (Or.inl ⟨yX12_can, cX12_can, 4, (some .boolean), k, 3, _, _, 10, TX12, 76, fs, rfl, rfl, hc, ha, rfl, List.forall_mem_cons.mpr ⟨hl, w_X12_can⟩, ⟨rfl, by decide +kernel, by decide +kernel, by decide +kernel⟩, rfl, by decide⟩)⟩
  · cases h
-- PatchbayScriptModel.fours()J
def T_X12_fours : List cRow := [(0, .lconst 0, 1, 0), (1, .lstore_n 1, 2, 0), (2, .iconst 0, 3, 0), (3, .istore_n 3, 4, 0), (4, .iload_n 3, 5, 0), (5, .aload_n 0, 6, 0), (6, .getfield 329, 9, 0), (9, .if_icmp .ge 130, 12, 139), (12, .aload_n 0, 13, 0), (13, .aload_n 0, 14, 0), (14, .getfield 143, 17, 0), (17, .iload_n 3, 18, 0), (18, .iaload, 19, 0), (19, .iconst 0, 20, 0), (20, .invokevirtual 332, 23, 0), (23, .ifCond .eq 17, 26, 40), (26, .aload_n 0, 27, 0), (27, .aload_n 0, 28, 0), (28, .getfield 143, 31, 0), (31, .iload_n 3, 32, 0), (32, .iaload, 33, 0), (33, .iconst 0, 34, 0), (34, .invokevirtual 335, 37, 0), (37, .goto 4, 40, 41), (40, .iconst (-1), 41, 0), (41, .istore 4, 43, 0), (43, .iload 4, 45, 0), (45, .iconst (-1), 46, 0), (46, .if_icmp .eq 87, 49, 133), (49, .aload_n 0, 50, 0), (50, .getfield 162, 53, 0), (53, .iload 4, 55, 0), (55, .iaload, 56, 0), (56, .ifCond .ne 46, 59, 102), (59, .aload_n 0, 60, 0), (60, .iconst 1, 61, 0), (61, .iload 4, 63, 0), (63, .invokevirtual 345, 66, 0), (66, .aload_n 0, 67, 0), (67, .getfield 165, 70, 0), (70, .aload_n 0, 71, 0), (71, .getfield 339, 74, 0), (74, .aload_n 0, 75, 0), (75, .iconst 1, 76, 0), (76, .iconst 1, 77, 0), (77, .invokevirtual 349, 80, 0), (80, .lastore, 81, 0), (81, .aload_n 0, 82, 0), (82, .dup, 83, 0), (83, .getfield 339, 86, 0), (86, .iconst 1, 87, 0), (87, .iadd, 88, 0), (88, .putfield 339, 91, 0), (91, .aload_n 0, 92, 0), (92, .getfield 162, 95, 0), (95, .iload 4, 97, 0), (97, .aload_n 0, 98, 0), (98, .getfield 339, 101, 0), (101, .iastore, 102, 0), (102, .lload_n 1, 103, 0), (103, .aload_n 0, 104, 0), (104, .getfield 165, 107, 0), (107, .aload_n 0, 108, 0), (108, .getfield 162, 111, 0), (111, .iload 4, 113, 0), (113, .iaload, 114, 0), (114, .iconst 1, 115, 0), (115, .isub, 116, 0), (116, .laload, 117, 0), (117, .aload_n 0, 118, 0), (118, .getfield 140, 121, 0), (121, .aload_n 0, 122, 0), (122, .getfield 143, 125, 0), (125, .iload_n 3, 126, 0), (126, .iaload, 127, 0), (127, .iaload, 128, 0), (128, .iconst 4, 129, 0), (129, .isub, 130, 0), (130, .lshl, 131, 0), (131, .lor, 132, 0), (132, .lstore_n 1, 133, 0), (133, .iinc 3 1, 136, 0), (136, .goto (-132), 139, 4), (139, .lload_n 1, 140, 0), (140, .lreturn, 141, 0)]
theorem T_X12_fours_ok : T_X12_fours.all (rowB cX12_fours) = true := by decide +kernel
def th_X12_fours : List (Nat × Nat) := []
def sw_X12_fours : List (Nat × (List (Int32 × Nat) × Nat)) := []
theorem sw_X12_fours_ok : ∀ q ∈ sw_X12_fours, swS cX12_fours q := fun _ h => absurd h List.not_mem_nil
def na_X12_fours : List (Nat × Nat) := [(997, 3), (1006, 3), (1036, 3), (1048, 3)]
def ca_X12_fours {R' : Type} (F : Nat) : List (Nat × cFn R') := [(997, n_X12_isAllowed (f_X12_isAllowed F)), (1006, n_X12_behind (f_X12_behind F)), (1036, n_X12_goesTo (f_X12_goesTo F)), (1048, n_X12_threeFrom (f_X12_threeFrom F))]
theorem ca_X12_fours_ok {R' : Type} {q : cL} (hst : q.1.stackTraces = false) {D : Nat} (hD : 2 ≤ D) (F : Nat) : ∀ x ∈ (ca_X12_fours (R' := R') F), 1 ≤ D ∧ ceS q RX12 (D - 1) x.1 x.2 := List.forall_mem_cons.mpr ⟨⟨by omega, n_X12_isAllowed_ok (k := 332) (lw_good_of (tb_ok 1500 (by decide +kernel)) rfl) (fun a0 a1 a2 M r h => c_X12_isAllowed hst (by omega) F a0 a1 a2 M r h)⟩, List.forall_mem_cons.mpr ⟨⟨by omega, n_X12_behind_ok (k := 335) (lw_good_of (tb_ok 1516 (by decide +kernel)) rfl) (fun a0 a1 a2 M r h => c_X12_behind hst (by omega) F a0 a1 a2 M r h)⟩, List.forall_mem_cons.mpr ⟨⟨by omega, n_X12_goesTo_ok (k := 345) (lw_good_of (tb_ok 1508 (by decide +kernel)) rfl) (fun a0 a1 a2 M r h => c_X12_goesTo hst (by omega) F a0 a1 a2 M r h)⟩, List.forall_mem_cons.mpr ⟨⟨by omega, n_X12_threeFrom_ok (k := 349) (lw_good_of (tb_ok 1512 (by decide +kernel)) rfl) (fun a0 a1 a2 M r h => c_X12_threeFrom hst (by omega) F a0 a1 a2 M r h)⟩, fun _ h => absurd h List.not_mem_nil⟩⟩⟩⟩
def kd_X12_fours_4 (g : Nat → Int64 → Int32 → cM → Option (Int64 × cM)) : cKf (Int64 × cM) := fun vs st M => (lR vs 0).bind fun x0 => (lJ vs 1).bind fun x1 => (lI vs 3).bind fun x3 => match st with
  | [] => g x0 x1 x3 M
  | _ => none
theorem kf_X12_fours_4 {X : cCtx} {o : cO} {r : Int64 × cM} {g : Nat → Int64 → Int32 → cM → Option (Int64 × cM)} (hg : ∀ x0 x1 x3 M, g x0 x1 x3 M = some r → WX X 5 o 4 [some (.ref x0), some (.long x1), none, some (.int x3), none] [] M) : ∀ vs st M, kd_X12_fours_4 g vs st M = some r → WX X 5 o 4 vs st M := by
  intro vs st M h
  unfold kd_X12_fours_4 at h
  obtain ⟨x0, h0, h⟩ := Option.bind_eq_some_iff.mp h
  obtain ⟨x1, h1, h⟩ := Option.bind_eq_some_iff.mp h
  obtain ⟨x3, h3, h⟩ := Option.bind_eq_some_iff.mp h
  split at h
  · exact WX_weak (hg _ _ _ _ h) rfl ⟨lR_of h0, lJ_of h1, lI_of h3, trivial⟩
  · cases h
def kd_X12_fours_41 (g : Nat → Int64 → Int32 → Int32 → cM → Option (Int64 × cM)) : cKf (Int64 × cM) := fun vs st M => (lR vs 0).bind fun x0 => (lJ vs 1).bind fun x1 => (lI vs 3).bind fun x3 => match st with
  | [.int s0] => g x0 x1 x3 s0 M
  | _ => none
theorem kf_X12_fours_41 {X : cCtx} {o : cO} {r : Int64 × cM} {g : Nat → Int64 → Int32 → Int32 → cM → Option (Int64 × cM)} (hg : ∀ x0 x1 x3 s0 M, g x0 x1 x3 s0 M = some r → WX X 5 o 41 [some (.ref x0), some (.long x1), none, some (.int x3), none] [.int s0] M) : ∀ vs st M, kd_X12_fours_41 g vs st M = some r → WX X 5 o 41 vs st M := by
  intro vs st M h
  unfold kd_X12_fours_41 at h
  obtain ⟨x0, h0, h⟩ := Option.bind_eq_some_iff.mp h
  obtain ⟨x1, h1, h⟩ := Option.bind_eq_some_iff.mp h
  obtain ⟨x3, h3, h⟩ := Option.bind_eq_some_iff.mp h
  split at h
  · exact WX_weak (hg _ _ _ _ _ h) rfl ⟨lR_of h0, lJ_of h1, lI_of h3, trivial⟩
  · cases h
def kd_X12_fours_102 (g : Nat → Int64 → Int32 → Int32 → cM → Option (Int64 × cM)) : cKf (Int64 × cM) := fun vs st M => (lR vs 0).bind fun x0 => (lJ vs 1).bind fun x1 => (lI vs 3).bind fun x3 => (lI vs 4).bind fun x4 => match st with
  | [] => g x0 x1 x3 x4 M
  | _ => none
theorem kf_X12_fours_102 {X : cCtx} {o : cO} {r : Int64 × cM} {g : Nat → Int64 → Int32 → Int32 → cM → Option (Int64 × cM)} (hg : ∀ x0 x1 x3 x4 M, g x0 x1 x3 x4 M = some r → WX X 5 o 102 [some (.ref x0), some (.long x1), none, some (.int x3), some (.int x4)] [] M) : ∀ vs st M, kd_X12_fours_102 g vs st M = some r → WX X 5 o 102 vs st M := by
  intro vs st M h
  unfold kd_X12_fours_102 at h
  obtain ⟨x0, h0, h⟩ := Option.bind_eq_some_iff.mp h
  obtain ⟨x1, h1, h⟩ := Option.bind_eq_some_iff.mp h
  obtain ⟨x3, h3, h⟩ := Option.bind_eq_some_iff.mp h
  obtain ⟨x4, h4, h⟩ := Option.bind_eq_some_iff.mp h
  split at h
  · exact WX_weak (hg _ _ _ _ _ h) rfl ⟨lR_of h0, lJ_of h1, lI_of h3, lI_of h4, trivial⟩
  · cases h
set_option maxRecDepth 20000 in
theorem e_X12_fours_102 (F : Nat) (t4 : Nat → Int64 → Int32 → cM → Option (Int64 × cM)) (x0 : Nat) (x1 : Int64) (x3 : Int32) (x4 : Int32) (M : cM) : b_X12_fours_102 F t4 x0 x1 x3 x4 M = run T_X12_fours P_RX12 false 3 (naL na_X12_fours) (caL (ca_X12_fours F)) (lkN th_X12_fours) (lkN sw_X12_fours) krJ kxN (spL [4]) (KL [(4, kd_X12_fours_4 t4)]) 88 102 [some (.ref x0), some (.long x1), none, some (.int x3), some (.int x4)] [] M := rfl
theorem ok_X12_fours_102 {X : cCtx} {D : Nat} {r : Int64 × cM} (G : FX X 5 (eJ r) cX12_fours RX12 3 D) {F : Nat} (hca : ∀ x ∈ (ca_X12_fours (R' := Int64 × cM) F), 1 ≤ D ∧ ceS X.1 RX12 (D - 1) x.1 x.2) (k4 : Nat → Int64 → Int32 → cM → Option (Int64 × cM)) (hk4 : ∀ x0 x1 x3 M, k4 x0 x1 x3 M = some r → WX X 5 (eJ r) 4 [some (.ref x0), some (.long x1), none, some (.int x3), none] [] M) : ∀ x0 x1 x3 x4 M, f_X12_fours_102 F k4 x0 x1 x3 x4 M = some r → WX X 5 (eJ r) 102 [some (.ref x0), some (.long x1), none, some (.int x3), some (.int x4)] [] M := by
  intro x0 x1 x3 x4 M h
  exact seg_ok G P_RX12_ok T_X12_fours_ok hca (fun _ h => absurd h List.not_mem_nil) sw_X12_fours_ok krJ_ok (kxN_ok (f := eJ)) (List.forall_mem_cons.mpr ⟨kf_X12_fours_4 (hk4), fun _ h => absurd h List.not_mem_nil⟩) ((e_X12_fours_102 F (k4) x0 x1 x3 x4 M).symm.trans h)
set_option maxRecDepth 20000 in
theorem e_X12_fours_41 (F : Nat) (t4 : Nat → Int64 → Int32 → cM → Option (Int64 × cM)) (t102 : Nat → Int64 → Int32 → Int32 → cM → Option (Int64 × cM)) (x0 : Nat) (x1 : Int64) (x3 : Int32) (s0 : Int32) (M : cM) : b_X12_fours_41 F t4 t102 x0 x1 x3 s0 M = run T_X12_fours P_RX12 false 3 (naL na_X12_fours) (caL (ca_X12_fours F)) (lkN th_X12_fours) (lkN sw_X12_fours) krJ kxN (spL [4, 102]) (KL [(4, kd_X12_fours_4 t4), (102, kd_X12_fours_102 t102)]) 88 41 [some (.ref x0), some (.long x1), none, some (.int x3), none] [.int s0] M := rfl
theorem ok_X12_fours_41 {X : cCtx} {D : Nat} {r : Int64 × cM} (G : FX X 5 (eJ r) cX12_fours RX12 3 D) {F : Nat} (hca : ∀ x ∈ (ca_X12_fours (R' := Int64 × cM) F), 1 ≤ D ∧ ceS X.1 RX12 (D - 1) x.1 x.2) (k4 : Nat → Int64 → Int32 → cM → Option (Int64 × cM)) (hk4 : ∀ x0 x1 x3 M, k4 x0 x1 x3 M = some r → WX X 5 (eJ r) 4 [some (.ref x0), some (.long x1), none, some (.int x3), none] [] M) : ∀ x0 x1 x3 s0 M, f_X12_fours_41 F k4 x0 x1 x3 s0 M = some r → WX X 5 (eJ r) 41 [some (.ref x0), some (.long x1), none, some (.int x3), none] [.int s0] M := by
  intro x0 x1 x3 s0 M h
  exact seg_ok G P_RX12_ok T_X12_fours_ok hca (fun _ h => absurd h List.not_mem_nil) sw_X12_fours_ok krJ_ok (kxN_ok (f := eJ)) (List.forall_mem_cons.mpr ⟨kf_X12_fours_4 (hk4), List.forall_mem_cons.mpr ⟨kf_X12_fours_102 (ok_X12_fours_102 G hca k4 hk4), fun _ h => absurd h List.not_mem_nil⟩⟩) ((e_X12_fours_41 F (k4) (f_X12_fours_102 F k4) x0 x1 x3 s0 M).symm.trans h)
set_option maxRecDepth 20000 in
theorem e_X12_fours_4 (F : Nat) (t41 : Nat → Int64 → Int32 → Int32 → cM → Option (Int64 × cM)) (x0 : Nat) (x1 : Int64) (x3 : Int32) (M : cM) : b_X12_fours_4 F t41 x0 x1 x3 M = run T_X12_fours P_RX12 false 3 (naL na_X12_fours) (caL (ca_X12_fours F)) (lkN th_X12_fours) (lkN sw_X12_fours) krJ kxN (spL [41]) (KL [(41, kd_X12_fours_41 t41)]) 88 4 [some (.ref x0), some (.long x1), none, some (.int x3), none] [] M := rfl
theorem ok_X12_fours_4 {X : cCtx} {D : Nat} {r : Int64 × cM} (G : FX X 5 (eJ r) cX12_fours RX12 3 D) {F : Nat} (hca : ∀ x ∈ (ca_X12_fours (R' := Int64 × cM) F), 1 ≤ D ∧ ceS X.1 RX12 (D - 1) x.1 x.2) (n : Nat) : ∀ x0 x1 x3 M, f_X12_fours_4 F n x0 x1 x3 M = some r → WX X 5 (eJ r) 4 [some (.ref x0), some (.long x1), none, some (.int x3), none] [] M := by
  induction n with
  | zero => intro x0 x1 x3 M h; cases h
  | succ n ih =>
    intro x0 x1 x3 M h
    exact seg_ok G P_RX12_ok T_X12_fours_ok hca (fun _ h => absurd h List.not_mem_nil) sw_X12_fours_ok krJ_ok (kxN_ok (f := eJ)) (List.forall_mem_cons.mpr ⟨kf_X12_fours_41 (ok_X12_fours_41 G hca (f_X12_fours_4 F n) ih), fun _ h => absurd h List.not_mem_nil⟩) ((e_X12_fours_4 F (f_X12_fours_41 F (f_X12_fours_4 F n)) x0 x1 x3 M).symm.trans h)
set_option maxRecDepth 20000 in
theorem e_X12_fours_0 (F : Nat) (t4 : Nat → Int64 → Int32 → cM → Option (Int64 × cM)) (x0 : Nat) (M : cM) : b_X12_fours_0 F t4 x0 M = run T_X12_fours P_RX12 false 3 (naL na_X12_fours) (caL (ca_X12_fours F)) (lkN th_X12_fours) (lkN sw_X12_fours) krJ kxN (spL [4]) (KL [(4, kd_X12_fours_4 t4)]) 88 0 [some (.ref x0), none, none, none, none] [] M := rfl
theorem ok_X12_fours_0 {X : cCtx} {D : Nat} {r : Int64 × cM} (G : FX X 5 (eJ r) cX12_fours RX12 3 D) {F : Nat} (hca : ∀ x ∈ (ca_X12_fours (R' := Int64 × cM) F), 1 ≤ D ∧ ceS X.1 RX12 (D - 1) x.1 x.2) : ∀ x0 M, f_X12_fours_0 F x0 M = some r → WX X 5 (eJ r) 0 [some (.ref x0), none, none, none, none] [] M := by
  intro x0 M h
  exact seg_ok G P_RX12_ok T_X12_fours_ok hca (fun _ h => absurd h List.not_mem_nil) sw_X12_fours_ok krJ_ok (kxN_ok (f := eJ)) (List.forall_mem_cons.mpr ⟨kf_X12_fours_4 (ok_X12_fours_4 G hca F), fun _ h => absurd h List.not_mem_nil⟩) ((e_X12_fours_0 F (f_X12_fours_4 F F) x0 M).symm.trans h)
theorem c_X12_fours {q : cL} (hst : q.1.stackTraces = false) {D : Nat} (hD : 2 ≤ D) (F : Nat) (a0 : Nat) (M : cM) (r : Int64 × cM) (h : f_X12_fours F a0 M = some r) : CTx q yX12_fours (.code yX12_fours cX12_fours 5 (some .long)) D [.ref a0] M (eJ r) ∧ ∃ fs, M[a0]? = some (.inr (10, fs)) := by
  unfold f_X12_fours at h
  split at h
  · next hi => exact ⟨CTx_of (own := RX12) (rk := 3) hst (by decide +kernel) rfl (rfl) (Nat.le_of_ble_eq_true rfl) (fun X hX G => by subst hX; exact ok_X12_fours_0 G (ca_X12_fours_ok hst hD F) a0 M h), isC_of hi⟩
  · cases h
def n_X12_fours {R' : Type} (f : Nat → cM → Option (Int64 × cM)) : cFn R' := fun as M κ κx => match as with
  | [.ref a0] => (f a0 M).bind fun p => κ (some (.long p.1)) p.2
  | _ => none
theorem w_X12_fours : ∀ w ∈ [Cond.instanceMethod yX12_fours, .selects yX12_fours.cls yX12_fours yX12_fours, .initialized yX12_fours.cls, .code yX12_fours cX12_fours 5 (some .long)], w ∈ lw_good := List.forall_mem_cons.mpr ⟨lw_good_of (tb_ok 1522 (by decide +kernel)) rfl, List.forall_mem_cons.mpr ⟨lw_good_of (ts_ok 60 (by decide +kernel)) rfl, List.forall_mem_cons.mpr ⟨lw_good_of (tb_ok 11 (by decide +kernel)) rfl, List.forall_mem_cons.mpr ⟨lw_good_of (tb_ok 1523 (by decide +kernel)) rfl, fun _ h => absurd h List.not_mem_nil⟩⟩⟩⟩
theorem n_X12_fours_ok {R' : Type} {q : cL} {own : String} {d k : Nat} {f : Nat → cM → Option (Int64 × cM)} (hl : Cond.methodLink own k yX12_fours ∈ lw_good) (hf : ∀ a0 M r, f a0 M = some r → CTx q yX12_fours (.code yX12_fours cX12_fours 5 (some .long)) d [.ref a0] M (eJ r) ∧ ∃ fs, M[a0]? = some (.inr (10, fs))) : ceS q own d (3 * k + 1) (n_X12_fours (R' := R') f) := by
  intro as M κ κx r h
  unfold n_X12_fours at h
  split at h
  · obtain ⟨p, h1, h2⟩ := Option.bind_eq_some_iff.mp h
    obtain ⟨hc, fs, ha⟩ := hf _ _ _ h1
    exact ⟨eJ p, fun _ => h2, fun hne => absurd rfl hne, Or.inr (Or.inl ⟨yX12_fours, cX12_fours, 5, (some .long), k, 0, _, _, 10, TX12, 76, fs, rfl, rfl, hc, ha, rfl, List.forall_mem_cons.mpr ⟨hl, w_X12_fours⟩, ⟨rfl, by decide +kernel, by decide +kernel, by decide +kernel⟩, rfl, by decide⟩)⟩
  · cases h
-- PatchbayScriptModel.goes(II)V
def T_X12_goes : List cRow := [(0, .iconst 0, 1, 0), (1, .istore_n 3, 2, 0), (2, .aload_n 0, 3, 0), (3, .getfield 175, 6, 0), (6, .iconst 0, 7, 0), (7, .iconst (-1), 8, 0), (8, .iastore, 9, 0), (9, .aload_n 0, 10, 0), (10, .getfield 178, 13, 0), (13, .iconst 0, 14, 0), (14, .iload_n 2, 15, 0), (15, .iastore, 16, 0), (16, .iload_n 3, 17, 0), (17, .ifCond .lt 295, 20, 312), (20, .aload_n 0, 21, 0), (21, .getfield 181, 24, 0), (24, .iload_n 1, 25, 0), (25, .iaload, 26, 0), (26, .iconst 5, 27, 0), (27, .if_icmp .ge 285, 30, 312), (30, .aload_n 0, 31, 0), (31, .getfield 175, 34, 0), (34, .iload_n 3, 35, 0), (35, .iaload, 36, 0), (36, .iconst 1, 37, 0), (37, .iadd, 38, 0), (38, .istore 4, 40, 0), (40, .iconst (-1), 41, 0), (41, .istore 5, 43, 0), (43, .iload 4, 45, 0), (45, .aload_n 0, 46, 0), (46, .getfield 329, 49, 0), (49, .if_icmp .ge 111, 52, 160), (52, .iload 5, 54, 0), (54, .iconst (-1), 55, 0), (55, .if_icmp .ne 105, 58, 160), (58, .aload_n 0, 59, 0), (59, .getfield 143, 62, 0), (62, .iload 4, 64, 0), (64, .iaload, 65, 0), (65, .istore 6, 67, 0), (67, .aload_n 0, 68, 0), (68, .getfield 178, 71, 0), (71, .iload_n 3, 72, 0), (72, .iaload, 73, 0), (73, .aload_n 0, 74, 0), (74, .getfield 140, 77, 0), (77, .iload 6, 79, 0), (79, .iaload, 80, 0), (80, .isub, 81, 0), (81, .istore 7, 83, 0), (83, .iload 7, 85, 0), (85, .ifCond .lt 23, 88, 108), (88, .aload_n 0, 89, 0), (89, .iload 6, 91, 0), (91, .iload_n 3, 92, 0), (92, .invokevirtual 332, 95, 0), (95, .ifCond .eq 13, 98, 108), (98, .aload_n 0, 99, 0), (99, .iload 6, 101, 0), (101, .iload_n 3, 102, 0), (102, .invokevirtual 335, 105, 0), (105, .goto 4, 108, 109), (108, .iconst (-1), 109, 0), (109, .istore 5, 111, 0), (111, .iload 5, 113, 0), (113, .iconst (-1), 114, 0), (114, .if_icmp .eq 24, 117, 138), (117, .aload_n 0, 118, 0), (118, .iload_n 1, 119, 0), (119, .iload_n 3, 120, 0), (120, .isub, 121, 0), (121, .iconst 1, 122, 0), (122, .isub, 123, 0), (123, .iload 5, 125, 0), (125, .iload 7, 127, 0), (127, .invokevirtual 357, 130, 0), (130, .ifCond .eq 8, 133, 138), (133, .iload 5, 135, 0), (135, .goto 4, 138, 139), (138, .iconst (-1), 139, 0), (139, .istore 5, 141, 0), (141, .iload 4, 143, 0), (143, .iload 5, 145, 0), (145, .iconst (-1), 146, 0), (146, .if_icmp .ne 7, 149, 153), (149, .iconst 1, 150, 0), (150, .goto 4, 153, 154), (153, .iconst 0, 154, 0), (154, .iadd, 155, 0), (155, .istore 4, 157, 0), (157, .goto (-114), 160, 43), (160, .aload_n 0, 161, 0), (161, .getfield 175, 164, 0), (164, .iload_n 3, 165, 0), (165, .iload 4, 167, 0), (167, .iastore, 168, 0), (168, .iload 5, 170, 0), (170, .iconst (-1), 171, 0), (171, .if_icmp .ne 9, 174, 180), (174, .iinc 3 (-1), 177, 0), (177, .goto 132, 180, 309), (180, .iload_n 3, 181, 0), (181, .iload_n 1, 182, 0), (182, .iconst 1, 183, 0), (183, .isub, 184, 0), (184, .if_icmp .ne 79, 187, 263), (187, .iconst 0, 188, 0), (188, .istore 6, 190, 0), (190, .iload 6, 192, 0), (192, .iload_n 1, 193, 0), (193, .if_icmp .ge 41, 196, 234), (196, .aload_n 0, 197, 0), (197, .getfield 187, 200, 0), (200, .iconst 4, 201, 0), (201, .iconst 5, 202, 0), (202, .iload_n 1, 203, 0), (203, .imul, 204, 0), (204, .aload_n 0, 205, 0), (205, .getfield 181, 208, 0), (208, .iload_n 1, 209, 0), (209, .iaload, 210, 0), (210, .iadd, 211, 0), (211, .imul, 212, 0), (212, .iload 6, 214, 0), (214, .iadd, 215, 0), (215, .aload_n 0, 216, 0), (216, .getfield 143, 219, 0), (219, .aload_n 0, 220, 0), (220, .getfield 175, 223, 0), (223, .iload 6, 225, 0), (225, .iaload, 226, 0), (226, .iaload, 227, 0), (227, .iastore, 228, 0), (228, .iinc 6 1, 231, 0), (231, .goto (-41), 234, 190), (234, .aload_n 0, 235, 0), (235, .getfield 184, 238, 0), (238, .iconst 5, 239, 0), (239, .iload_n 1, 240, 0), (240, .imul, 241, 0), (241, .aload_n 0, 242, 0), (242, .getfield 181, 245, 0), (245, .iload_n 1, 246, 0), (246, .iaload, 247, 0), (247, .iadd, 248, 0), (248, .iload_n 2, 249, 0), (249, .iastore, 250, 0), (250, .aload_n 0, 251, 0), (251, .getfield 181, 254, 0), (254, .iload_n 1, 255, 0), (255, .dup2, 256, 0), (256, .iaload, 257, 0), (257, .iconst 1, 258, 0), (258, .iadd, 259, 0), (259, .iastore, 260, 0), (260, .goto 49, 263, 309), (263, .aload_n 0, 264, 0), (264, .iload_n 3, 265, 0), (265, .iconst 1, 266, 0), (266, .iadd, 267, 0), (267, .iload 5, 269, 0), (269, .invokevirtual 345, 272, 0), (272, .aload_n 0, 273, 0), (273, .getfield 178, 276, 0), (276, .iload_n 3, 277, 0), (277, .iconst 1, 278, 0), (278, .iadd, 279, 0), (279, .aload_n 0, 280, 0), (280, .getfield 178, 283, 0), (283, .iload_n 3, 284, 0), (284, .iaload, 285, 0), (285, .aload_n 0, 286, 0), (286, .getfield 140, 289, 0), (289, .aload_n 0, 290, 0), (290, .getfield 143, 293, 0), (293, .iload 4, 295, 0), (295, .iaload, 296, 0), (296, .iaload, 297, 0), (297, .isub, 298, 0), (298, .iastore, 299, 0), (299, .iinc 3 1, 302, 0), (302, .aload_n 0, 303, 0), (303, .getfield 175, 306, 0), (306, .iload_n 3, 307, 0), (307, .iconst (-1), 308, 0), (308, .iastore, 309, 0), (309, .goto (-293), 312, 16), (312, .return_, 313, 0)]
theorem T_X12_goes_ok : T_X12_goes.all (rowB cX12_goes) = true := by decide +kernel
def th_X12_goes : List (Nat × Nat) := []
def sw_X12_goes : List (Nat × (List (Int32 × Nat) × Nat)) := []
theorem sw_X12_goes_ok : ∀ q ∈ sw_X12_goes, swS cX12_goes q := fun _ h => absurd h List.not_mem_nil
def na_X12_goes : List (Nat × Nat) := [(997, 3), (1006, 3), (1072, 4), (1036, 3)]
def ca_X12_goes {R' : Type} (F : Nat) : List (Nat × cFn R') := [(997, n_X12_isAllowed (f_X12_isAllowed F)), (1006, n_X12_behind (f_X12_behind F)), (1072, n_X12_can (f_X12_can F)), (1036, n_X12_goesTo (f_X12_goesTo F))]
theorem ca_X12_goes_ok {R' : Type} {q : cL} (hst : q.1.stackTraces = false) {D : Nat} (hD : 2 ≤ D) (F : Nat) : ∀ x ∈ (ca_X12_goes (R' := R') F), 1 ≤ D ∧ ceS q RX12 (D - 1) x.1 x.2 := List.forall_mem_cons.mpr ⟨⟨by omega, n_X12_isAllowed_ok (k := 332) (lw_good_of (tb_ok 1500 (by decide +kernel)) rfl) (fun a0 a1 a2 M r h => c_X12_isAllowed hst (by omega) F a0 a1 a2 M r h)⟩, List.forall_mem_cons.mpr ⟨⟨by omega, n_X12_behind_ok (k := 335) (lw_good_of (tb_ok 1516 (by decide +kernel)) rfl) (fun a0 a1 a2 M r h => c_X12_behind hst (by omega) F a0 a1 a2 M r h)⟩, List.forall_mem_cons.mpr ⟨⟨by omega, n_X12_can_ok (k := 357) (lw_good_of (tb_ok 1524 (by decide +kernel)) rfl) (fun a0 a1 a2 a3 M r h => c_X12_can hst (by omega) F a0 a1 a2 a3 M r h)⟩, List.forall_mem_cons.mpr ⟨⟨by omega, n_X12_goesTo_ok (k := 345) (lw_good_of (tb_ok 1508 (by decide +kernel)) rfl) (fun a0 a1 a2 M r h => c_X12_goesTo hst (by omega) F a0 a1 a2 M r h)⟩, fun _ h => absurd h List.not_mem_nil⟩⟩⟩⟩
def kd_X12_goes_16 (g : Nat → Int32 → Int32 → Int32 → cM → Option (cM)) : cKf (cM) := fun vs st M => (lR vs 0).bind fun x0 => (lI vs 1).bind fun x1 => (lI vs 2).bind fun x2 => (lI vs 3).bind fun x3 => match st with
  | [] => g x0 x1 x2 x3 M
  | _ => none
theorem kf_X12_goes_16 {X : cCtx} {o : cO} {r : cM} {g : Nat → Int32 → Int32 → Int32 → cM → Option (cM)} (hg : ∀ x0 x1 x2 x3 M, g x0 x1 x2 x3 M = some r → WX X 8 o 16 [some (.ref x0), some (.int x1), some (.int x2), some (.int x3), none, none, none, none] [] M) : ∀ vs st M, kd_X12_goes_16 g vs st M = some r → WX X 8 o 16 vs st M := by
  intro vs st M h
  unfold kd_X12_goes_16 at h
  obtain ⟨x0, h0, h⟩ := Option.bind_eq_some_iff.mp h
  obtain ⟨x1, h1, h⟩ := Option.bind_eq_some_iff.mp h
  obtain ⟨x2, h2, h⟩ := Option.bind_eq_some_iff.mp h
  obtain ⟨x3, h3, h⟩ := Option.bind_eq_some_iff.mp h
  split at h
  · exact WX_weak (hg _ _ _ _ _ h) rfl ⟨lR_of h0, lI_of h1, lI_of h2, lI_of h3, trivial⟩
  · cases h
def kd_X12_goes_43 (g : Nat → Int32 → Int32 → Int32 → Int32 → Int32 → cM → Option (cM)) : cKf (cM) := fun vs st M => (lR vs 0).bind fun x0 => (lI vs 1).bind fun x1 => (lI vs 2).bind fun x2 => (lI vs 3).bind fun x3 => (lI vs 4).bind fun x4 => (lI vs 5).bind fun x5 => match st with
  | [] => g x0 x1 x2 x3 x4 x5 M
  | _ => none
theorem kf_X12_goes_43 {X : cCtx} {o : cO} {r : cM} {g : Nat → Int32 → Int32 → Int32 → Int32 → Int32 → cM → Option (cM)} (hg : ∀ x0 x1 x2 x3 x4 x5 M, g x0 x1 x2 x3 x4 x5 M = some r → WX X 8 o 43 [some (.ref x0), some (.int x1), some (.int x2), some (.int x3), some (.int x4), some (.int x5), none, none] [] M) : ∀ vs st M, kd_X12_goes_43 g vs st M = some r → WX X 8 o 43 vs st M := by
  intro vs st M h
  unfold kd_X12_goes_43 at h
  obtain ⟨x0, h0, h⟩ := Option.bind_eq_some_iff.mp h
  obtain ⟨x1, h1, h⟩ := Option.bind_eq_some_iff.mp h
  obtain ⟨x2, h2, h⟩ := Option.bind_eq_some_iff.mp h
  obtain ⟨x3, h3, h⟩ := Option.bind_eq_some_iff.mp h
  obtain ⟨x4, h4, h⟩ := Option.bind_eq_some_iff.mp h
  obtain ⟨x5, h5, h⟩ := Option.bind_eq_some_iff.mp h
  split at h
  · exact WX_weak (hg _ _ _ _ _ _ _ h) rfl ⟨lR_of h0, lI_of h1, lI_of h2, lI_of h3, lI_of h4, lI_of h5, trivial⟩
  · cases h
def kd_X12_goes_109 (g : Nat → Int32 → Int32 → Int32 → Int32 → Int32 → Int32 → cM → Option (cM)) : cKf (cM) := fun vs st M => (lR vs 0).bind fun x0 => (lI vs 1).bind fun x1 => (lI vs 2).bind fun x2 => (lI vs 3).bind fun x3 => (lI vs 4).bind fun x4 => (lI vs 7).bind fun x7 => match st with
  | [.int s0] => g x0 x1 x2 x3 x4 x7 s0 M
  | _ => none
theorem kf_X12_goes_109 {X : cCtx} {o : cO} {r : cM} {g : Nat → Int32 → Int32 → Int32 → Int32 → Int32 → Int32 → cM → Option (cM)} (hg : ∀ x0 x1 x2 x3 x4 x7 s0 M, g x0 x1 x2 x3 x4 x7 s0 M = some r → WX X 8 o 109 [some (.ref x0), some (.int x1), some (.int x2), some (.int x3), some (.int x4), none, none, some (.int x7)] [.int s0] M) : ∀ vs st M, kd_X12_goes_109 g vs st M = some r → WX X 8 o 109 vs st M := by
  intro vs st M h
  unfold kd_X12_goes_109 at h
  obtain ⟨x0, h0, h⟩ := Option.bind_eq_some_iff.mp h
  obtain ⟨x1, h1, h⟩ := Option.bind_eq_some_iff.mp h
  obtain ⟨x2, h2, h⟩ := Option.bind_eq_some_iff.mp h
  obtain ⟨x3, h3, h⟩ := Option.bind_eq_some_iff.mp h
  obtain ⟨x4, h4, h⟩ := Option.bind_eq_some_iff.mp h
  obtain ⟨x7, h7, h⟩ := Option.bind_eq_some_iff.mp h
  split at h
  · exact WX_weak (hg _ _ _ _ _ _ _ _ h) rfl ⟨lR_of h0, lI_of h1, lI_of h2, lI_of h3, lI_of h4, lI_of h7, trivial⟩
  · cases h
def kd_X12_goes_139 (g : Nat → Int32 → Int32 → Int32 → Int32 → Int32 → cM → Option (cM)) : cKf (cM) := fun vs st M => (lR vs 0).bind fun x0 => (lI vs 1).bind fun x1 => (lI vs 2).bind fun x2 => (lI vs 3).bind fun x3 => (lI vs 4).bind fun x4 => match st with
  | [.int s0] => g x0 x1 x2 x3 x4 s0 M
  | _ => none
theorem kf_X12_goes_139 {X : cCtx} {o : cO} {r : cM} {g : Nat → Int32 → Int32 → Int32 → Int32 → Int32 → cM → Option (cM)} (hg : ∀ x0 x1 x2 x3 x4 s0 M, g x0 x1 x2 x3 x4 s0 M = some r → WX X 8 o 139 [some (.ref x0), some (.int x1), some (.int x2), some (.int x3), some (.int x4), none, none, none] [.int s0] M) : ∀ vs st M, kd_X12_goes_139 g vs st M = some r → WX X 8 o 139 vs st M := by
  intro vs st M h
  unfold kd_X12_goes_139 at h
  obtain ⟨x0, h0, h⟩ := Option.bind_eq_some_iff.mp h
  obtain ⟨x1, h1, h⟩ := Option.bind_eq_some_iff.mp h
  obtain ⟨x2, h2, h⟩ := Option.bind_eq_some_iff.mp h
  obtain ⟨x3, h3, h⟩ := Option.bind_eq_some_iff.mp h
  obtain ⟨x4, h4, h⟩ := Option.bind_eq_some_iff.mp h
  split at h
  · exact WX_weak (hg _ _ _ _ _ _ _ h) rfl ⟨lR_of h0, lI_of h1, lI_of h2, lI_of h3, lI_of h4, trivial⟩
  · cases h
def kd_X12_goes_160 (g : Nat → Int32 → Int32 → Int32 → Int32 → Int32 → cM → Option (cM)) : cKf (cM) := fun vs st M => (lR vs 0).bind fun x0 => (lI vs 1).bind fun x1 => (lI vs 2).bind fun x2 => (lI vs 3).bind fun x3 => (lI vs 4).bind fun x4 => (lI vs 5).bind fun x5 => match st with
  | [] => g x0 x1 x2 x3 x4 x5 M
  | _ => none
theorem kf_X12_goes_160 {X : cCtx} {o : cO} {r : cM} {g : Nat → Int32 → Int32 → Int32 → Int32 → Int32 → cM → Option (cM)} (hg : ∀ x0 x1 x2 x3 x4 x5 M, g x0 x1 x2 x3 x4 x5 M = some r → WX X 8 o 160 [some (.ref x0), some (.int x1), some (.int x2), some (.int x3), some (.int x4), some (.int x5), none, none] [] M) : ∀ vs st M, kd_X12_goes_160 g vs st M = some r → WX X 8 o 160 vs st M := by
  intro vs st M h
  unfold kd_X12_goes_160 at h
  obtain ⟨x0, h0, h⟩ := Option.bind_eq_some_iff.mp h
  obtain ⟨x1, h1, h⟩ := Option.bind_eq_some_iff.mp h
  obtain ⟨x2, h2, h⟩ := Option.bind_eq_some_iff.mp h
  obtain ⟨x3, h3, h⟩ := Option.bind_eq_some_iff.mp h
  obtain ⟨x4, h4, h⟩ := Option.bind_eq_some_iff.mp h
  obtain ⟨x5, h5, h⟩ := Option.bind_eq_some_iff.mp h
  split at h
  · exact WX_weak (hg _ _ _ _ _ _ _ h) rfl ⟨lR_of h0, lI_of h1, lI_of h2, lI_of h3, lI_of h4, lI_of h5, trivial⟩
  · cases h
def kd_X12_goes_190 (g : Nat → Int32 → Int32 → Int32 → Int32 → cM → Option (cM)) : cKf (cM) := fun vs st M => (lR vs 0).bind fun x0 => (lI vs 1).bind fun x1 => (lI vs 2).bind fun x2 => (lI vs 3).bind fun x3 => (lI vs 6).bind fun x6 => match st with
  | [] => g x0 x1 x2 x3 x6 M
  | _ => none
theorem kf_X12_goes_190 {X : cCtx} {o : cO} {r : cM} {g : Nat → Int32 → Int32 → Int32 → Int32 → cM → Option (cM)} (hg : ∀ x0 x1 x2 x3 x6 M, g x0 x1 x2 x3 x6 M = some r → WX X 8 o 190 [some (.ref x0), some (.int x1), some (.int x2), some (.int x3), none, none, some (.int x6), none] [] M) : ∀ vs st M, kd_X12_goes_190 g vs st M = some r → WX X 8 o 190 vs st M := by
  intro vs st M h
  unfold kd_X12_goes_190 at h
  obtain ⟨x0, h0, h⟩ := Option.bind_eq_some_iff.mp h
  obtain ⟨x1, h1, h⟩ := Option.bind_eq_some_iff.mp h
  obtain ⟨x2, h2, h⟩ := Option.bind_eq_some_iff.mp h
  obtain ⟨x3, h3, h⟩ := Option.bind_eq_some_iff.mp h
  obtain ⟨x6, h6, h⟩ := Option.bind_eq_some_iff.mp h
  split at h
  · exact WX_weak (hg _ _ _ _ _ _ h) rfl ⟨lR_of h0, lI_of h1, lI_of h2, lI_of h3, lI_of h6, trivial⟩
  · cases h
def kd_X12_goes_272 (g : Nat → Int32 → Int32 → Int32 → Int32 → cM → Option (cM)) : cKf (cM) := fun vs st M => (lR vs 0).bind fun x0 => (lI vs 1).bind fun x1 => (lI vs 2).bind fun x2 => (lI vs 3).bind fun x3 => (lI vs 4).bind fun x4 => match st with
  | [] => g x0 x1 x2 x3 x4 M
  | _ => none
theorem kf_X12_goes_272 {X : cCtx} {o : cO} {r : cM} {g : Nat → Int32 → Int32 → Int32 → Int32 → cM → Option (cM)} (hg : ∀ x0 x1 x2 x3 x4 M, g x0 x1 x2 x3 x4 M = some r → WX X 8 o 272 [some (.ref x0), some (.int x1), some (.int x2), some (.int x3), some (.int x4), none, none, none] [] M) : ∀ vs st M, kd_X12_goes_272 g vs st M = some r → WX X 8 o 272 vs st M := by
  intro vs st M h
  unfold kd_X12_goes_272 at h
  obtain ⟨x0, h0, h⟩ := Option.bind_eq_some_iff.mp h
  obtain ⟨x1, h1, h⟩ := Option.bind_eq_some_iff.mp h
  obtain ⟨x2, h2, h⟩ := Option.bind_eq_some_iff.mp h
  obtain ⟨x3, h3, h⟩ := Option.bind_eq_some_iff.mp h
  obtain ⟨x4, h4, h⟩ := Option.bind_eq_some_iff.mp h
  split at h
  · exact WX_weak (hg _ _ _ _ _ _ h) rfl ⟨lR_of h0, lI_of h1, lI_of h2, lI_of h3, lI_of h4, trivial⟩
  · cases h
set_option maxRecDepth 20000 in
theorem e_X12_goes_190 (F : Nat) (t16 : Nat → Int32 → Int32 → Int32 → cM → Option (cM)) (t190 : Nat → Int32 → Int32 → Int32 → Int32 → cM → Option (cM)) (x0 : Nat) (x1 : Int32) (x2 : Int32) (x3 : Int32) (x6 : Int32) (M : cM) : b_X12_goes_190 F t16 t190 x0 x1 x2 x3 x6 M = run T_X12_goes P_RX12 false 5 (naL na_X12_goes) (caL (ca_X12_goes F)) (lkN th_X12_goes) (lkN sw_X12_goes) krV kxN (spL [16, 190]) (KL [(16, kd_X12_goes_16 t16), (190, kd_X12_goes_190 t190)]) 192 190 [some (.ref x0), some (.int x1), some (.int x2), some (.int x3), none, none, some (.int x6), none] [] M := rfl
theorem ok_X12_goes_190 {X : cCtx} {D : Nat} {r : cM} (G : FX X 8 (eV r) cX12_goes RX12 5 D) {F : Nat} (hca : ∀ x ∈ (ca_X12_goes (R' := cM) F), 1 ≤ D ∧ ceS X.1 RX12 (D - 1) x.1 x.2) (k16 : Nat → Int32 → Int32 → Int32 → cM → Option (cM)) (hk16 : ∀ x0 x1 x2 x3 M, k16 x0 x1 x2 x3 M = some r → WX X 8 (eV r) 16 [some (.ref x0), some (.int x1), some (.int x2), some (.int x3), none, none, none, none] [] M) (n : Nat) : ∀ x0 x1 x2 x3 x6 M, f_X12_goes_190 F k16 n x0 x1 x2 x3 x6 M = some r → WX X 8 (eV r) 190 [some (.ref x0), some (.int x1), some (.int x2), some (.int x3), none, none, some (.int x6), none] [] M := by
  induction n with
  | zero => intro x0 x1 x2 x3 x6 M h; cases h
  | succ n ih =>
    intro x0 x1 x2 x3 x6 M h
    exact seg_ok G P_RX12_ok T_X12_goes_ok hca (fun _ h => absurd h List.not_mem_nil) sw_X12_goes_ok krV_ok (kxN_ok (f := eV)) (List.forall_mem_cons.mpr ⟨kf_X12_goes_16 (hk16), List.forall_mem_cons.mpr ⟨kf_X12_goes_190 (ih), fun _ h => absurd h List.not_mem_nil⟩⟩) ((e_X12_goes_190 F (k16) (f_X12_goes_190 F k16 n) x0 x1 x2 x3 x6 M).symm.trans h)
set_option maxRecDepth 20000 in
theorem e_X12_goes_272 (F : Nat) (t16 : Nat → Int32 → Int32 → Int32 → cM → Option (cM)) (x0 : Nat) (x1 : Int32) (x2 : Int32) (x3 : Int32) (x4 : Int32) (M : cM) : b_X12_goes_272 F t16 x0 x1 x2 x3 x4 M = run T_X12_goes P_RX12 false 5 (naL na_X12_goes) (caL (ca_X12_goes F)) (lkN th_X12_goes) (lkN sw_X12_goes) krV kxN (spL [16]) (KL [(16, kd_X12_goes_16 t16)]) 192 272 [some (.ref x0), some (.int x1), some (.int x2), some (.int x3), some (.int x4), none, none, none] [] M := rfl
theorem ok_X12_goes_272 {X : cCtx} {D : Nat} {r : cM} (G : FX X 8 (eV r) cX12_goes RX12 5 D) {F : Nat} (hca : ∀ x ∈ (ca_X12_goes (R' := cM) F), 1 ≤ D ∧ ceS X.1 RX12 (D - 1) x.1 x.2) (k16 : Nat → Int32 → Int32 → Int32 → cM → Option (cM)) (hk16 : ∀ x0 x1 x2 x3 M, k16 x0 x1 x2 x3 M = some r → WX X 8 (eV r) 16 [some (.ref x0), some (.int x1), some (.int x2), some (.int x3), none, none, none, none] [] M) : ∀ x0 x1 x2 x3 x4 M, f_X12_goes_272 F k16 x0 x1 x2 x3 x4 M = some r → WX X 8 (eV r) 272 [some (.ref x0), some (.int x1), some (.int x2), some (.int x3), some (.int x4), none, none, none] [] M := by
  intro x0 x1 x2 x3 x4 M h
  exact seg_ok G P_RX12_ok T_X12_goes_ok hca (fun _ h => absurd h List.not_mem_nil) sw_X12_goes_ok krV_ok (kxN_ok (f := eV)) (List.forall_mem_cons.mpr ⟨kf_X12_goes_16 (hk16), fun _ h => absurd h List.not_mem_nil⟩) ((e_X12_goes_272 F (k16) x0 x1 x2 x3 x4 M).symm.trans h)
set_option maxRecDepth 20000 in
theorem e_X12_goes_160 (F : Nat) (t16 : Nat → Int32 → Int32 → Int32 → cM → Option (cM)) (t190 : Nat → Int32 → Int32 → Int32 → Int32 → cM → Option (cM)) (t272 : Nat → Int32 → Int32 → Int32 → Int32 → cM → Option (cM)) (x0 : Nat) (x1 : Int32) (x2 : Int32) (x3 : Int32) (x4 : Int32) (x5 : Int32) (M : cM) : b_X12_goes_160 F t16 t190 t272 x0 x1 x2 x3 x4 x5 M = run T_X12_goes P_RX12 false 5 (naL na_X12_goes) (caL (ca_X12_goes F)) (lkN th_X12_goes) (lkN sw_X12_goes) krV kxN (spL [16, 190, 272]) (KL [(16, kd_X12_goes_16 t16), (190, kd_X12_goes_190 t190), (272, kd_X12_goes_272 t272)]) 192 160 [some (.ref x0), some (.int x1), some (.int x2), some (.int x3), some (.int x4), some (.int x5), none, none] [] M := rfl
theorem ok_X12_goes_160 {X : cCtx} {D : Nat} {r : cM} (G : FX X 8 (eV r) cX12_goes RX12 5 D) {F : Nat} (hca : ∀ x ∈ (ca_X12_goes (R' := cM) F), 1 ≤ D ∧ ceS X.1 RX12 (D - 1) x.1 x.2) (k16 : Nat → Int32 → Int32 → Int32 → cM → Option (cM)) (hk16 : ∀ x0 x1 x2 x3 M, k16 x0 x1 x2 x3 M = some r → WX X 8 (eV r) 16 [some (.ref x0), some (.int x1), some (.int x2), some (.int x3), none, none, none, none] [] M) : ∀ x0 x1 x2 x3 x4 x5 M, f_X12_goes_160 F k16 x0 x1 x2 x3 x4 x5 M = some r → WX X 8 (eV r) 160 [some (.ref x0), some (.int x1), some (.int x2), some (.int x3), some (.int x4), some (.int x5), none, none] [] M := by
  intro x0 x1 x2 x3 x4 x5 M h
  exact seg_ok G P_RX12_ok T_X12_goes_ok hca (fun _ h => absurd h List.not_mem_nil) sw_X12_goes_ok krV_ok (kxN_ok (f := eV)) (List.forall_mem_cons.mpr ⟨kf_X12_goes_16 (hk16), List.forall_mem_cons.mpr ⟨kf_X12_goes_190 (ok_X12_goes_190 G hca k16 hk16 F), List.forall_mem_cons.mpr ⟨kf_X12_goes_272 (ok_X12_goes_272 G hca k16 hk16), fun _ h => absurd h List.not_mem_nil⟩⟩⟩) ((e_X12_goes_160 F (k16) (f_X12_goes_190 F k16 F) (f_X12_goes_272 F k16) x0 x1 x2 x3 x4 x5 M).symm.trans h)
set_option maxRecDepth 20000 in
theorem e_X12_goes_139 (F : Nat) (t43 : Nat → Int32 → Int32 → Int32 → Int32 → Int32 → cM → Option (cM)) (x0 : Nat) (x1 : Int32) (x2 : Int32) (x3 : Int32) (x4 : Int32) (s0 : Int32) (M : cM) : b_X12_goes_139 F t43 x0 x1 x2 x3 x4 s0 M = run T_X12_goes P_RX12 false 5 (naL na_X12_goes) (caL (ca_X12_goes F)) (lkN th_X12_goes) (lkN sw_X12_goes) krV kxN (spL [43]) (KL [(43, kd_X12_goes_43 t43)]) 192 139 [some (.ref x0), some (.int x1), some (.int x2), some (.int x3), some (.int x4), none, none, none] [.int s0] M := rfl
theorem ok_X12_goes_139 {X : cCtx} {D : Nat} {r : cM} (G : FX X 8 (eV r) cX12_goes RX12 5 D) {F : Nat} (hca : ∀ x ∈ (ca_X12_goes (R' := cM) F), 1 ≤ D ∧ ceS X.1 RX12 (D - 1) x.1 x.2) (k16 : Nat → Int32 → Int32 → Int32 → cM → Option (cM)) (k43 : Nat → Int32 → Int32 → Int32 → Int32 → Int32 → cM → Option (cM)) (hk16 : ∀ x0 x1 x2 x3 M, k16 x0 x1 x2 x3 M = some r → WX X 8 (eV r) 16 [some (.ref x0), some (.int x1), some (.int x2), some (.int x3), none, none, none, none] [] M) (hk43 : ∀ x0 x1 x2 x3 x4 x5 M, k43 x0 x1 x2 x3 x4 x5 M = some r → WX X 8 (eV r) 43 [some (.ref x0), some (.int x1), some (.int x2), some (.int x3), some (.int x4), some (.int x5), none, none] [] M) : ∀ x0 x1 x2 x3 x4 s0 M, f_X12_goes_139 F k16 k43 x0 x1 x2 x3 x4 s0 M = some r → WX X 8 (eV r) 139 [some (.ref x0), some (.int x1), some (.int x2), some (.int x3), some (.int x4), none, none, none] [.int s0] M := by
  intro x0 x1 x2 x3 x4 s0 M h
  exact seg_ok G P_RX12_ok T_X12_goes_ok hca (fun _ h => absurd h List.not_mem_nil) sw_X12_goes_ok krV_ok (kxN_ok (f := eV)) (List.forall_mem_cons.mpr ⟨kf_X12_goes_43 (hk43), fun _ h => absurd h List.not_mem_nil⟩) ((e_X12_goes_139 F (k43) x0 x1 x2 x3 x4 s0 M).symm.trans h)
set_option maxRecDepth 20000 in
theorem e_X12_goes_109 (F : Nat) (t139 : Nat → Int32 → Int32 → Int32 → Int32 → Int32 → cM → Option (cM)) (x0 : Nat) (x1 : Int32) (x2 : Int32) (x3 : Int32) (x4 : Int32) (x7 : Int32) (s0 : Int32) (M : cM) : b_X12_goes_109 F t139 x0 x1 x2 x3 x4 x7 s0 M = run T_X12_goes P_RX12 false 5 (naL na_X12_goes) (caL (ca_X12_goes F)) (lkN th_X12_goes) (lkN sw_X12_goes) krV kxN (spL [139]) (KL [(139, kd_X12_goes_139 t139)]) 192 109 [some (.ref x0), some (.int x1), some (.int x2), some (.int x3), some (.int x4), none, none, some (.int x7)] [.int s0] M := rfl
theorem ok_X12_goes_109 {X : cCtx} {D : Nat} {r : cM} (G : FX X 8 (eV r) cX12_goes RX12 5 D) {F : Nat} (hca : ∀ x ∈ (ca_X12_goes (R' := cM) F), 1 ≤ D ∧ ceS X.1 RX12 (D - 1) x.1 x.2) (k16 : Nat → Int32 → Int32 → Int32 → cM → Option (cM)) (k43 : Nat → Int32 → Int32 → Int32 → Int32 → Int32 → cM → Option (cM)) (hk16 : ∀ x0 x1 x2 x3 M, k16 x0 x1 x2 x3 M = some r → WX X 8 (eV r) 16 [some (.ref x0), some (.int x1), some (.int x2), some (.int x3), none, none, none, none] [] M) (hk43 : ∀ x0 x1 x2 x3 x4 x5 M, k43 x0 x1 x2 x3 x4 x5 M = some r → WX X 8 (eV r) 43 [some (.ref x0), some (.int x1), some (.int x2), some (.int x3), some (.int x4), some (.int x5), none, none] [] M) : ∀ x0 x1 x2 x3 x4 x7 s0 M, f_X12_goes_109 F k16 k43 x0 x1 x2 x3 x4 x7 s0 M = some r → WX X 8 (eV r) 109 [some (.ref x0), some (.int x1), some (.int x2), some (.int x3), some (.int x4), none, none, some (.int x7)] [.int s0] M := by
  intro x0 x1 x2 x3 x4 x7 s0 M h
  exact seg_ok G P_RX12_ok T_X12_goes_ok hca (fun _ h => absurd h List.not_mem_nil) sw_X12_goes_ok krV_ok (kxN_ok (f := eV)) (List.forall_mem_cons.mpr ⟨kf_X12_goes_139 (ok_X12_goes_139 G hca k16 k43 hk16 hk43), fun _ h => absurd h List.not_mem_nil⟩) ((e_X12_goes_109 F (f_X12_goes_139 F k16 k43) x0 x1 x2 x3 x4 x7 s0 M).symm.trans h)
set_option maxRecDepth 20000 in
theorem e_X12_goes_43 (F : Nat) (t109 : Nat → Int32 → Int32 → Int32 → Int32 → Int32 → Int32 → cM → Option (cM)) (t160 : Nat → Int32 → Int32 → Int32 → Int32 → Int32 → cM → Option (cM)) (x0 : Nat) (x1 : Int32) (x2 : Int32) (x3 : Int32) (x4 : Int32) (x5 : Int32) (M : cM) : b_X12_goes_43 F t109 t160 x0 x1 x2 x3 x4 x5 M = run T_X12_goes P_RX12 false 5 (naL na_X12_goes) (caL (ca_X12_goes F)) (lkN th_X12_goes) (lkN sw_X12_goes) krV kxN (spL [109, 160]) (KL [(109, kd_X12_goes_109 t109), (160, kd_X12_goes_160 t160)]) 192 43 [some (.ref x0), some (.int x1), some (.int x2), some (.int x3), some (.int x4), some (.int x5), none, none] [] M := rfl
theorem ok_X12_goes_43 {X : cCtx} {D : Nat} {r : cM} (G : FX X 8 (eV r) cX12_goes RX12 5 D) {F : Nat} (hca : ∀ x ∈ (ca_X12_goes (R' := cM) F), 1 ≤ D ∧ ceS X.1 RX12 (D - 1) x.1 x.2) (k16 : Nat → Int32 → Int32 → Int32 → cM → Option (cM)) (hk16 : ∀ x0 x1 x2 x3 M, k16 x0 x1 x2 x3 M = some r → WX X 8 (eV r) 16 [some (.ref x0), some (.int x1), some (.int x2), some (.int x3), none, none, none, none] [] M) (n : Nat) : ∀ x0 x1 x2 x3 x4 x5 M, f_X12_goes_43 F k16 n x0 x1 x2 x3 x4 x5 M = some r → WX X 8 (eV r) 43 [some (.ref x0), some (.int x1), some (.int x2), some (.int x3), some (.int x4), some (.int x5), none, none] [] M := by
  induction n with
  | zero => intro x0 x1 x2 x3 x4 x5 M h; cases h
  | succ n ih =>
    intro x0 x1 x2 x3 x4 x5 M h
    exact seg_ok G P_RX12_ok T_X12_goes_ok hca (fun _ h => absurd h List.not_mem_nil) sw_X12_goes_ok krV_ok (kxN_ok (f := eV)) (List.forall_mem_cons.mpr ⟨kf_X12_goes_109 (ok_X12_goes_109 G hca k16 (f_X12_goes_43 F k16 n) hk16 ih), List.forall_mem_cons.mpr ⟨kf_X12_goes_160 (ok_X12_goes_160 G hca k16 hk16), fun _ h => absurd h List.not_mem_nil⟩⟩) ((e_X12_goes_43 F (f_X12_goes_109 F k16 (f_X12_goes_43 F k16 n)) (f_X12_goes_160 F k16) x0 x1 x2 x3 x4 x5 M).symm.trans h)
set_option maxRecDepth 20000 in
theorem e_X12_goes_16 (F : Nat) (t43 : Nat → Int32 → Int32 → Int32 → Int32 → Int32 → cM → Option (cM)) (x0 : Nat) (x1 : Int32) (x2 : Int32) (x3 : Int32) (M : cM) : b_X12_goes_16 F t43 x0 x1 x2 x3 M = run T_X12_goes P_RX12 false 5 (naL na_X12_goes) (caL (ca_X12_goes F)) (lkN th_X12_goes) (lkN sw_X12_goes) krV kxN (spL [43]) (KL [(43, kd_X12_goes_43 t43)]) 192 16 [some (.ref x0), some (.int x1), some (.int x2), some (.int x3), none, none, none, none] [] M := rfl
theorem ok_X12_goes_16 {X : cCtx} {D : Nat} {r : cM} (G : FX X 8 (eV r) cX12_goes RX12 5 D) {F : Nat} (hca : ∀ x ∈ (ca_X12_goes (R' := cM) F), 1 ≤ D ∧ ceS X.1 RX12 (D - 1) x.1 x.2) (n : Nat) : ∀ x0 x1 x2 x3 M, f_X12_goes_16 F n x0 x1 x2 x3 M = some r → WX X 8 (eV r) 16 [some (.ref x0), some (.int x1), some (.int x2), some (.int x3), none, none, none, none] [] M := by
  induction n with
  | zero => intro x0 x1 x2 x3 M h; cases h
  | succ n ih =>
    intro x0 x1 x2 x3 M h
    exact seg_ok G P_RX12_ok T_X12_goes_ok hca (fun _ h => absurd h List.not_mem_nil) sw_X12_goes_ok krV_ok (kxN_ok (f := eV)) (List.forall_mem_cons.mpr ⟨kf_X12_goes_43 (ok_X12_goes_43 G hca (f_X12_goes_16 F n) ih F), fun _ h => absurd h List.not_mem_nil⟩) ((e_X12_goes_16 F (f_X12_goes_43 F (f_X12_goes_16 F n) F) x0 x1 x2 x3 M).symm.trans h)
set_option maxRecDepth 20000 in
theorem e_X12_goes_0 (F : Nat) (t16 : Nat → Int32 → Int32 → Int32 → cM → Option (cM)) (x0 : Nat) (x1 : Int32) (x2 : Int32) (M : cM) : b_X12_goes_0 F t16 x0 x1 x2 M = run T_X12_goes P_RX12 false 5 (naL na_X12_goes) (caL (ca_X12_goes F)) (lkN th_X12_goes) (lkN sw_X12_goes) krV kxN (spL [16]) (KL [(16, kd_X12_goes_16 t16)]) 192 0 [some (.ref x0), some (.int x1), some (.int x2), none, none, none, none, none] [] M := rfl
theorem ok_X12_goes_0 {X : cCtx} {D : Nat} {r : cM} (G : FX X 8 (eV r) cX12_goes RX12 5 D) {F : Nat} (hca : ∀ x ∈ (ca_X12_goes (R' := cM) F), 1 ≤ D ∧ ceS X.1 RX12 (D - 1) x.1 x.2) : ∀ x0 x1 x2 M, f_X12_goes_0 F x0 x1 x2 M = some r → WX X 8 (eV r) 0 [some (.ref x0), some (.int x1), some (.int x2), none, none, none, none, none] [] M := by
  intro x0 x1 x2 M h
  exact seg_ok G P_RX12_ok T_X12_goes_ok hca (fun _ h => absurd h List.not_mem_nil) sw_X12_goes_ok krV_ok (kxN_ok (f := eV)) (List.forall_mem_cons.mpr ⟨kf_X12_goes_16 (ok_X12_goes_16 G hca F), fun _ h => absurd h List.not_mem_nil⟩) ((e_X12_goes_0 F (f_X12_goes_16 F F) x0 x1 x2 M).symm.trans h)
theorem c_X12_goes {q : cL} (hst : q.1.stackTraces = false) {D : Nat} (hD : 2 ≤ D) (F : Nat) (a0 : Nat) (a1 : Int32) (a2 : Int32) (M : cM) (r : cM) (h : f_X12_goes F a0 a1 a2 M = some r) : CTx q yX12_goes (.code yX12_goes cX12_goes 8 none) D [.ref a0, .int a1, .int a2] M (eV r) ∧ ∃ fs, M[a0]? = some (.inr (10, fs)) := by
  unfold f_X12_goes at h
  split at h
  · next hi => exact ⟨CTx_of (own := RX12) (rk := 5) hst (by decide +kernel) rfl (rfl) (Nat.le_of_ble_eq_true rfl) (fun X hX G => by subst hX; exact ok_X12_goes_0 G (ca_X12_goes_ok hst hD F) a0 a1 a2 M h), isC_of hi⟩
  · cases h
def n_X12_goes {R' : Type} (f : Nat → Int32 → Int32 → cM → Option (cM)) : cFn R' := fun as M κ κx => match as with
  | [.ref a0, .int a1, .int a2] => (f a0 a1 a2 M).bind fun p => κ none p
  | _ => none
theorem w_X12_goes : ∀ w ∈ [Cond.instanceMethod yX12_goes, .selects yX12_goes.cls yX12_goes yX12_goes, .initialized yX12_goes.cls, .code yX12_goes cX12_goes 8 none], w ∈ lw_good := List.forall_mem_cons.mpr ⟨lw_good_of (tb_ok 1530 (by decide +kernel)) rfl, List.forall_mem_cons.mpr ⟨lw_good_of (ts_ok 62 (by decide +kernel)) rfl, List.forall_mem_cons.mpr ⟨lw_good_of (tb_ok 11 (by decide +kernel)) rfl, List.forall_mem_cons.mpr ⟨lw_good_of (tb_ok 1531 (by decide +kernel)) rfl, fun _ h => absurd h List.not_mem_nil⟩⟩⟩⟩
theorem n_X12_goes_ok {R' : Type} {q : cL} {own : String} {d k : Nat} {f : Nat → Int32 → Int32 → cM → Option (cM)} (hl : Cond.methodLink own k yX12_goes ∈ lw_good) (hf : ∀ a0 a1 a2 M r, f a0 a1 a2 M = some r → CTx q yX12_goes (.code yX12_goes cX12_goes 8 none) d [.ref a0, .int a1, .int a2] M (eV r) ∧ ∃ fs, M[a0]? = some (.inr (10, fs))) : ceS q own d (3 * k + 1) (n_X12_goes (R' := R') f) := by
  intro as M κ κx r h
  unfold n_X12_goes at h
  split at h
  · obtain ⟨p, h1, h2⟩ := Option.bind_eq_some_iff.mp h
    obtain ⟨hc, fs, ha⟩ := hf _ _ _ _ _ h1
    exact ⟨eV p, fun _ => h2, fun hne => absurd rfl hne, Or.inr (Or.inl ⟨yX12_goes, cX12_goes, 8, none, k, 2, _, _, 10, TX12, 76, fs, rfl, rfl, hc, ha, rfl, List.forall_mem_cons.mpr ⟨hl, w_X12_goes⟩, ⟨rfl, by decide +kernel, by decide +kernel, by decide +kernel⟩, rfl, by decide⟩)⟩
  · cases h
