/-! THE LAW'S WRAPPERS (laid by wip/whole/tools/gen_law.py) -/
def n_X11_atomAt {R' : Type} (f : Nat → Int32 → Int32 → Int32 → Int32 → cM → Option (Nat × Int32 × cM)) : cFn R' := fun as M κ κx => match as with
  | [.ref a0, .int a1, .int a2, .int a3, .int a4] => (f a0 a1 a2 a3 a4 M).bind fun p => if p.1 = 0 then κ (some (.int p.2.1)) p.2.2 else κx p.1 p.2.2
  | _ => none
theorem w_X11_atomAt : ∀ w ∈ [Cond.instanceMethod yX11_atomAt, .selects yX11_atomAt.cls yX11_atomAt yX11_atomAt, .initialized yX11_atomAt.cls, .code yX11_atomAt cX11_atomAt 7 (some .int)], w ∈ lw_good := List.forall_mem_cons.mpr ⟨lw_good_of (tb_ok 1032 (by decide +kernel)) rfl, List.forall_mem_cons.mpr ⟨lw_good_of (tb_ok 1033 (by decide +kernel)) rfl, List.forall_mem_cons.mpr ⟨lw_good_of (tb_ok 1 (by decide +kernel)) rfl, List.forall_mem_cons.mpr ⟨lw_good_of (tb_ok 1034 (by decide +kernel)) rfl, fun _ h => absurd h List.not_mem_nil⟩⟩⟩⟩
theorem n_X11_atomAt_ok {R' : Type} {q : cL} {own : String} {d k : Nat} {f : Nat → Int32 → Int32 → Int32 → Int32 → cM → Option (Nat × Int32 × cM)} (hl : Cond.methodLink own k yX11_atomAt ∈ lw_good) (hf : ∀ a0 a1 a2 a3 a4 M r, f a0 a1 a2 a3 a4 M = some r → CTx q yX11_atomAt (.code yX11_atomAt cX11_atomAt 7 (some .int)) d [.ref a0, .int a1, .int a2, .int a3, .int a4] M (eTI r) ∧ ∃ fs, M[a0]? = some (.inr (9, fs))) : ceS q own d (3 * k + 1) (n_X11_atomAt (R' := R') f) := by
  intro as M κ κx r h
  unfold n_X11_atomAt at h
  split at h
  · obtain ⟨p, h1, h2⟩ := Option.bind_eq_some_iff.mp h
    obtain ⟨hc, fs, ha⟩ := hf _ _ _ _ _ _ _ h1
    exact ⟨eTI p, fun (h0 : p.1 = 0) => by unfold eTI; dsimp only; rw [if_pos h0] at h2 ⊢; exact h2, fun (h0 : p.1 ≠ 0) => by rw [if_neg h0] at h2; exact h2, Or.inr (Or.inl ⟨yX11_atomAt, cX11_atomAt, 7, (some .int), k, 4, _, _, 9, TX11, 10, fs, rfl, rfl, hc, ha, rfl, List.forall_mem_cons.mpr ⟨hl, w_X11_atomAt⟩, ⟨rfl, by decide +kernel, by decide +kernel, by decide +kernel⟩, rfl, by decide⟩)⟩
  · cases h
-- PatchbayScriptLaw.atomAt(LPatchbayScript;IZII[J)I
def T_L_atomAt : List cRow := [(0, .aload 5, 2, 0), (2, .iconst 0, 3, 0), (3, .aload_n 0, 4, 0), (4, .iload_n 1, 5, 0), (5, .iload_n 2, 6, 0), (6, .iload_n 3, 7, 0), (7, .iload 4, 9, 0), (9, .invokevirtual 60, 12, 0), (12, .i2l, 13, 0), (13, .lastore, 14, 0), (14, .goto 11, 17, 25), (25, .iconst 0, 26, 0), (26, .ireturn, 27, 0)]
theorem T_L_atomAt_ok : T_L_atomAt.all (rowB cL_atomAt) = true := by decide +kernel
def ca_L_atomAt (F : Nat) : List (Nat × cFn (Int32 × cM)) := [(181, n_X11_atomAt (f_X11_atomAt F))]
theorem ca_L_atomAt_ok {q : cL} (hst : q.1.stackTraces = false) {D : Nat} (hD : 8 ≤ D) (F : Nat) : ∀ x ∈ ca_L_atomAt F, 1 ≤ D ∧ ceS q RL (D - 1) x.1 x.2 := List.forall_mem_cons.mpr ⟨⟨by omega, n_X11_atomAt_ok (k := 60) (lw_good_of (tb_ok 1031 (by decide +kernel)) rfl) (fun a0 a1 a2 a3 a4 M r h => c_X11_atomAt hst (by omega) F a0 a1 a2 a3 a4 M r h)⟩, fun _ h => absurd h List.not_mem_nil⟩
def h_L_atomAt : List (Nat × Nat × Nat × Nat) := [(0, 14, 17, 25), (0, 14, 21, 13)]
def x_L_atomAt : List (Nat × Int32) := [(1, 2), (3, 1)]
theorem x_L_atomAt_ok : ∀ x ∈ x_L_atomAt, hOK RL cL_atomAt 7 (tableOf h_L_atomAt) 9 x.1 x.2 := List.forall_mem_cons.mpr ⟨⟨Or.inl rfl, [⟨0, 14, 17, 25⟩], ⟨0, 14, 21, 13⟩, [], 6, 2, 2, rfl, List.forall_mem_cons.mpr ⟨⟨by decide, 3, by decide, by decide, lw_good_of (tb_ok 635 (by decide +kernel)) rfl⟩, fun _ h => absurd h List.not_mem_nil⟩, by decide +kernel, by decide, lw_good_of (tb_ok 409 (by decide +kernel)) rfl, by decide, Or.inr ⟨rfl, by decide +kernel⟩, by decide +kernel, rfl, by decide +kernel⟩, List.forall_mem_cons.mpr ⟨⟨Or.inr (Or.inr rfl), [], ⟨0, 14, 17, 25⟩, [⟨0, 14, 21, 13⟩], 6, 2, 1, rfl, fun _ h => absurd h List.not_mem_nil, by decide +kernel, by decide, lw_good_of (tb_ok 635 (by decide +kernel)) rfl, by decide, Or.inr ⟨rfl, by decide +kernel⟩, by decide +kernel, rfl, by decide +kernel⟩, fun _ h => absurd h List.not_mem_nil⟩⟩
noncomputable def f_L_atomAt (F : Nat) (a0 : Nat) (a1 : Int32) (a2 : Int32) (a3 : Int32) (a4 : Int32) (a5 : Nat) (M : cM) : Option (Int32 × cM) := runW T_L_atomAt x_L_atomAt [9] [(9, kW T_L_atomAt (ca_L_atomAt F) x_L_atomAt 9 60 5 16)] 16 0 (ent [.ref a0, .int a1, .int a2, .int a3, .int a4, .ref a5] 7) [] M
theorem c_L_atomAt {q : cL} (hst : q.1.stackTraces = false) {D : Nat} (hD : 8 ≤ D) (F : Nat) (a0 : Nat) (a1 : Int32) (a2 : Int32) (a3 : Int32) (a4 : Int32) (a5 : Nat) (M : cM) (r : Int32 × cM) (h : f_L_atomAt F a0 a1 a2 a3 a4 a5 M = some r) : CTW q yL_atomAt cL_atomAt 7 h_L_atomAt D [.ref a0, .int a1, .int a2, .int a3, .int a4, .ref a5] M r :=
  wrap_ok (own := RL) (by decide +kernel) rfl (Nat.le_of_ble_eq_true rfl) T_L_atomAt_ok (ca_L_atomAt_ok hst hD F) (by decide +kernel) x_L_atomAt_ok h
def n_X11_condition {R' : Type} (f : Nat → Int32 → cM → Option (Nat × Int32 × cM)) : cFn R' := fun as M κ κx => match as with
  | [.ref a0, .int a1] => (f a0 a1 M).bind fun p => if p.1 = 0 then κ (some (.int p.2.1)) p.2.2 else κx p.1 p.2.2
  | _ => none
theorem w_X11_condition : ∀ w ∈ [Cond.instanceMethod yX11_condition, .selects yX11_condition.cls yX11_condition yX11_condition, .initialized yX11_condition.cls, .code yX11_condition cX11_condition 2 (some .int)], w ∈ lw_good := List.forall_mem_cons.mpr ⟨lw_good_of (tb_ok 1025 (by decide +kernel)) rfl, List.forall_mem_cons.mpr ⟨lw_good_of (tb_ok 1026 (by decide +kernel)) rfl, List.forall_mem_cons.mpr ⟨lw_good_of (tb_ok 1 (by decide +kernel)) rfl, List.forall_mem_cons.mpr ⟨lw_good_of (tb_ok 1027 (by decide +kernel)) rfl, fun _ h => absurd h List.not_mem_nil⟩⟩⟩⟩
theorem n_X11_condition_ok {R' : Type} {q : cL} {own : String} {d k : Nat} {f : Nat → Int32 → cM → Option (Nat × Int32 × cM)} (hl : Cond.methodLink own k yX11_condition ∈ lw_good) (hf : ∀ a0 a1 M r, f a0 a1 M = some r → CTx q yX11_condition (.code yX11_condition cX11_condition 2 (some .int)) d [.ref a0, .int a1] M (eTI r) ∧ ∃ fs, M[a0]? = some (.inr (9, fs))) : ceS q own d (3 * k + 1) (n_X11_condition (R' := R') f) := by
  intro as M κ κx r h
  unfold n_X11_condition at h
  split at h
  · obtain ⟨p, h1, h2⟩ := Option.bind_eq_some_iff.mp h
    obtain ⟨hc, fs, ha⟩ := hf _ _ _ _ h1
    exact ⟨eTI p, fun (h0 : p.1 = 0) => by unfold eTI; dsimp only; rw [if_pos h0] at h2 ⊢; exact h2, fun (h0 : p.1 ≠ 0) => by rw [if_neg h0] at h2; exact h2, Or.inr (Or.inl ⟨yX11_condition, cX11_condition, 2, (some .int), k, 1, _, _, 9, TX11, 10, fs, rfl, rfl, hc, ha, rfl, List.forall_mem_cons.mpr ⟨hl, w_X11_condition⟩, ⟨rfl, by decide +kernel, by decide +kernel, by decide +kernel⟩, rfl, by decide⟩)⟩
  · cases h
-- PatchbayScriptLaw.condition(LPatchbayScript;I[J)I
def T_L_condition : List cRow := [(0, .aload_n 2, 1, 0), (1, .iconst 0, 2, 0), (2, .aload_n 0, 3, 0), (3, .iload_n 1, 4, 0), (4, .invokevirtual 57, 7, 0), (7, .i2l, 8, 0), (8, .lastore, 9, 0), (9, .goto 6, 12, 15), (15, .iconst 0, 16, 0), (16, .ireturn, 17, 0)]
theorem T_L_condition_ok : T_L_condition.all (rowB cL_condition) = true := by decide +kernel
def ca_L_condition (F : Nat) : List (Nat × cFn (Int32 × cM)) := [(172, n_X11_condition (f_X11_condition F))]
theorem ca_L_condition_ok {q : cL} (hst : q.1.stackTraces = false) {D : Nat} (hD : 8 ≤ D) (F : Nat) : ∀ x ∈ ca_L_condition F, 1 ≤ D ∧ ceS q RL (D - 1) x.1 x.2 := List.forall_mem_cons.mpr ⟨⟨by omega, n_X11_condition_ok (k := 57) (lw_good_of (tb_ok 1024 (by decide +kernel)) rfl) (fun a0 a1 M r h => c_X11_condition hst (by omega) F a0 a1 M r h)⟩, fun _ h => absurd h List.not_mem_nil⟩
def h_L_condition : List (Nat × Nat × Nat × Nat) := [(0, 9, 12, 25)]
def x_L_condition : List (Nat × Int32) := [(3, 1)]
theorem x_L_condition_ok : ∀ x ∈ x_L_condition, hOK RL cL_condition 4 (tableOf h_L_condition) 4 x.1 x.2 := List.forall_mem_cons.mpr ⟨⟨Or.inr (Or.inr rfl), [], ⟨0, 9, 12, 25⟩, [], 3, 1, 1, rfl, fun _ h => absurd h List.not_mem_nil, by decide +kernel, by decide, lw_good_of (tb_ok 635 (by decide +kernel)) rfl, by decide, Or.inl ⟨3, rfl, rfl, by decide +kernel⟩, by decide +kernel, rfl, by decide +kernel⟩, fun _ h => absurd h List.not_mem_nil⟩
noncomputable def f_L_condition (F : Nat) (a0 : Nat) (a1 : Int32) (a2 : Nat) (M : cM) : Option (Int32 × cM) := runW T_L_condition x_L_condition [4] [(4, kW T_L_condition (ca_L_condition F) x_L_condition 4 57 2 13)] 13 0 (ent [.ref a0, .int a1, .ref a2] 4) [] M
theorem c_L_condition {q : cL} (hst : q.1.stackTraces = false) {D : Nat} (hD : 8 ≤ D) (F : Nat) (a0 : Nat) (a1 : Int32) (a2 : Nat) (M : cM) (r : Int32 × cM) (h : f_L_condition F a0 a1 a2 M = some r) : CTW q yL_condition cL_condition 4 h_L_condition D [.ref a0, .int a1, .ref a2] M r :=
  wrap_ok (own := RL) (by decide +kernel) rfl (Nat.le_of_ble_eq_true rfl) T_L_condition_ok (ca_L_condition_ok hst hD F) (by decide +kernel) x_L_condition_ok h
def n_X11_count {R' : Type} (f : Nat → Int32 → cM → Option (Nat × Int32 × cM)) : cFn R' := fun as M κ κx => match as with
  | [.ref a0, .int a1] => (f a0 a1 M).bind fun p => if p.1 = 0 then κ (some (.int p.2.1)) p.2.2 else κx p.1 p.2.2
  | _ => none
theorem w_X11_count : ∀ w ∈ [Cond.instanceMethod yX11_count, .selects yX11_count.cls yX11_count yX11_count, .initialized yX11_count.cls, .code yX11_count cX11_count 2 (some .int)], w ∈ lw_good := List.forall_mem_cons.mpr ⟨lw_good_of (tb_ok 996 (by decide +kernel)) rfl, List.forall_mem_cons.mpr ⟨lw_good_of (tb_ok 997 (by decide +kernel)) rfl, List.forall_mem_cons.mpr ⟨lw_good_of (tb_ok 1 (by decide +kernel)) rfl, List.forall_mem_cons.mpr ⟨lw_good_of (tb_ok 998 (by decide +kernel)) rfl, fun _ h => absurd h List.not_mem_nil⟩⟩⟩⟩
theorem n_X11_count_ok {R' : Type} {q : cL} {own : String} {d k : Nat} {f : Nat → Int32 → cM → Option (Nat × Int32 × cM)} (hl : Cond.methodLink own k yX11_count ∈ lw_good) (hf : ∀ a0 a1 M r, f a0 a1 M = some r → CTx q yX11_count (.code yX11_count cX11_count 2 (some .int)) d [.ref a0, .int a1] M (eTI r) ∧ ∃ fs, M[a0]? = some (.inr (9, fs))) : ceS q own d (3 * k + 1) (n_X11_count (R' := R') f) := by
  intro as M κ κx r h
  unfold n_X11_count at h
  split at h
  · obtain ⟨p, h1, h2⟩ := Option.bind_eq_some_iff.mp h
    obtain ⟨hc, fs, ha⟩ := hf _ _ _ _ h1
    exact ⟨eTI p, fun (h0 : p.1 = 0) => by unfold eTI; dsimp only; rw [if_pos h0] at h2 ⊢; exact h2, fun (h0 : p.1 ≠ 0) => by rw [if_neg h0] at h2; exact h2, Or.inr (Or.inl ⟨yX11_count, cX11_count, 2, (some .int), k, 1, _, _, 9, TX11, 10, fs, rfl, rfl, hc, ha, rfl, List.forall_mem_cons.mpr ⟨hl, w_X11_count⟩, ⟨rfl, by decide +kernel, by decide +kernel, by decide +kernel⟩, rfl, by decide⟩)⟩
  · cases h
-- PatchbayScriptLaw.count(LPatchbayScript;I[J)I
def T_L_count : List cRow := [(0, .aload_n 2, 1, 0), (1, .iconst 0, 2, 0), (2, .aload_n 0, 3, 0), (3, .iload_n 1, 4, 0), (4, .invokevirtual 48, 7, 0), (7, .i2l, 8, 0), (8, .lastore, 9, 0), (9, .goto 6, 12, 15), (15, .iconst 0, 16, 0), (16, .ireturn, 17, 0)]
theorem T_L_count_ok : T_L_count.all (rowB cL_count) = true := by decide +kernel
def ca_L_count (F : Nat) : List (Nat × cFn (Int32 × cM)) := [(145, n_X11_count (f_X11_count F))]
theorem ca_L_count_ok {q : cL} (hst : q.1.stackTraces = false) {D : Nat} (hD : 51 ≤ D) (F : Nat) : ∀ x ∈ ca_L_count F, 1 ≤ D ∧ ceS q RL (D - 1) x.1 x.2 := List.forall_mem_cons.mpr ⟨⟨by omega, n_X11_count_ok (k := 48) (lw_good_of (tb_ok 995 (by decide +kernel)) rfl) (fun a0 a1 M r h => c_X11_count hst (by omega) F a0 a1 M r h)⟩, fun _ h => absurd h List.not_mem_nil⟩
def h_L_count : List (Nat × Nat × Nat × Nat) := [(0, 9, 12, 25)]
def x_L_count : List (Nat × Int32) := [(3, 1)]
theorem x_L_count_ok : ∀ x ∈ x_L_count, hOK RL cL_count 4 (tableOf h_L_count) 4 x.1 x.2 := List.forall_mem_cons.mpr ⟨⟨Or.inr (Or.inr rfl), [], ⟨0, 9, 12, 25⟩, [], 3, 1, 1, rfl, fun _ h => absurd h List.not_mem_nil, by decide +kernel, by decide, lw_good_of (tb_ok 635 (by decide +kernel)) rfl, by decide, Or.inl ⟨3, rfl, rfl, by decide +kernel⟩, by decide +kernel, rfl, by decide +kernel⟩, fun _ h => absurd h List.not_mem_nil⟩
noncomputable def f_L_count (F : Nat) (a0 : Nat) (a1 : Int32) (a2 : Nat) (M : cM) : Option (Int32 × cM) := runW T_L_count x_L_count [4] [(4, kW T_L_count (ca_L_count F) x_L_count 4 48 2 13)] 13 0 (ent [.ref a0, .int a1, .ref a2] 4) [] M
theorem c_L_count {q : cL} (hst : q.1.stackTraces = false) {D : Nat} (hD : 51 ≤ D) (F : Nat) (a0 : Nat) (a1 : Int32) (a2 : Nat) (M : cM) (r : Int32 × cM) (h : f_L_count F a0 a1 a2 M = some r) : CTW q yL_count cL_count 4 h_L_count D [.ref a0, .int a1, .ref a2] M r :=
  wrap_ok (own := RL) (by decide +kernel) rfl (Nat.le_of_ble_eq_true rfl) T_L_count_ok (ca_L_count_ok hst hD F) (by decide +kernel) x_L_count_ok h
def n_X11_learn {R' : Type} (f : Nat → Int32 → cM → Option (Nat × Int32 × cM)) : cFn R' := fun as M κ κx => match as with
  | [.ref a0, .int a1] => (f a0 a1 M).bind fun p => if p.1 = 0 then κ (some (.int p.2.1)) p.2.2 else κx p.1 p.2.2
  | _ => none
theorem w_X11_learn : ∀ w ∈ [Cond.instanceMethod yX11_learn, .selects yX11_learn.cls yX11_learn yX11_learn, .initialized yX11_learn.cls, .code yX11_learn cX11_learn 2 (some .int)], w ∈ lw_good := List.forall_mem_cons.mpr ⟨lw_good_of (tb_ok 762 (by decide +kernel)) rfl, List.forall_mem_cons.mpr ⟨lw_good_of (tb_ok 763 (by decide +kernel)) rfl, List.forall_mem_cons.mpr ⟨lw_good_of (tb_ok 1 (by decide +kernel)) rfl, List.forall_mem_cons.mpr ⟨lw_good_of (tb_ok 764 (by decide +kernel)) rfl, fun _ h => absurd h List.not_mem_nil⟩⟩⟩⟩
theorem n_X11_learn_ok {R' : Type} {q : cL} {own : String} {d k : Nat} {f : Nat → Int32 → cM → Option (Nat × Int32 × cM)} (hl : Cond.methodLink own k yX11_learn ∈ lw_good) (hf : ∀ a0 a1 M r, f a0 a1 M = some r → CTx q yX11_learn (.code yX11_learn cX11_learn 2 (some .int)) d [.ref a0, .int a1] M (eTI r) ∧ ∃ fs, M[a0]? = some (.inr (9, fs))) : ceS q own d (3 * k + 1) (n_X11_learn (R' := R') f) := by
  intro as M κ κx r h
  unfold n_X11_learn at h
  split at h
  · obtain ⟨p, h1, h2⟩ := Option.bind_eq_some_iff.mp h
    obtain ⟨hc, fs, ha⟩ := hf _ _ _ _ h1
    exact ⟨eTI p, fun (h0 : p.1 = 0) => by unfold eTI; dsimp only; rw [if_pos h0] at h2 ⊢; exact h2, fun (h0 : p.1 ≠ 0) => by rw [if_neg h0] at h2; exact h2, Or.inr (Or.inl ⟨yX11_learn, cX11_learn, 2, (some .int), k, 1, _, _, 9, TX11, 10, fs, rfl, rfl, hc, ha, rfl, List.forall_mem_cons.mpr ⟨hl, w_X11_learn⟩, ⟨rfl, by decide +kernel, by decide +kernel, by decide +kernel⟩, rfl, by decide⟩)⟩
  · cases h
-- PatchbayScriptLaw.learn(LPatchbayScript;I[J)I
def T_L_learn : List cRow := [(0, .aload_n 2, 1, 0), (1, .iconst 0, 2, 0), (2, .aload_n 0, 3, 0), (3, .iload_n 1, 4, 0), (4, .invokevirtual 45, 7, 0), (7, .i2l, 8, 0), (8, .lastore, 9, 0), (9, .goto 9, 12, 18), (18, .iconst 0, 19, 0), (19, .ireturn, 20, 0)]
theorem T_L_learn_ok : T_L_learn.all (rowB cL_learn) = true := by decide +kernel
def ca_L_learn (F : Nat) : List (Nat × cFn (Int32 × cM)) := [(136, n_X11_learn (f_X11_learn F))]
theorem ca_L_learn_ok {q : cL} (hst : q.1.stackTraces = false) {D : Nat} (hD : 52 ≤ D) (F : Nat) : ∀ x ∈ ca_L_learn F, 1 ≤ D ∧ ceS q RL (D - 1) x.1 x.2 := List.forall_mem_cons.mpr ⟨⟨by omega, n_X11_learn_ok (k := 45) (lw_good_of (tb_ok 761 (by decide +kernel)) rfl) (fun a0 a1 M r h => c_X11_learn hst (by omega) F a0 a1 M r h)⟩, fun _ h => absurd h List.not_mem_nil⟩
def h_L_learn : List (Nat × Nat × Nat × Nat) := [(0, 9, 12, 25), (0, 9, 15, 15)]
def x_L_learn : List (Nat × Int32) := [(2, 2), (3, 1)]
theorem x_L_learn_ok : ∀ x ∈ x_L_learn, hOK RL cL_learn 4 (tableOf h_L_learn) 4 x.1 x.2 := List.forall_mem_cons.mpr ⟨⟨Or.inr (Or.inl rfl), [⟨0, 9, 12, 25⟩], ⟨0, 9, 15, 15⟩, [], 3, 1, 2, rfl, List.forall_mem_cons.mpr ⟨⟨by decide, 3, by decide, by decide, lw_good_of (tb_ok 635 (by decide +kernel)) rfl⟩, fun _ h => absurd h List.not_mem_nil⟩, by decide +kernel, by decide, lw_good_of (tb_ok 410 (by decide +kernel)) rfl, by decide, Or.inl ⟨3, rfl, rfl, by decide +kernel⟩, by decide +kernel, rfl, by decide +kernel⟩, List.forall_mem_cons.mpr ⟨⟨Or.inr (Or.inr rfl), [], ⟨0, 9, 12, 25⟩, [⟨0, 9, 15, 15⟩], 3, 1, 1, rfl, fun _ h => absurd h List.not_mem_nil, by decide +kernel, by decide, lw_good_of (tb_ok 635 (by decide +kernel)) rfl, by decide, Or.inl ⟨3, rfl, rfl, by decide +kernel⟩, by decide +kernel, rfl, by decide +kernel⟩, fun _ h => absurd h List.not_mem_nil⟩⟩
noncomputable def f_L_learn (F : Nat) (a0 : Nat) (a1 : Int32) (a2 : Nat) (M : cM) : Option (Int32 × cM) := runW T_L_learn x_L_learn [4] [(4, kW T_L_learn (ca_L_learn F) x_L_learn 4 45 2 13)] 13 0 (ent [.ref a0, .int a1, .ref a2] 4) [] M
theorem c_L_learn {q : cL} (hst : q.1.stackTraces = false) {D : Nat} (hD : 52 ≤ D) (F : Nat) (a0 : Nat) (a1 : Int32) (a2 : Nat) (M : cM) (r : Int32 × cM) (h : f_L_learn F a0 a1 a2 M = some r) : CTW q yL_learn cL_learn 4 h_L_learn D [.ref a0, .int a1, .ref a2] M r :=
  wrap_ok (own := RL) (by decide +kernel) rfl (Nat.le_of_ble_eq_true rfl) T_L_learn_ok (ca_L_learn_ok hst hD F) (by decide +kernel) x_L_learn_ok h
def n_X11_length {R' : Type} (f : Nat → Int32 → cM → Option (Nat × Int32 × cM)) : cFn R' := fun as M κ κx => match as with
  | [.ref a0, .int a1] => (f a0 a1 M).bind fun p => if p.1 = 0 then κ (some (.int p.2.1)) p.2.2 else κx p.1 p.2.2
  | _ => none
theorem w_X11_length : ∀ w ∈ [Cond.instanceMethod yX11_length, .selects yX11_length.cls yX11_length yX11_length, .initialized yX11_length.cls, .code yX11_length cX11_length 2 (some .int)], w ∈ lw_good := List.forall_mem_cons.mpr ⟨lw_good_of (tb_ok 637 (by decide +kernel)) rfl, List.forall_mem_cons.mpr ⟨lw_good_of (tb_ok 638 (by decide +kernel)) rfl, List.forall_mem_cons.mpr ⟨lw_good_of (tb_ok 1 (by decide +kernel)) rfl, List.forall_mem_cons.mpr ⟨lw_good_of (tb_ok 639 (by decide +kernel)) rfl, fun _ h => absurd h List.not_mem_nil⟩⟩⟩⟩
theorem n_X11_length_ok {R' : Type} {q : cL} {own : String} {d k : Nat} {f : Nat → Int32 → cM → Option (Nat × Int32 × cM)} (hl : Cond.methodLink own k yX11_length ∈ lw_good) (hf : ∀ a0 a1 M r, f a0 a1 M = some r → CTx q yX11_length (.code yX11_length cX11_length 2 (some .int)) d [.ref a0, .int a1] M (eTI r) ∧ ∃ fs, M[a0]? = some (.inr (9, fs))) : ceS q own d (3 * k + 1) (n_X11_length (R' := R') f) := by
  intro as M κ κx r h
  unfold n_X11_length at h
  split at h
  · obtain ⟨p, h1, h2⟩ := Option.bind_eq_some_iff.mp h
    obtain ⟨hc, fs, ha⟩ := hf _ _ _ _ h1
    exact ⟨eTI p, fun (h0 : p.1 = 0) => by unfold eTI; dsimp only; rw [if_pos h0] at h2 ⊢; exact h2, fun (h0 : p.1 ≠ 0) => by rw [if_neg h0] at h2; exact h2, Or.inr (Or.inl ⟨yX11_length, cX11_length, 2, (some .int), k, 1, _, _, 9, TX11, 10, fs, rfl, rfl, hc, ha, rfl, List.forall_mem_cons.mpr ⟨hl, w_X11_length⟩, ⟨rfl, by decide +kernel, by decide +kernel, by decide +kernel⟩, rfl, by decide⟩)⟩
  · cases h
-- PatchbayScriptLaw.length(LPatchbayScript;I[J)I
def T_L_length : List cRow := [(0, .aload_n 2, 1, 0), (1, .iconst 0, 2, 0), (2, .aload_n 0, 3, 0), (3, .iload_n 1, 4, 0), (4, .invokevirtual 21, 7, 0), (7, .i2l, 8, 0), (8, .lastore, 9, 0), (9, .goto 6, 12, 15), (15, .iconst 0, 16, 0), (16, .ireturn, 17, 0)]
theorem T_L_length_ok : T_L_length.all (rowB cL_length) = true := by decide +kernel
def ca_L_length (F : Nat) : List (Nat × cFn (Int32 × cM)) := [(64, n_X11_length (f_X11_length F))]
theorem ca_L_length_ok {q : cL} (hst : q.1.stackTraces = false) {D : Nat} (hD : 8 ≤ D) (F : Nat) : ∀ x ∈ ca_L_length F, 1 ≤ D ∧ ceS q RL (D - 1) x.1 x.2 := List.forall_mem_cons.mpr ⟨⟨by omega, n_X11_length_ok (k := 21) (lw_good_of (tb_ok 636 (by decide +kernel)) rfl) (fun a0 a1 M r h => c_X11_length hst (by omega) F a0 a1 M r h)⟩, fun _ h => absurd h List.not_mem_nil⟩
def h_L_length : List (Nat × Nat × Nat × Nat) := [(0, 9, 12, 25)]
def x_L_length : List (Nat × Int32) := [(3, 1)]
theorem x_L_length_ok : ∀ x ∈ x_L_length, hOK RL cL_length 4 (tableOf h_L_length) 4 x.1 x.2 := List.forall_mem_cons.mpr ⟨⟨Or.inr (Or.inr rfl), [], ⟨0, 9, 12, 25⟩, [], 3, 1, 1, rfl, fun _ h => absurd h List.not_mem_nil, by decide +kernel, by decide, lw_good_of (tb_ok 635 (by decide +kernel)) rfl, by decide, Or.inl ⟨3, rfl, rfl, by decide +kernel⟩, by decide +kernel, rfl, by decide +kernel⟩, fun _ h => absurd h List.not_mem_nil⟩
noncomputable def f_L_length (F : Nat) (a0 : Nat) (a1 : Int32) (a2 : Nat) (M : cM) : Option (Int32 × cM) := runW T_L_length x_L_length [4] [(4, kW T_L_length (ca_L_length F) x_L_length 4 21 2 13)] 13 0 (ent [.ref a0, .int a1, .ref a2] 4) [] M
theorem c_L_length {q : cL} (hst : q.1.stackTraces = false) {D : Nat} (hD : 8 ≤ D) (F : Nat) (a0 : Nat) (a1 : Int32) (a2 : Nat) (M : cM) (r : Int32 × cM) (h : f_L_length F a0 a1 a2 M = some r) : CTW q yL_length cL_length 4 h_L_length D [.ref a0, .int a1, .ref a2] M r :=
  wrap_ok (own := RL) (by decide +kernel) rfl (Nat.le_of_ble_eq_true rfl) T_L_length_ok (ca_L_length_ok hst hD F) (by decide +kernel) x_L_length_ok h
def n_X11_line {R' : Type} (f : Nat → cM → Option (Nat × Int32 × cM)) : cFn R' := fun as M κ κx => match as with
  | [.ref a0] => (f a0 M).bind fun p => if p.1 = 0 then κ (some (.int p.2.1)) p.2.2 else κx p.1 p.2.2
  | _ => none
theorem w_X11_line : ∀ w ∈ [Cond.instanceMethod yX11_line, .selects yX11_line.cls yX11_line yX11_line, .initialized yX11_line.cls, .code yX11_line cX11_line 3 (some .int)], w ∈ lw_good := List.forall_mem_cons.mpr ⟨lw_good_of (tb_ok 517 (by decide +kernel)) rfl, List.forall_mem_cons.mpr ⟨lw_good_of (tb_ok 518 (by decide +kernel)) rfl, List.forall_mem_cons.mpr ⟨lw_good_of (tb_ok 1 (by decide +kernel)) rfl, List.forall_mem_cons.mpr ⟨lw_good_of (tb_ok 519 (by decide +kernel)) rfl, fun _ h => absurd h List.not_mem_nil⟩⟩⟩⟩
theorem n_X11_line_ok {R' : Type} {q : cL} {own : String} {d k : Nat} {f : Nat → cM → Option (Nat × Int32 × cM)} (hl : Cond.methodLink own k yX11_line ∈ lw_good) (hf : ∀ a0 M r, f a0 M = some r → CTx q yX11_line (.code yX11_line cX11_line 3 (some .int)) d [.ref a0] M (eTI r) ∧ ∃ fs, M[a0]? = some (.inr (9, fs))) : ceS q own d (3 * k + 1) (n_X11_line (R' := R') f) := by
  intro as M κ κx r h
  unfold n_X11_line at h
  split at h
  · obtain ⟨p, h1, h2⟩ := Option.bind_eq_some_iff.mp h
    obtain ⟨hc, fs, ha⟩ := hf _ _ _ h1
    exact ⟨eTI p, fun (h0 : p.1 = 0) => by unfold eTI; dsimp only; rw [if_pos h0] at h2 ⊢; exact h2, fun (h0 : p.1 ≠ 0) => by rw [if_neg h0] at h2; exact h2, Or.inr (Or.inl ⟨yX11_line, cX11_line, 3, (some .int), k, 0, _, _, 9, TX11, 10, fs, rfl, rfl, hc, ha, rfl, List.forall_mem_cons.mpr ⟨hl, w_X11_line⟩, ⟨rfl, by decide +kernel, by decide +kernel, by decide +kernel⟩, rfl, by decide⟩)⟩
  · cases h
-- PatchbayScriptLaw.line(LPatchbayScript;[J)I
def T_L_line : List cRow := [(0, .aload_n 1, 1, 0), (1, .iconst 0, 2, 0), (2, .aload_n 0, 3, 0), (3, .invokevirtual 17, 6, 0), (6, .i2l, 7, 0), (7, .lastore, 8, 0), (8, .goto 6, 11, 14), (14, .iconst 0, 15, 0), (15, .ireturn, 16, 0)]
theorem T_L_line_ok : T_L_line.all (rowB cL_line) = true := by decide +kernel
def ca_L_line (F : Nat) : List (Nat × cFn (Int32 × cM)) := [(52, n_X11_line (f_X11_line F))]
theorem ca_L_line_ok {q : cL} (hst : q.1.stackTraces = false) {D : Nat} (hD : 7 ≤ D) (F : Nat) : ∀ x ∈ ca_L_line F, 1 ≤ D ∧ ceS q RL (D - 1) x.1 x.2 := List.forall_mem_cons.mpr ⟨⟨by omega, n_X11_line_ok (k := 17) (lw_good_of (tb_ok 516 (by decide +kernel)) rfl) (fun a0 M r h => c_X11_line hst (by omega) F a0 M r h)⟩, fun _ h => absurd h List.not_mem_nil⟩
def h_L_line : List (Nat × Nat × Nat × Nat) := [(0, 8, 11, 15)]
def x_L_line : List (Nat × Int32) := [(2, 1)]
theorem x_L_line_ok : ∀ x ∈ x_L_line, hOK RL cL_line 3 (tableOf h_L_line) 3 x.1 x.2 := List.forall_mem_cons.mpr ⟨⟨Or.inr (Or.inl rfl), [], ⟨0, 8, 11, 15⟩, [], 2, 1, 1, rfl, fun _ h => absurd h List.not_mem_nil, by decide +kernel, by decide, lw_good_of (tb_ok 410 (by decide +kernel)) rfl, by decide, Or.inl ⟨2, rfl, rfl, by decide +kernel⟩, by decide +kernel, rfl, by decide +kernel⟩, fun _ h => absurd h List.not_mem_nil⟩
noncomputable def f_L_line (F : Nat) (a0 : Nat) (a1 : Nat) (M : cM) : Option (Int32 × cM) := runW T_L_line x_L_line [3] [(3, kW T_L_line (ca_L_line F) x_L_line 3 17 1 12)] 12 0 (ent [.ref a0, .ref a1] 3) [] M
theorem c_L_line {q : cL} (hst : q.1.stackTraces = false) {D : Nat} (hD : 7 ≤ D) (F : Nat) (a0 : Nat) (a1 : Nat) (M : cM) (r : Int32 × cM) (h : f_L_line F a0 a1 M = some r) : CTW q yL_line cL_line 3 h_L_line D [.ref a0, .ref a1] M r :=
  wrap_ok (own := RL) (by decide +kernel) rfl (Nat.le_of_ble_eq_true rfl) T_L_line_ok (ca_L_line_ok hst hD F) (by decide +kernel) x_L_line_ok h
def n_X11_pin {R' : Type} (f : Nat → Int32 → Int32 → Int32 → Int32 → Int32 → Int32 → cM → Option (Nat × Int32 × cM)) : cFn R' := fun as M κ κx => match as with
  | [.ref a0, .int a1, .int a2, .int a3, .int a4, .int a5, .int a6] => (f a0 a1 a2 a3 a4 a5 a6 M).bind fun p => if p.1 = 0 then κ (some (.int p.2.1)) p.2.2 else κx p.1 p.2.2
  | _ => none
theorem w_X11_pin : ∀ w ∈ [Cond.instanceMethod yX11_pin, .selects yX11_pin.cls yX11_pin yX11_pin, .initialized yX11_pin.cls, .code yX11_pin cX11_pin 7 (some .int)], w ∈ lw_good := List.forall_mem_cons.mpr ⟨lw_good_of (tb_ok 721 (by decide +kernel)) rfl, List.forall_mem_cons.mpr ⟨lw_good_of (tb_ok 722 (by decide +kernel)) rfl, List.forall_mem_cons.mpr ⟨lw_good_of (tb_ok 1 (by decide +kernel)) rfl, List.forall_mem_cons.mpr ⟨lw_good_of (tb_ok 723 (by decide +kernel)) rfl, fun _ h => absurd h List.not_mem_nil⟩⟩⟩⟩
theorem n_X11_pin_ok {R' : Type} {q : cL} {own : String} {d k : Nat} {f : Nat → Int32 → Int32 → Int32 → Int32 → Int32 → Int32 → cM → Option (Nat × Int32 × cM)} (hl : Cond.methodLink own k yX11_pin ∈ lw_good) (hf : ∀ a0 a1 a2 a3 a4 a5 a6 M r, f a0 a1 a2 a3 a4 a5 a6 M = some r → CTx q yX11_pin (.code yX11_pin cX11_pin 7 (some .int)) d [.ref a0, .int a1, .int a2, .int a3, .int a4, .int a5, .int a6] M (eTI r) ∧ ∃ fs, M[a0]? = some (.inr (9, fs))) : ceS q own d (3 * k + 1) (n_X11_pin (R' := R') f) := by
  intro as M κ κx r h
  unfold n_X11_pin at h
  split at h
  · obtain ⟨p, h1, h2⟩ := Option.bind_eq_some_iff.mp h
    obtain ⟨hc, fs, ha⟩ := hf _ _ _ _ _ _ _ _ _ h1
    exact ⟨eTI p, fun (h0 : p.1 = 0) => by unfold eTI; dsimp only; rw [if_pos h0] at h2 ⊢; exact h2, fun (h0 : p.1 ≠ 0) => by rw [if_neg h0] at h2; exact h2, Or.inr (Or.inl ⟨yX11_pin, cX11_pin, 7, (some .int), k, 6, _, _, 9, TX11, 10, fs, rfl, rfl, hc, ha, rfl, List.forall_mem_cons.mpr ⟨hl, w_X11_pin⟩, ⟨rfl, by decide +kernel, by decide +kernel, by decide +kernel⟩, rfl, by decide⟩)⟩
  · cases h
-- PatchbayScriptLaw.pin(LPatchbayScript;IIIIII[J)I
def T_L_pin : List cRow := [(0, .aload 7, 2, 0), (2, .iconst 0, 3, 0), (3, .aload_n 0, 4, 0), (4, .iload_n 1, 5, 0), (5, .iload_n 2, 6, 0), (6, .iload_n 3, 7, 0), (7, .iload 4, 9, 0), (9, .iload 5, 11, 0), (11, .iload 6, 13, 0), (13, .invokevirtual 41, 16, 0), (16, .i2l, 17, 0), (17, .lastore, 18, 0), (18, .goto 15, 21, 33), (33, .iconst 0, 34, 0), (34, .ireturn, 35, 0)]
theorem T_L_pin_ok : T_L_pin.all (rowB cL_pin) = true := by decide +kernel
def ca_L_pin (F : Nat) : List (Nat × cFn (Int32 × cM)) := [(124, n_X11_pin (f_X11_pin F))]
theorem ca_L_pin_ok {q : cL} (hst : q.1.stackTraces = false) {D : Nat} (hD : 8 ≤ D) (F : Nat) : ∀ x ∈ ca_L_pin F, 1 ≤ D ∧ ceS q RL (D - 1) x.1 x.2 := List.forall_mem_cons.mpr ⟨⟨by omega, n_X11_pin_ok (k := 41) (lw_good_of (tb_ok 720 (by decide +kernel)) rfl) (fun a0 a1 a2 a3 a4 a5 a6 M r h => c_X11_pin hst (by omega) F a0 a1 a2 a3 a4 a5 a6 M r h)⟩, fun _ h => absurd h List.not_mem_nil⟩
def h_L_pin : List (Nat × Nat × Nat × Nat) := [(0, 18, 21, 25), (0, 18, 25, 13), (0, 18, 29, 15)]
def x_L_pin : List (Nat × Int32) := [(1, 2), (2, 3), (3, 1)]
theorem x_L_pin_ok : ∀ x ∈ x_L_pin, hOK RL cL_pin 9 (tableOf h_L_pin) 13 x.1 x.2 := List.forall_mem_cons.mpr ⟨⟨Or.inl rfl, [⟨0, 18, 21, 25⟩], ⟨0, 18, 25, 13⟩, [⟨0, 18, 29, 15⟩], 8, 2, 2, rfl, List.forall_mem_cons.mpr ⟨⟨by decide, 3, by decide, by decide, lw_good_of (tb_ok 635 (by decide +kernel)) rfl⟩, fun _ h => absurd h List.not_mem_nil⟩, by decide +kernel, by decide, lw_good_of (tb_ok 409 (by decide +kernel)) rfl, by decide, Or.inr ⟨rfl, by decide +kernel⟩, by decide +kernel, rfl, by decide +kernel⟩, List.forall_mem_cons.mpr ⟨⟨Or.inr (Or.inl rfl), [⟨0, 18, 21, 25⟩, ⟨0, 18, 25, 13⟩], ⟨0, 18, 29, 15⟩, [], 8, 2, 3, rfl, List.forall_mem_cons.mpr ⟨⟨by decide, 3, by decide, by decide, lw_good_of (tb_ok 635 (by decide +kernel)) rfl⟩, List.forall_mem_cons.mpr ⟨⟨by decide, 1, by decide, by decide, lw_good_of (tb_ok 409 (by decide +kernel)) rfl⟩, fun _ h => absurd h List.not_mem_nil⟩⟩, by decide +kernel, by decide, lw_good_of (tb_ok 410 (by decide +kernel)) rfl, by decide, Or.inr ⟨rfl, by decide +kernel⟩, by decide +kernel, rfl, by decide +kernel⟩, List.forall_mem_cons.mpr ⟨⟨Or.inr (Or.inr rfl), [], ⟨0, 18, 21, 25⟩, [⟨0, 18, 25, 13⟩, ⟨0, 18, 29, 15⟩], 8, 2, 1, rfl, fun _ h => absurd h List.not_mem_nil, by decide +kernel, by decide, lw_good_of (tb_ok 635 (by decide +kernel)) rfl, by decide, Or.inr ⟨rfl, by decide +kernel⟩, by decide +kernel, rfl, by decide +kernel⟩, fun _ h => absurd h List.not_mem_nil⟩⟩⟩
noncomputable def f_L_pin (F : Nat) (a0 : Nat) (a1 : Int32) (a2 : Int32) (a3 : Int32) (a4 : Int32) (a5 : Int32) (a6 : Int32) (a7 : Nat) (M : cM) : Option (Int32 × cM) := runW T_L_pin x_L_pin [13] [(13, kW T_L_pin (ca_L_pin F) x_L_pin 13 41 7 18)] 18 0 (ent [.ref a0, .int a1, .int a2, .int a3, .int a4, .int a5, .int a6, .ref a7] 9) [] M
theorem c_L_pin {q : cL} (hst : q.1.stackTraces = false) {D : Nat} (hD : 8 ≤ D) (F : Nat) (a0 : Nat) (a1 : Int32) (a2 : Int32) (a3 : Int32) (a4 : Int32) (a5 : Int32) (a6 : Int32) (a7 : Nat) (M : cM) (r : Int32 × cM) (h : f_L_pin F a0 a1 a2 a3 a4 a5 a6 a7 M = some r) : CTW q yL_pin cL_pin 9 h_L_pin D [.ref a0, .int a1, .int a2, .int a3, .int a4, .int a5, .int a6, .ref a7] M r :=
  wrap_ok (own := RL) (by decide +kernel) rfl (Nat.le_of_ble_eq_true rfl) T_L_pin_ok (ca_L_pin_ok hst hD F) (by decide +kernel) x_L_pin_ok h
def n_X11_placeOf {R' : Type} (f : Nat → Int32 → Int32 → cM → Option (Nat × Int32 × cM)) : cFn R' := fun as M κ κx => match as with
  | [.ref a0, .int a1, .int a2] => (f a0 a1 a2 M).bind fun p => if p.1 = 0 then κ (some (.int p.2.1)) p.2.2 else κx p.1 p.2.2
  | _ => none
theorem w_X11_placeOf : ∀ w ∈ [Cond.instanceMethod yX11_placeOf, .selects yX11_placeOf.cls yX11_placeOf yX11_placeOf, .initialized yX11_placeOf.cls, .code yX11_placeOf cX11_placeOf 3 (some .int)], w ∈ lw_good := List.forall_mem_cons.mpr ⟨lw_good_of (tb_ok 673 (by decide +kernel)) rfl, List.forall_mem_cons.mpr ⟨lw_good_of (tb_ok 674 (by decide +kernel)) rfl, List.forall_mem_cons.mpr ⟨lw_good_of (tb_ok 1 (by decide +kernel)) rfl, List.forall_mem_cons.mpr ⟨lw_good_of (tb_ok 675 (by decide +kernel)) rfl, fun _ h => absurd h List.not_mem_nil⟩⟩⟩⟩
theorem n_X11_placeOf_ok {R' : Type} {q : cL} {own : String} {d k : Nat} {f : Nat → Int32 → Int32 → cM → Option (Nat × Int32 × cM)} (hl : Cond.methodLink own k yX11_placeOf ∈ lw_good) (hf : ∀ a0 a1 a2 M r, f a0 a1 a2 M = some r → CTx q yX11_placeOf (.code yX11_placeOf cX11_placeOf 3 (some .int)) d [.ref a0, .int a1, .int a2] M (eTI r) ∧ ∃ fs, M[a0]? = some (.inr (9, fs))) : ceS q own d (3 * k + 1) (n_X11_placeOf (R' := R') f) := by
  intro as M κ κx r h
  unfold n_X11_placeOf at h
  split at h
  · obtain ⟨p, h1, h2⟩ := Option.bind_eq_some_iff.mp h
    obtain ⟨hc, fs, ha⟩ := hf _ _ _ _ _ h1
    exact ⟨eTI p, fun (h0 : p.1 = 0) => by unfold eTI; dsimp only; rw [if_pos h0] at h2 ⊢; exact h2, fun (h0 : p.1 ≠ 0) => by rw [if_neg h0] at h2; exact h2, Or.inr (Or.inl ⟨yX11_placeOf, cX11_placeOf, 3, (some .int), k, 2, _, _, 9, TX11, 10, fs, rfl, rfl, hc, ha, rfl, List.forall_mem_cons.mpr ⟨hl, w_X11_placeOf⟩, ⟨rfl, by decide +kernel, by decide +kernel, by decide +kernel⟩, rfl, by decide⟩)⟩
  · cases h
-- PatchbayScriptLaw.placeOf(LPatchbayScript;II[J)I
def T_L_placeOf : List cRow := [(0, .aload_n 3, 1, 0), (1, .iconst 0, 2, 0), (2, .aload_n 0, 3, 0), (3, .iload_n 1, 4, 0), (4, .iload_n 2, 5, 0), (5, .invokevirtual 31, 8, 0), (8, .i2l, 9, 0), (9, .lastore, 10, 0), (10, .goto 11, 13, 21), (21, .iconst 0, 22, 0), (22, .ireturn, 23, 0)]
theorem T_L_placeOf_ok : T_L_placeOf.all (rowB cL_placeOf) = true := by decide +kernel
def ca_L_placeOf (F : Nat) : List (Nat × cFn (Int32 × cM)) := [(94, n_X11_placeOf (f_X11_placeOf F))]
theorem ca_L_placeOf_ok {q : cL} (hst : q.1.stackTraces = false) {D : Nat} (hD : 8 ≤ D) (F : Nat) : ∀ x ∈ ca_L_placeOf F, 1 ≤ D ∧ ceS q RL (D - 1) x.1 x.2 := List.forall_mem_cons.mpr ⟨⟨by omega, n_X11_placeOf_ok (k := 31) (lw_good_of (tb_ok 672 (by decide +kernel)) rfl) (fun a0 a1 a2 M r h => c_X11_placeOf hst (by omega) F a0 a1 a2 M r h)⟩, fun _ h => absurd h List.not_mem_nil⟩
def h_L_placeOf : List (Nat × Nat × Nat × Nat) := [(0, 10, 13, 25), (0, 10, 17, 13)]
def x_L_placeOf : List (Nat × Int32) := [(1, 2), (3, 1)]
theorem x_L_placeOf_ok : ∀ x ∈ x_L_placeOf, hOK RL cL_placeOf 5 (tableOf h_L_placeOf) 5 x.1 x.2 := List.forall_mem_cons.mpr ⟨⟨Or.inl rfl, [⟨0, 10, 13, 25⟩], ⟨0, 10, 17, 13⟩, [], 4, 2, 2, rfl, List.forall_mem_cons.mpr ⟨⟨by decide, 3, by decide, by decide, lw_good_of (tb_ok 635 (by decide +kernel)) rfl⟩, fun _ h => absurd h List.not_mem_nil⟩, by decide +kernel, by decide, lw_good_of (tb_ok 409 (by decide +kernel)) rfl, by decide, Or.inr ⟨rfl, by decide +kernel⟩, by decide +kernel, rfl, by decide +kernel⟩, List.forall_mem_cons.mpr ⟨⟨Or.inr (Or.inr rfl), [], ⟨0, 10, 13, 25⟩, [⟨0, 10, 17, 13⟩], 4, 2, 1, rfl, fun _ h => absurd h List.not_mem_nil, by decide +kernel, by decide, lw_good_of (tb_ok 635 (by decide +kernel)) rfl, by decide, Or.inr ⟨rfl, by decide +kernel⟩, by decide +kernel, rfl, by decide +kernel⟩, fun _ h => absurd h List.not_mem_nil⟩⟩
noncomputable def f_L_placeOf (F : Nat) (a0 : Nat) (a1 : Int32) (a2 : Int32) (a3 : Nat) (M : cM) : Option (Int32 × cM) := runW T_L_placeOf x_L_placeOf [5] [(5, kW T_L_placeOf (ca_L_placeOf F) x_L_placeOf 5 31 3 14)] 14 0 (ent [.ref a0, .int a1, .int a2, .ref a3] 5) [] M
theorem c_L_placeOf {q : cL} (hst : q.1.stackTraces = false) {D : Nat} (hD : 8 ≤ D) (F : Nat) (a0 : Nat) (a1 : Int32) (a2 : Int32) (a3 : Nat) (M : cM) (r : Int32 × cM) (h : f_L_placeOf F a0 a1 a2 a3 M = some r) : CTW q yL_placeOf cL_placeOf 5 h_L_placeOf D [.ref a0, .int a1, .int a2, .ref a3] M r :=
  wrap_ok (own := RL) (by decide +kernel) rfl (Nat.le_of_ble_eq_true rfl) T_L_placeOf_ok (ca_L_placeOf_ok hst hD F) (by decide +kernel) x_L_placeOf_ok h
def n_X11_preview {R' : Type} (f : Nat → Int32 → Int32 → Int32 → cM → Option (Nat × Int32 × cM)) : cFn R' := fun as M κ κx => match as with
  | [.ref a0, .int a1, .int a2, .int a3] => (f a0 a1 a2 a3 M).bind fun p => if p.1 = 0 then κ (some (.int p.2.1)) p.2.2 else κx p.1 p.2.2
  | _ => none
theorem w_X11_preview : ∀ w ∈ [Cond.instanceMethod yX11_preview, .selects yX11_preview.cls yX11_preview yX11_preview, .initialized yX11_preview.cls, .code yX11_preview cX11_preview 4 (some .char)], w ∈ lw_good := List.forall_mem_cons.mpr ⟨lw_good_of (tb_ok 1044 (by decide +kernel)) rfl, List.forall_mem_cons.mpr ⟨lw_good_of (tb_ok 1045 (by decide +kernel)) rfl, List.forall_mem_cons.mpr ⟨lw_good_of (tb_ok 1 (by decide +kernel)) rfl, List.forall_mem_cons.mpr ⟨lw_good_of (tb_ok 1046 (by decide +kernel)) rfl, fun _ h => absurd h List.not_mem_nil⟩⟩⟩⟩
theorem n_X11_preview_ok {R' : Type} {q : cL} {own : String} {d k : Nat} {f : Nat → Int32 → Int32 → Int32 → cM → Option (Nat × Int32 × cM)} (hl : Cond.methodLink own k yX11_preview ∈ lw_good) (hf : ∀ a0 a1 a2 a3 M r, f a0 a1 a2 a3 M = some r → CTx q yX11_preview (.code yX11_preview cX11_preview 4 (some .char)) d [.ref a0, .int a1, .int a2, .int a3] M (eTI r) ∧ ∃ fs, M[a0]? = some (.inr (9, fs))) : ceS q own d (3 * k + 1) (n_X11_preview (R' := R') f) := by
  intro as M κ κx r h
  unfold n_X11_preview at h
  split at h
  · obtain ⟨p, h1, h2⟩ := Option.bind_eq_some_iff.mp h
    obtain ⟨hc, fs, ha⟩ := hf _ _ _ _ _ _ h1
    exact ⟨eTI p, fun (h0 : p.1 = 0) => by unfold eTI; dsimp only; rw [if_pos h0] at h2 ⊢; exact h2, fun (h0 : p.1 ≠ 0) => by rw [if_neg h0] at h2; exact h2, Or.inr (Or.inl ⟨yX11_preview, cX11_preview, 4, (some .char), k, 3, _, _, 9, TX11, 10, fs, rfl, rfl, hc, ha, rfl, List.forall_mem_cons.mpr ⟨hl, w_X11_preview⟩, ⟨rfl, by decide +kernel, by decide +kernel, by decide +kernel⟩, rfl, by decide⟩)⟩
  · cases h
-- PatchbayScriptLaw.preview(LPatchbayScript;III[J)I
def T_L_preview : List cRow := [(0, .aload 4, 2, 0), (2, .iconst 0, 3, 0), (3, .aload_n 0, 4, 0), (4, .iload_n 1, 5, 0), (5, .iload_n 2, 6, 0), (6, .iload_n 3, 7, 0), (7, .invokevirtual 64, 10, 0), (10, .i2l, 11, 0), (11, .lastore, 12, 0), (12, .goto 7, 15, 19), (19, .iconst 0, 20, 0), (20, .ireturn, 21, 0)]
theorem T_L_preview_ok : T_L_preview.all (rowB cL_preview) = true := by decide +kernel
def ca_L_preview (F : Nat) : List (Nat × cFn (Int32 × cM)) := [(193, n_X11_preview (f_X11_preview F))]
theorem ca_L_preview_ok {q : cL} (hst : q.1.stackTraces = false) {D : Nat} (hD : 8 ≤ D) (F : Nat) : ∀ x ∈ ca_L_preview F, 1 ≤ D ∧ ceS q RL (D - 1) x.1 x.2 := List.forall_mem_cons.mpr ⟨⟨by omega, n_X11_preview_ok (k := 64) (lw_good_of (tb_ok 1043 (by decide +kernel)) rfl) (fun a0 a1 a2 a3 M r h => c_X11_preview hst (by omega) F a0 a1 a2 a3 M r h)⟩, fun _ h => absurd h List.not_mem_nil⟩
def h_L_preview : List (Nat × Nat × Nat × Nat) := [(0, 12, 15, 25)]
def x_L_preview : List (Nat × Int32) := [(3, 1)]
theorem x_L_preview_ok : ∀ x ∈ x_L_preview, hOK RL cL_preview 6 (tableOf h_L_preview) 7 x.1 x.2 := List.forall_mem_cons.mpr ⟨⟨Or.inr (Or.inr rfl), [], ⟨0, 12, 15, 25⟩, [], 5, 2, 1, rfl, fun _ h => absurd h List.not_mem_nil, by decide +kernel, by decide, lw_good_of (tb_ok 635 (by decide +kernel)) rfl, by decide, Or.inr ⟨rfl, by decide +kernel⟩, by decide +kernel, rfl, by decide +kernel⟩, fun _ h => absurd h List.not_mem_nil⟩
noncomputable def f_L_preview (F : Nat) (a0 : Nat) (a1 : Int32) (a2 : Int32) (a3 : Int32) (a4 : Nat) (M : cM) : Option (Int32 × cM) := runW T_L_preview x_L_preview [7] [(7, kW T_L_preview (ca_L_preview F) x_L_preview 7 64 4 15)] 15 0 (ent [.ref a0, .int a1, .int a2, .int a3, .ref a4] 6) [] M
theorem c_L_preview {q : cL} (hst : q.1.stackTraces = false) {D : Nat} (hD : 8 ≤ D) (F : Nat) (a0 : Nat) (a1 : Int32) (a2 : Int32) (a3 : Int32) (a4 : Nat) (M : cM) (r : Int32 × cM) (h : f_L_preview F a0 a1 a2 a3 a4 M = some r) : CTW q yL_preview cL_preview 6 h_L_preview D [.ref a0, .int a1, .int a2, .int a3, .ref a4] M r :=
  wrap_ok (own := RL) (by decide +kernel) rfl (Nat.le_of_ble_eq_true rfl) T_L_preview_ok (ca_L_preview_ok hst hD F) (by decide +kernel) x_L_preview_ok h
def n_X11_question {R' : Type} (f : Nat → Int32 → cM → Option (Nat × Int32 × cM)) : cFn R' := fun as M κ κx => match as with
  | [.ref a0, .int a1] => (f a0 a1 M).bind fun p => if p.1 = 0 then κ (some (.int p.2.1)) p.2.2 else κx p.1 p.2.2
  | _ => none
theorem w_X11_question : ∀ w ∈ [Cond.instanceMethod yX11_question, .selects yX11_question.cls yX11_question yX11_question, .initialized yX11_question.cls, .code yX11_question cX11_question 3 (some .int)], w ∈ lw_good := List.forall_mem_cons.mpr ⟨lw_good_of (tb_ok 1012 (by decide +kernel)) rfl, List.forall_mem_cons.mpr ⟨lw_good_of (tb_ok 1013 (by decide +kernel)) rfl, List.forall_mem_cons.mpr ⟨lw_good_of (tb_ok 1 (by decide +kernel)) rfl, List.forall_mem_cons.mpr ⟨lw_good_of (tb_ok 1014 (by decide +kernel)) rfl, fun _ h => absurd h List.not_mem_nil⟩⟩⟩⟩
theorem n_X11_question_ok {R' : Type} {q : cL} {own : String} {d k : Nat} {f : Nat → Int32 → cM → Option (Nat × Int32 × cM)} (hl : Cond.methodLink own k yX11_question ∈ lw_good) (hf : ∀ a0 a1 M r, f a0 a1 M = some r → CTx q yX11_question (.code yX11_question cX11_question 3 (some .int)) d [.ref a0, .int a1] M (eTI r) ∧ ∃ fs, M[a0]? = some (.inr (9, fs))) : ceS q own d (3 * k + 1) (n_X11_question (R' := R') f) := by
  intro as M κ κx r h
  unfold n_X11_question at h
  split at h
  · obtain ⟨p, h1, h2⟩ := Option.bind_eq_some_iff.mp h
    obtain ⟨hc, fs, ha⟩ := hf _ _ _ _ h1
    exact ⟨eTI p, fun (h0 : p.1 = 0) => by unfold eTI; dsimp only; rw [if_pos h0] at h2 ⊢; exact h2, fun (h0 : p.1 ≠ 0) => by rw [if_neg h0] at h2; exact h2, Or.inr (Or.inl ⟨yX11_question, cX11_question, 3, (some .int), k, 1, _, _, 9, TX11, 10, fs, rfl, rfl, hc, ha, rfl, List.forall_mem_cons.mpr ⟨hl, w_X11_question⟩, ⟨rfl, by decide +kernel, by decide +kernel, by decide +kernel⟩, rfl, by decide⟩)⟩
  · cases h
-- PatchbayScriptLaw.question(LPatchbayScript;I[J)I
def T_L_question : List cRow := [(0, .aload_n 2, 1, 0), (1, .iconst 0, 2, 0), (2, .aload_n 0, 3, 0), (3, .iload_n 1, 4, 0), (4, .invokevirtual 54, 7, 0), (7, .i2l, 8, 0), (8, .lastore, 9, 0), (9, .goto 6, 12, 15), (15, .iconst 0, 16, 0), (16, .ireturn, 17, 0)]
theorem T_L_question_ok : T_L_question.all (rowB cL_question) = true := by decide +kernel
def ca_L_question (F : Nat) : List (Nat × cFn (Int32 × cM)) := [(163, n_X11_question (f_X11_question F))]
theorem ca_L_question_ok {q : cL} (hst : q.1.stackTraces = false) {D : Nat} (hD : 51 ≤ D) (F : Nat) : ∀ x ∈ ca_L_question F, 1 ≤ D ∧ ceS q RL (D - 1) x.1 x.2 := List.forall_mem_cons.mpr ⟨⟨by omega, n_X11_question_ok (k := 54) (lw_good_of (tb_ok 1011 (by decide +kernel)) rfl) (fun a0 a1 M r h => c_X11_question hst (by omega) F a0 a1 M r h)⟩, fun _ h => absurd h List.not_mem_nil⟩
def h_L_question : List (Nat × Nat × Nat × Nat) := [(0, 9, 12, 25)]
def x_L_question : List (Nat × Int32) := [(3, 1)]
theorem x_L_question_ok : ∀ x ∈ x_L_question, hOK RL cL_question 4 (tableOf h_L_question) 4 x.1 x.2 := List.forall_mem_cons.mpr ⟨⟨Or.inr (Or.inr rfl), [], ⟨0, 9, 12, 25⟩, [], 3, 1, 1, rfl, fun _ h => absurd h List.not_mem_nil, by decide +kernel, by decide, lw_good_of (tb_ok 635 (by decide +kernel)) rfl, by decide, Or.inl ⟨3, rfl, rfl, by decide +kernel⟩, by decide +kernel, rfl, by decide +kernel⟩, fun _ h => absurd h List.not_mem_nil⟩
noncomputable def f_L_question (F : Nat) (a0 : Nat) (a1 : Int32) (a2 : Nat) (M : cM) : Option (Int32 × cM) := runW T_L_question x_L_question [4] [(4, kW T_L_question (ca_L_question F) x_L_question 4 54 2 13)] 13 0 (ent [.ref a0, .int a1, .ref a2] 4) [] M
theorem c_L_question {q : cL} (hst : q.1.stackTraces = false) {D : Nat} (hD : 51 ≤ D) (F : Nat) (a0 : Nat) (a1 : Int32) (a2 : Nat) (M : cM) (r : Int32 × cM) (h : f_L_question F a0 a1 a2 M = some r) : CTW q yL_question cL_question 4 h_L_question D [.ref a0, .int a1, .ref a2] M r :=
  wrap_ok (own := RL) (by decide +kernel) rfl (Nat.le_of_ble_eq_true rfl) T_L_question_ok (ca_L_question_ok hst hD F) (by decide +kernel) x_L_question_ok h
def n_X11_refuse {R' : Type} (f : Nat → Int32 → Int32 → cM → Option (Nat × Int32 × cM)) : cFn R' := fun as M κ κx => match as with
  | [.ref a0, .int a1, .int a2] => (f a0 a1 a2 M).bind fun p => if p.1 = 0 then κ (some (.int p.2.1)) p.2.2 else κx p.1 p.2.2
  | _ => none
theorem w_X11_refuse : ∀ w ∈ [Cond.instanceMethod yX11_refuse, .selects yX11_refuse.cls yX11_refuse yX11_refuse, .initialized yX11_refuse.cls, .code yX11_refuse cX11_refuse 5 (some .int)], w ∈ lw_good := List.forall_mem_cons.mpr ⟨lw_good_of (tb_ok 708 (by decide +kernel)) rfl, List.forall_mem_cons.mpr ⟨lw_good_of (tb_ok 709 (by decide +kernel)) rfl, List.forall_mem_cons.mpr ⟨lw_good_of (tb_ok 1 (by decide +kernel)) rfl, List.forall_mem_cons.mpr ⟨lw_good_of (tb_ok 710 (by decide +kernel)) rfl, fun _ h => absurd h List.not_mem_nil⟩⟩⟩⟩
theorem n_X11_refuse_ok {R' : Type} {q : cL} {own : String} {d k : Nat} {f : Nat → Int32 → Int32 → cM → Option (Nat × Int32 × cM)} (hl : Cond.methodLink own k yX11_refuse ∈ lw_good) (hf : ∀ a0 a1 a2 M r, f a0 a1 a2 M = some r → CTx q yX11_refuse (.code yX11_refuse cX11_refuse 5 (some .int)) d [.ref a0, .int a1, .int a2] M (eTI r) ∧ ∃ fs, M[a0]? = some (.inr (9, fs))) : ceS q own d (3 * k + 1) (n_X11_refuse (R' := R') f) := by
  intro as M κ κx r h
  unfold n_X11_refuse at h
  split at h
  · obtain ⟨p, h1, h2⟩ := Option.bind_eq_some_iff.mp h
    obtain ⟨hc, fs, ha⟩ := hf _ _ _ _ _ h1
    exact ⟨eTI p, fun (h0 : p.1 = 0) => by unfold eTI; dsimp only; rw [if_pos h0] at h2 ⊢; exact h2, fun (h0 : p.1 ≠ 0) => by rw [if_neg h0] at h2; exact h2, Or.inr (Or.inl ⟨yX11_refuse, cX11_refuse, 5, (some .int), k, 2, _, _, 9, TX11, 10, fs, rfl, rfl, hc, ha, rfl, List.forall_mem_cons.mpr ⟨hl, w_X11_refuse⟩, ⟨rfl, by decide +kernel, by decide +kernel, by decide +kernel⟩, rfl, by decide⟩)⟩
  · cases h
-- PatchbayScriptLaw.refuse(LPatchbayScript;II[J)I
def T_L_refuse : List cRow := [(0, .aload_n 3, 1, 0), (1, .iconst 0, 2, 0), (2, .aload_n 0, 3, 0), (3, .iload_n 1, 4, 0), (4, .iload_n 2, 5, 0), (5, .invokevirtual 38, 8, 0), (8, .i2l, 9, 0), (9, .lastore, 10, 0), (10, .goto 11, 13, 21), (21, .iconst 0, 22, 0), (22, .ireturn, 23, 0)]
theorem T_L_refuse_ok : T_L_refuse.all (rowB cL_refuse) = true := by decide +kernel
def ca_L_refuse (F : Nat) : List (Nat × cFn (Int32 × cM)) := [(115, n_X11_refuse (f_X11_refuse F))]
theorem ca_L_refuse_ok {q : cL} (hst : q.1.stackTraces = false) {D : Nat} (hD : 8 ≤ D) (F : Nat) : ∀ x ∈ ca_L_refuse F, 1 ≤ D ∧ ceS q RL (D - 1) x.1 x.2 := List.forall_mem_cons.mpr ⟨⟨by omega, n_X11_refuse_ok (k := 38) (lw_good_of (tb_ok 707 (by decide +kernel)) rfl) (fun a0 a1 a2 M r h => c_X11_refuse hst (by omega) F a0 a1 a2 M r h)⟩, fun _ h => absurd h List.not_mem_nil⟩
def h_L_refuse : List (Nat × Nat × Nat × Nat) := [(0, 10, 13, 25), (0, 10, 17, 15)]
def x_L_refuse : List (Nat × Int32) := [(2, 2), (3, 1)]
theorem x_L_refuse_ok : ∀ x ∈ x_L_refuse, hOK RL cL_refuse 5 (tableOf h_L_refuse) 5 x.1 x.2 := List.forall_mem_cons.mpr ⟨⟨Or.inr (Or.inl rfl), [⟨0, 10, 13, 25⟩], ⟨0, 10, 17, 15⟩, [], 4, 2, 2, rfl, List.forall_mem_cons.mpr ⟨⟨by decide, 3, by decide, by decide, lw_good_of (tb_ok 635 (by decide +kernel)) rfl⟩, fun _ h => absurd h List.not_mem_nil⟩, by decide +kernel, by decide, lw_good_of (tb_ok 410 (by decide +kernel)) rfl, by decide, Or.inr ⟨rfl, by decide +kernel⟩, by decide +kernel, rfl, by decide +kernel⟩, List.forall_mem_cons.mpr ⟨⟨Or.inr (Or.inr rfl), [], ⟨0, 10, 13, 25⟩, [⟨0, 10, 17, 15⟩], 4, 2, 1, rfl, fun _ h => absurd h List.not_mem_nil, by decide +kernel, by decide, lw_good_of (tb_ok 635 (by decide +kernel)) rfl, by decide, Or.inr ⟨rfl, by decide +kernel⟩, by decide +kernel, rfl, by decide +kernel⟩, fun _ h => absurd h List.not_mem_nil⟩⟩
noncomputable def f_L_refuse (F : Nat) (a0 : Nat) (a1 : Int32) (a2 : Int32) (a3 : Nat) (M : cM) : Option (Int32 × cM) := runW T_L_refuse x_L_refuse [5] [(5, kW T_L_refuse (ca_L_refuse F) x_L_refuse 5 38 3 14)] 14 0 (ent [.ref a0, .int a1, .int a2, .ref a3] 5) [] M
theorem c_L_refuse {q : cL} (hst : q.1.stackTraces = false) {D : Nat} (hD : 8 ≤ D) (F : Nat) (a0 : Nat) (a1 : Int32) (a2 : Int32) (a3 : Nat) (M : cM) (r : Int32 × cM) (h : f_L_refuse F a0 a1 a2 a3 M = some r) : CTW q yL_refuse cL_refuse 5 h_L_refuse D [.ref a0, .int a1, .int a2, .ref a3] M r :=
  wrap_ok (own := RL) (by decide +kernel) rfl (Nat.le_of_ble_eq_true rfl) T_L_refuse_ok (ca_L_refuse_ok hst hD F) (by decide +kernel) x_L_refuse_ok h
def n_X11_run {R' : Type} (f : Nat → Int32 → Int32 → Int32 → Int32 → cM → Option (Nat × Int32 × cM)) : cFn R' := fun as M κ κx => match as with
  | [.ref a0, .int a1, .int a2, .int a3, .int a4] => (f a0 a1 a2 a3 a4 M).bind fun p => if p.1 = 0 then κ (some (.int p.2.1)) p.2.2 else κx p.1 p.2.2
  | _ => none
theorem w_X11_run : ∀ w ∈ [Cond.instanceMethod yX11_run, .selects yX11_run.cls yX11_run yX11_run, .initialized yX11_run.cls, .code yX11_run cX11_run 5 (some .int)], w ∈ lw_good := List.forall_mem_cons.mpr ⟨lw_good_of (tb_ok 1052 (by decide +kernel)) rfl, List.forall_mem_cons.mpr ⟨lw_good_of (tb_ok 1053 (by decide +kernel)) rfl, List.forall_mem_cons.mpr ⟨lw_good_of (tb_ok 1 (by decide +kernel)) rfl, List.forall_mem_cons.mpr ⟨lw_good_of (tb_ok 1054 (by decide +kernel)) rfl, fun _ h => absurd h List.not_mem_nil⟩⟩⟩⟩
theorem n_X11_run_ok {R' : Type} {q : cL} {own : String} {d k : Nat} {f : Nat → Int32 → Int32 → Int32 → Int32 → cM → Option (Nat × Int32 × cM)} (hl : Cond.methodLink own k yX11_run ∈ lw_good) (hf : ∀ a0 a1 a2 a3 a4 M r, f a0 a1 a2 a3 a4 M = some r → CTx q yX11_run (.code yX11_run cX11_run 5 (some .int)) d [.ref a0, .int a1, .int a2, .int a3, .int a4] M (eTI r) ∧ ∃ fs, M[a0]? = some (.inr (9, fs))) : ceS q own d (3 * k + 1) (n_X11_run (R' := R') f) := by
  intro as M κ κx r h
  unfold n_X11_run at h
  split at h
  · obtain ⟨p, h1, h2⟩ := Option.bind_eq_some_iff.mp h
    obtain ⟨hc, fs, ha⟩ := hf _ _ _ _ _ _ _ h1
    exact ⟨eTI p, fun (h0 : p.1 = 0) => by unfold eTI; dsimp only; rw [if_pos h0] at h2 ⊢; exact h2, fun (h0 : p.1 ≠ 0) => by rw [if_neg h0] at h2; exact h2, Or.inr (Or.inl ⟨yX11_run, cX11_run, 5, (some .int), k, 4, _, _, 9, TX11, 10, fs, rfl, rfl, hc, ha, rfl, List.forall_mem_cons.mpr ⟨hl, w_X11_run⟩, ⟨rfl, by decide +kernel, by decide +kernel, by decide +kernel⟩, rfl, by decide⟩)⟩
  · cases h
-- PatchbayScriptLaw.run(LPatchbayScript;IIII[J)I
def T_L_run : List cRow := [(0, .aload 5, 2, 0), (2, .iconst 0, 3, 0), (3, .aload_n 0, 4, 0), (4, .iload_n 1, 5, 0), (5, .iload_n 2, 6, 0), (6, .iload_n 3, 7, 0), (7, .iload 4, 9, 0), (9, .invokevirtual 68, 12, 0), (12, .i2l, 13, 0), (13, .lastore, 14, 0), (14, .goto 15, 17, 29), (29, .iconst 0, 30, 0), (30, .ireturn, 31, 0)]
theorem T_L_run_ok : T_L_run.all (rowB cL_run) = true := by decide +kernel
def ca_L_run (F : Nat) : List (Nat × cFn (Int32 × cM)) := [(205, n_X11_run (f_X11_run F))]
theorem ca_L_run_ok {q : cL} (hst : q.1.stackTraces = false) {D : Nat} (hD : 8 ≤ D) (F : Nat) : ∀ x ∈ ca_L_run F, 1 ≤ D ∧ ceS q RL (D - 1) x.1 x.2 := List.forall_mem_cons.mpr ⟨⟨by omega, n_X11_run_ok (k := 68) (lw_good_of (tb_ok 1051 (by decide +kernel)) rfl) (fun a0 a1 a2 a3 a4 M r h => c_X11_run hst (by omega) F a0 a1 a2 a3 a4 M r h)⟩, fun _ h => absurd h List.not_mem_nil⟩
def h_L_run : List (Nat × Nat × Nat × Nat) := [(0, 14, 17, 25), (0, 14, 21, 13), (0, 14, 25, 15)]
def x_L_run : List (Nat × Int32) := [(1, 2), (2, 3), (3, 1)]
theorem x_L_run_ok : ∀ x ∈ x_L_run, hOK RL cL_run 7 (tableOf h_L_run) 9 x.1 x.2 := List.forall_mem_cons.mpr ⟨⟨Or.inl rfl, [⟨0, 14, 17, 25⟩], ⟨0, 14, 21, 13⟩, [⟨0, 14, 25, 15⟩], 6, 2, 2, rfl, List.forall_mem_cons.mpr ⟨⟨by decide, 3, by decide, by decide, lw_good_of (tb_ok 635 (by decide +kernel)) rfl⟩, fun _ h => absurd h List.not_mem_nil⟩, by decide +kernel, by decide, lw_good_of (tb_ok 409 (by decide +kernel)) rfl, by decide, Or.inr ⟨rfl, by decide +kernel⟩, by decide +kernel, rfl, by decide +kernel⟩, List.forall_mem_cons.mpr ⟨⟨Or.inr (Or.inl rfl), [⟨0, 14, 17, 25⟩, ⟨0, 14, 21, 13⟩], ⟨0, 14, 25, 15⟩, [], 6, 2, 3, rfl, List.forall_mem_cons.mpr ⟨⟨by decide, 3, by decide, by decide, lw_good_of (tb_ok 635 (by decide +kernel)) rfl⟩, List.forall_mem_cons.mpr ⟨⟨by decide, 1, by decide, by decide, lw_good_of (tb_ok 409 (by decide +kernel)) rfl⟩, fun _ h => absurd h List.not_mem_nil⟩⟩, by decide +kernel, by decide, lw_good_of (tb_ok 410 (by decide +kernel)) rfl, by decide, Or.inr ⟨rfl, by decide +kernel⟩, by decide +kernel, rfl, by decide +kernel⟩, List.forall_mem_cons.mpr ⟨⟨Or.inr (Or.inr rfl), [], ⟨0, 14, 17, 25⟩, [⟨0, 14, 21, 13⟩, ⟨0, 14, 25, 15⟩], 6, 2, 1, rfl, fun _ h => absurd h List.not_mem_nil, by decide +kernel, by decide, lw_good_of (tb_ok 635 (by decide +kernel)) rfl, by decide, Or.inr ⟨rfl, by decide +kernel⟩, by decide +kernel, rfl, by decide +kernel⟩, fun _ h => absurd h List.not_mem_nil⟩⟩⟩
noncomputable def f_L_run (F : Nat) (a0 : Nat) (a1 : Int32) (a2 : Int32) (a3 : Int32) (a4 : Int32) (a5 : Nat) (M : cM) : Option (Int32 × cM) := runW T_L_run x_L_run [9] [(9, kW T_L_run (ca_L_run F) x_L_run 9 68 5 16)] 16 0 (ent [.ref a0, .int a1, .int a2, .int a3, .int a4, .ref a5] 7) [] M
theorem c_L_run {q : cL} (hst : q.1.stackTraces = false) {D : Nat} (hD : 8 ≤ D) (F : Nat) (a0 : Nat) (a1 : Int32) (a2 : Int32) (a3 : Int32) (a4 : Int32) (a5 : Nat) (M : cM) (r : Int32 × cM) (h : f_L_run F a0 a1 a2 a3 a4 a5 M = some r) : CTW q yL_run cL_run 7 h_L_run D [.ref a0, .int a1, .int a2, .int a3, .int a4, .ref a5] M r :=
  wrap_ok (own := RL) (by decide +kernel) rfl (Nat.le_of_ble_eq_true rfl) T_L_run_ok (ca_L_run_ok hst hD F) (by decide +kernel) x_L_run_ok h
def n_X11_show {R' : Type} (f : Nat → Int32 → Int32 → cM → Option (Nat × Int32 × cM)) : cFn R' := fun as M κ κx => match as with
  | [.ref a0, .int a1, .int a2] => (f a0 a1 a2 M).bind fun p => if p.1 = 0 then κ (some (.int p.2.1)) p.2.2 else κx p.1 p.2.2
  | _ => none
theorem w_X11_show : ∀ w ∈ [Cond.instanceMethod yX11_show, .selects yX11_show.cls yX11_show yX11_show, .initialized yX11_show.cls, .code yX11_show cX11_show 5 (some .int)], w ∈ lw_good := List.forall_mem_cons.mpr ⟨lw_good_of (tb_ok 682 (by decide +kernel)) rfl, List.forall_mem_cons.mpr ⟨lw_good_of (tb_ok 683 (by decide +kernel)) rfl, List.forall_mem_cons.mpr ⟨lw_good_of (tb_ok 1 (by decide +kernel)) rfl, List.forall_mem_cons.mpr ⟨lw_good_of (tb_ok 684 (by decide +kernel)) rfl, fun _ h => absurd h List.not_mem_nil⟩⟩⟩⟩
theorem n_X11_show_ok {R' : Type} {q : cL} {own : String} {d k : Nat} {f : Nat → Int32 → Int32 → cM → Option (Nat × Int32 × cM)} (hl : Cond.methodLink own k yX11_show ∈ lw_good) (hf : ∀ a0 a1 a2 M r, f a0 a1 a2 M = some r → CTx q yX11_show (.code yX11_show cX11_show 5 (some .int)) d [.ref a0, .int a1, .int a2] M (eTI r) ∧ ∃ fs, M[a0]? = some (.inr (9, fs))) : ceS q own d (3 * k + 1) (n_X11_show (R' := R') f) := by
  intro as M κ κx r h
  unfold n_X11_show at h
  split at h
  · obtain ⟨p, h1, h2⟩ := Option.bind_eq_some_iff.mp h
    obtain ⟨hc, fs, ha⟩ := hf _ _ _ _ _ h1
    exact ⟨eTI p, fun (h0 : p.1 = 0) => by unfold eTI; dsimp only; rw [if_pos h0] at h2 ⊢; exact h2, fun (h0 : p.1 ≠ 0) => by rw [if_neg h0] at h2; exact h2, Or.inr (Or.inl ⟨yX11_show, cX11_show, 5, (some .int), k, 2, _, _, 9, TX11, 10, fs, rfl, rfl, hc, ha, rfl, List.forall_mem_cons.mpr ⟨hl, w_X11_show⟩, ⟨rfl, by decide +kernel, by decide +kernel, by decide +kernel⟩, rfl, by decide⟩)⟩
  · cases h
-- PatchbayScriptLaw.show(LPatchbayScript;II[J)I
def T_L_show : List cRow := [(0, .aload_n 3, 1, 0), (1, .iconst 0, 2, 0), (2, .aload_n 0, 3, 0), (3, .iload_n 1, 4, 0), (4, .iload_n 2, 5, 0), (5, .invokevirtual 35, 8, 0), (8, .i2l, 9, 0), (9, .lastore, 10, 0), (10, .goto 11, 13, 21), (21, .iconst 0, 22, 0), (22, .ireturn, 23, 0)]
theorem T_L_show_ok : T_L_show.all (rowB cL_show) = true := by decide +kernel
def ca_L_show (F : Nat) : List (Nat × cFn (Int32 × cM)) := [(106, n_X11_show (f_X11_show F))]
theorem ca_L_show_ok {q : cL} (hst : q.1.stackTraces = false) {D : Nat} (hD : 8 ≤ D) (F : Nat) : ∀ x ∈ ca_L_show F, 1 ≤ D ∧ ceS q RL (D - 1) x.1 x.2 := List.forall_mem_cons.mpr ⟨⟨by omega, n_X11_show_ok (k := 35) (lw_good_of (tb_ok 681 (by decide +kernel)) rfl) (fun a0 a1 a2 M r h => c_X11_show hst (by omega) F a0 a1 a2 M r h)⟩, fun _ h => absurd h List.not_mem_nil⟩
def h_L_show : List (Nat × Nat × Nat × Nat) := [(0, 10, 13, 25), (0, 10, 17, 15)]
def x_L_show : List (Nat × Int32) := [(2, 2), (3, 1)]
theorem x_L_show_ok : ∀ x ∈ x_L_show, hOK RL cL_show 5 (tableOf h_L_show) 5 x.1 x.2 := List.forall_mem_cons.mpr ⟨⟨Or.inr (Or.inl rfl), [⟨0, 10, 13, 25⟩], ⟨0, 10, 17, 15⟩, [], 4, 2, 2, rfl, List.forall_mem_cons.mpr ⟨⟨by decide, 3, by decide, by decide, lw_good_of (tb_ok 635 (by decide +kernel)) rfl⟩, fun _ h => absurd h List.not_mem_nil⟩, by decide +kernel, by decide, lw_good_of (tb_ok 410 (by decide +kernel)) rfl, by decide, Or.inr ⟨rfl, by decide +kernel⟩, by decide +kernel, rfl, by decide +kernel⟩, List.forall_mem_cons.mpr ⟨⟨Or.inr (Or.inr rfl), [], ⟨0, 10, 13, 25⟩, [⟨0, 10, 17, 15⟩], 4, 2, 1, rfl, fun _ h => absurd h List.not_mem_nil, by decide +kernel, by decide, lw_good_of (tb_ok 635 (by decide +kernel)) rfl, by decide, Or.inr ⟨rfl, by decide +kernel⟩, by decide +kernel, rfl, by decide +kernel⟩, fun _ h => absurd h List.not_mem_nil⟩⟩
noncomputable def f_L_show (F : Nat) (a0 : Nat) (a1 : Int32) (a2 : Int32) (a3 : Nat) (M : cM) : Option (Int32 × cM) := runW T_L_show x_L_show [5] [(5, kW T_L_show (ca_L_show F) x_L_show 5 35 3 14)] 14 0 (ent [.ref a0, .int a1, .int a2, .ref a3] 5) [] M
theorem c_L_show {q : cL} (hst : q.1.stackTraces = false) {D : Nat} (hD : 8 ≤ D) (F : Nat) (a0 : Nat) (a1 : Int32) (a2 : Int32) (a3 : Nat) (M : cM) (r : Int32 × cM) (h : f_L_show F a0 a1 a2 a3 M = some r) : CTW q yL_show cL_show 5 h_L_show D [.ref a0, .int a1, .int a2, .ref a3] M r :=
  wrap_ok (own := RL) (by decide +kernel) rfl (Nat.le_of_ble_eq_true rfl) T_L_show_ok (ca_L_show_ok hst hD F) (by decide +kernel) x_L_show_ok h
def n_X11_signAt {R' : Type} (f : Nat → Int32 → Int32 → cM → Option (Nat × Int32 × cM)) : cFn R' := fun as M κ κx => match as with
  | [.ref a0, .int a1, .int a2] => (f a0 a1 a2 M).bind fun p => if p.1 = 0 then κ (some (.int p.2.1)) p.2.2 else κx p.1 p.2.2
  | _ => none
theorem w_X11_signAt : ∀ w ∈ [Cond.instanceMethod yX11_signAt, .selects yX11_signAt.cls yX11_signAt yX11_signAt, .initialized yX11_signAt.cls, .code yX11_signAt cX11_signAt 4 (some .char)], w ∈ lw_good := List.forall_mem_cons.mpr ⟨lw_good_of (tb_ok 664 (by decide +kernel)) rfl, List.forall_mem_cons.mpr ⟨lw_good_of (tb_ok 665 (by decide +kernel)) rfl, List.forall_mem_cons.mpr ⟨lw_good_of (tb_ok 1 (by decide +kernel)) rfl, List.forall_mem_cons.mpr ⟨lw_good_of (tb_ok 666 (by decide +kernel)) rfl, fun _ h => absurd h List.not_mem_nil⟩⟩⟩⟩
theorem n_X11_signAt_ok {R' : Type} {q : cL} {own : String} {d k : Nat} {f : Nat → Int32 → Int32 → cM → Option (Nat × Int32 × cM)} (hl : Cond.methodLink own k yX11_signAt ∈ lw_good) (hf : ∀ a0 a1 a2 M r, f a0 a1 a2 M = some r → CTx q yX11_signAt (.code yX11_signAt cX11_signAt 4 (some .char)) d [.ref a0, .int a1, .int a2] M (eTI r) ∧ ∃ fs, M[a0]? = some (.inr (9, fs))) : ceS q own d (3 * k + 1) (n_X11_signAt (R' := R') f) := by
  intro as M κ κx r h
  unfold n_X11_signAt at h
  split at h
  · obtain ⟨p, h1, h2⟩ := Option.bind_eq_some_iff.mp h
    obtain ⟨hc, fs, ha⟩ := hf _ _ _ _ _ h1
    exact ⟨eTI p, fun (h0 : p.1 = 0) => by unfold eTI; dsimp only; rw [if_pos h0] at h2 ⊢; exact h2, fun (h0 : p.1 ≠ 0) => by rw [if_neg h0] at h2; exact h2, Or.inr (Or.inl ⟨yX11_signAt, cX11_signAt, 4, (some .char), k, 2, _, _, 9, TX11, 10, fs, rfl, rfl, hc, ha, rfl, List.forall_mem_cons.mpr ⟨hl, w_X11_signAt⟩, ⟨rfl, by decide +kernel, by decide +kernel, by decide +kernel⟩, rfl, by decide⟩)⟩
  · cases h
-- PatchbayScriptLaw.signAt(LPatchbayScript;II[J)I
def T_L_signAt : List cRow := [(0, .aload_n 3, 1, 0), (1, .iconst 0, 2, 0), (2, .aload_n 0, 3, 0), (3, .iload_n 1, 4, 0), (4, .iload_n 2, 5, 0), (5, .invokevirtual 27, 8, 0), (8, .i2l, 9, 0), (9, .lastore, 10, 0), (10, .goto 7, 13, 17), (17, .iconst 0, 18, 0), (18, .ireturn, 19, 0)]
theorem T_L_signAt_ok : T_L_signAt.all (rowB cL_signAt) = true := by decide +kernel
def ca_L_signAt (F : Nat) : List (Nat × cFn (Int32 × cM)) := [(82, n_X11_signAt (f_X11_signAt F))]
theorem ca_L_signAt_ok {q : cL} (hst : q.1.stackTraces = false) {D : Nat} (hD : 8 ≤ D) (F : Nat) : ∀ x ∈ ca_L_signAt F, 1 ≤ D ∧ ceS q RL (D - 1) x.1 x.2 := List.forall_mem_cons.mpr ⟨⟨by omega, n_X11_signAt_ok (k := 27) (lw_good_of (tb_ok 663 (by decide +kernel)) rfl) (fun a0 a1 a2 M r h => c_X11_signAt hst (by omega) F a0 a1 a2 M r h)⟩, fun _ h => absurd h List.not_mem_nil⟩
def h_L_signAt : List (Nat × Nat × Nat × Nat) := [(0, 10, 13, 25)]
def x_L_signAt : List (Nat × Int32) := [(3, 1)]
theorem x_L_signAt_ok : ∀ x ∈ x_L_signAt, hOK RL cL_signAt 5 (tableOf h_L_signAt) 5 x.1 x.2 := List.forall_mem_cons.mpr ⟨⟨Or.inr (Or.inr rfl), [], ⟨0, 10, 13, 25⟩, [], 4, 2, 1, rfl, fun _ h => absurd h List.not_mem_nil, by decide +kernel, by decide, lw_good_of (tb_ok 635 (by decide +kernel)) rfl, by decide, Or.inr ⟨rfl, by decide +kernel⟩, by decide +kernel, rfl, by decide +kernel⟩, fun _ h => absurd h List.not_mem_nil⟩
noncomputable def f_L_signAt (F : Nat) (a0 : Nat) (a1 : Int32) (a2 : Int32) (a3 : Nat) (M : cM) : Option (Int32 × cM) := runW T_L_signAt x_L_signAt [5] [(5, kW T_L_signAt (ca_L_signAt F) x_L_signAt 5 27 3 14)] 14 0 (ent [.ref a0, .int a1, .int a2, .ref a3] 5) [] M
theorem c_L_signAt {q : cL} (hst : q.1.stackTraces = false) {D : Nat} (hD : 8 ≤ D) (F : Nat) (a0 : Nat) (a1 : Int32) (a2 : Int32) (a3 : Nat) (M : cM) (r : Int32 × cM) (h : f_L_signAt F a0 a1 a2 a3 M = some r) : CTW q yL_signAt cL_signAt 5 h_L_signAt D [.ref a0, .int a1, .int a2, .ref a3] M r :=
  wrap_ok (own := RL) (by decide +kernel) rfl (Nat.le_of_ble_eq_true rfl) T_L_signAt_ok (ca_L_signAt_ok hst hD F) (by decide +kernel) x_L_signAt_ok h
def n_X11_stand {R' : Type} (f : Nat → Int32 → Int32 → cM → Option (Nat × Int32 × cM)) : cFn R' := fun as M κ κx => match as with
  | [.ref a0, .int a1, .int a2] => (f a0 a1 a2 M).bind fun p => if p.1 = 0 then κ (some (.int p.2.1)) p.2.2 else κx p.1 p.2.2
  | _ => none
theorem w_X11_stand : ∀ w ∈ [Cond.instanceMethod yX11_stand, .selects yX11_stand.cls yX11_stand yX11_stand, .initialized yX11_stand.cls, .code yX11_stand cX11_stand 4 (some .boolean)], w ∈ lw_good := List.forall_mem_cons.mpr ⟨lw_good_of (tb_ok 1088 (by decide +kernel)) rfl, List.forall_mem_cons.mpr ⟨lw_good_of (tb_ok 1089 (by decide +kernel)) rfl, List.forall_mem_cons.mpr ⟨lw_good_of (tb_ok 1 (by decide +kernel)) rfl, List.forall_mem_cons.mpr ⟨lw_good_of (tb_ok 1090 (by decide +kernel)) rfl, fun _ h => absurd h List.not_mem_nil⟩⟩⟩⟩
theorem n_X11_stand_ok {R' : Type} {q : cL} {own : String} {d k : Nat} {f : Nat → Int32 → Int32 → cM → Option (Nat × Int32 × cM)} (hl : Cond.methodLink own k yX11_stand ∈ lw_good) (hf : ∀ a0 a1 a2 M r, f a0 a1 a2 M = some r → CTx q yX11_stand (.code yX11_stand cX11_stand 4 (some .boolean)) d [.ref a0, .int a1, .int a2] M (eTI r) ∧ ∃ fs, M[a0]? = some (.inr (9, fs))) : ceS q own d (3 * k + 1) (n_X11_stand (R' := R') f) := by
  intro as M κ κx r h
  unfold n_X11_stand at h
  split at h
  · obtain ⟨p, h1, h2⟩ := Option.bind_eq_some_iff.mp h
    obtain ⟨hc, fs, ha⟩ := hf _ _ _ _ _ h1
    exact ⟨eTI p, fun (h0 : p.1 = 0) => by unfold eTI; dsimp only; rw [if_pos h0] at h2 ⊢; exact h2, fun (h0 : p.1 ≠ 0) => by rw [if_neg h0] at h2; exact h2, Or.inr (Or.inl ⟨yX11_stand, cX11_stand, 4, (some .boolean), k, 2, _, _, 9, TX11, 10, fs, rfl, rfl, hc, ha, rfl, List.forall_mem_cons.mpr ⟨hl, w_X11_stand⟩, ⟨rfl, by decide +kernel, by decide +kernel, by decide +kernel⟩, rfl, by decide⟩)⟩
  · cases h
-- PatchbayScriptLaw.stand(LPatchbayScript;IZ[J)I
def T_L_stand : List cRow := [(0, .aload_n 3, 1, 0), (1, .iconst 0, 2, 0), (2, .aload_n 0, 3, 0), (3, .iload_n 1, 4, 0), (4, .iload_n 2, 5, 0), (5, .invokevirtual 76, 8, 0), (8, .ifCond .eq 7, 11, 15), (11, .lconst 1, 12, 0), (12, .goto 4, 15, 16), (15, .lconst 0, 16, 0), (16, .lastore, 17, 0), (17, .goto 11, 20, 28), (28, .iconst 0, 29, 0), (29, .ireturn, 30, 0)]
theorem T_L_stand_ok : T_L_stand.all (rowB cL_stand) = true := by decide +kernel
def ca_L_stand (F : Nat) : List (Nat × cFn (Int32 × cM)) := [(229, n_X11_stand (f_X11_stand F))]
theorem ca_L_stand_ok {q : cL} (hst : q.1.stackTraces = false) {D : Nat} (hD : 8 ≤ D) (F : Nat) : ∀ x ∈ ca_L_stand F, 1 ≤ D ∧ ceS q RL (D - 1) x.1 x.2 := List.forall_mem_cons.mpr ⟨⟨by omega, n_X11_stand_ok (k := 76) (lw_good_of (tb_ok 1087 (by decide +kernel)) rfl) (fun a0 a1 a2 M r h => c_X11_stand hst (by omega) F a0 a1 a2 M r h)⟩, fun _ h => absurd h List.not_mem_nil⟩
def h_L_stand : List (Nat × Nat × Nat × Nat) := [(0, 17, 20, 25), (0, 17, 24, 15)]
def x_L_stand : List (Nat × Int32) := [(2, 2), (3, 1)]
theorem x_L_stand_ok : ∀ x ∈ x_L_stand, hOK RL cL_stand 5 (tableOf h_L_stand) 5 x.1 x.2 := List.forall_mem_cons.mpr ⟨⟨Or.inr (Or.inl rfl), [⟨0, 17, 20, 25⟩], ⟨0, 17, 24, 15⟩, [], 4, 2, 2, rfl, List.forall_mem_cons.mpr ⟨⟨by decide, 3, by decide, by decide, lw_good_of (tb_ok 635 (by decide +kernel)) rfl⟩, fun _ h => absurd h List.not_mem_nil⟩, by decide +kernel, by decide, lw_good_of (tb_ok 410 (by decide +kernel)) rfl, by decide, Or.inr ⟨rfl, by decide +kernel⟩, by decide +kernel, rfl, by decide +kernel⟩, List.forall_mem_cons.mpr ⟨⟨Or.inr (Or.inr rfl), [], ⟨0, 17, 20, 25⟩, [⟨0, 17, 24, 15⟩], 4, 2, 1, rfl, fun _ h => absurd h List.not_mem_nil, by decide +kernel, by decide, lw_good_of (tb_ok 635 (by decide +kernel)) rfl, by decide, Or.inr ⟨rfl, by decide +kernel⟩, by decide +kernel, rfl, by decide +kernel⟩, fun _ h => absurd h List.not_mem_nil⟩⟩
noncomputable def f_L_stand (F : Nat) (a0 : Nat) (a1 : Int32) (a2 : Int32) (a3 : Nat) (M : cM) : Option (Int32 × cM) := runW T_L_stand x_L_stand [5] [(5, kW T_L_stand (ca_L_stand F) x_L_stand 5 76 3 17)] 17 0 (ent [.ref a0, .int a1, .int a2, .ref a3] 5) [] M
theorem c_L_stand {q : cL} (hst : q.1.stackTraces = false) {D : Nat} (hD : 8 ≤ D) (F : Nat) (a0 : Nat) (a1 : Int32) (a2 : Int32) (a3 : Nat) (M : cM) (r : Int32 × cM) (h : f_L_stand F a0 a1 a2 a3 M = some r) : CTW q yL_stand cL_stand 5 h_L_stand D [.ref a0, .int a1, .int a2, .ref a3] M r :=
  wrap_ok (own := RL) (by decide +kernel) rfl (Nat.le_of_ble_eq_true rfl) T_L_stand_ok (ca_L_stand_ok hst hD F) (by decide +kernel) x_L_stand_ok h
def n_X11_type {R' : Type} (f : Nat → Int32 → cM → Option (Nat × Int32 × cM)) : cFn R' := fun as M κ κx => match as with
  | [.ref a0, .int a1] => (f a0 a1 M).bind fun p => if p.1 = 0 then κ (some (.int p.2.1)) p.2.2 else κx p.1 p.2.2
  | _ => none
theorem w_X11_type : ∀ w ∈ [Cond.instanceMethod yX11_type, .selects yX11_type.cls yX11_type yX11_type, .initialized yX11_type.cls, .code yX11_type cX11_type 2 (some .int)], w ∈ lw_good := List.forall_mem_cons.mpr ⟨lw_good_of (tb_ok 412 (by decide +kernel)) rfl, List.forall_mem_cons.mpr ⟨lw_good_of (tb_ok 413 (by decide +kernel)) rfl, List.forall_mem_cons.mpr ⟨lw_good_of (tb_ok 1 (by decide +kernel)) rfl, List.forall_mem_cons.mpr ⟨lw_good_of (tb_ok 414 (by decide +kernel)) rfl, fun _ h => absurd h List.not_mem_nil⟩⟩⟩⟩
theorem n_X11_type_ok {R' : Type} {q : cL} {own : String} {d k : Nat} {f : Nat → Int32 → cM → Option (Nat × Int32 × cM)} (hl : Cond.methodLink own k yX11_type ∈ lw_good) (hf : ∀ a0 a1 M r, f a0 a1 M = some r → CTx q yX11_type (.code yX11_type cX11_type 2 (some .int)) d [.ref a0, .int a1] M (eTI r) ∧ ∃ fs, M[a0]? = some (.inr (9, fs))) : ceS q own d (3 * k + 1) (n_X11_type (R' := R') f) := by
  intro as M κ κx r h
  unfold n_X11_type at h
  split at h
  · obtain ⟨p, h1, h2⟩ := Option.bind_eq_some_iff.mp h
    obtain ⟨hc, fs, ha⟩ := hf _ _ _ _ h1
    exact ⟨eTI p, fun (h0 : p.1 = 0) => by unfold eTI; dsimp only; rw [if_pos h0] at h2 ⊢; exact h2, fun (h0 : p.1 ≠ 0) => by rw [if_neg h0] at h2; exact h2, Or.inr (Or.inl ⟨yX11_type, cX11_type, 2, (some .int), k, 1, _, _, 9, TX11, 10, fs, rfl, rfl, hc, ha, rfl, List.forall_mem_cons.mpr ⟨hl, w_X11_type⟩, ⟨rfl, by decide +kernel, by decide +kernel, by decide +kernel⟩, rfl, by decide⟩)⟩
  · cases h
-- PatchbayScriptLaw.type(LPatchbayScript;C[J)I
def T_L_type : List cRow := [(0, .aload_n 2, 1, 0), (1, .iconst 0, 2, 0), (2, .aload_n 0, 3, 0), (3, .iload_n 1, 4, 0), (4, .invokevirtual 7, 7, 0), (7, .i2l, 8, 0), (8, .lastore, 9, 0), (9, .goto 9, 12, 18), (18, .iconst 0, 19, 0), (19, .ireturn, 20, 0)]
theorem T_L_type_ok : T_L_type.all (rowB cL_type) = true := by decide +kernel
def ca_L_type (F : Nat) : List (Nat × cFn (Int32 × cM)) := [(22, n_X11_type (f_X11_type F))]
theorem ca_L_type_ok {q : cL} (hst : q.1.stackTraces = false) {D : Nat} (hD : 7 ≤ D) (F : Nat) : ∀ x ∈ ca_L_type F, 1 ≤ D ∧ ceS q RL (D - 1) x.1 x.2 := List.forall_mem_cons.mpr ⟨⟨by omega, n_X11_type_ok (k := 7) (lw_good_of (tb_ok 411 (by decide +kernel)) rfl) (fun a0 a1 M r h => c_X11_type hst (by omega) F a0 a1 M r h)⟩, fun _ h => absurd h List.not_mem_nil⟩
def h_L_type : List (Nat × Nat × Nat × Nat) := [(0, 9, 12, 13), (0, 9, 15, 15)]
def x_L_type : List (Nat × Int32) := [(1, 1), (2, 2)]
theorem x_L_type_ok : ∀ x ∈ x_L_type, hOK RL cL_type 4 (tableOf h_L_type) 4 x.1 x.2 := List.forall_mem_cons.mpr ⟨⟨Or.inl rfl, [], ⟨0, 9, 12, 13⟩, [⟨0, 9, 15, 15⟩], 3, 1, 1, rfl, fun _ h => absurd h List.not_mem_nil, by decide +kernel, by decide, lw_good_of (tb_ok 409 (by decide +kernel)) rfl, by decide, Or.inl ⟨3, rfl, rfl, by decide +kernel⟩, by decide +kernel, rfl, by decide +kernel⟩, List.forall_mem_cons.mpr ⟨⟨Or.inr (Or.inl rfl), [⟨0, 9, 12, 13⟩], ⟨0, 9, 15, 15⟩, [], 3, 1, 2, rfl, List.forall_mem_cons.mpr ⟨⟨by decide, 1, by decide, by decide, lw_good_of (tb_ok 409 (by decide +kernel)) rfl⟩, fun _ h => absurd h List.not_mem_nil⟩, by decide +kernel, by decide, lw_good_of (tb_ok 410 (by decide +kernel)) rfl, by decide, Or.inl ⟨3, rfl, rfl, by decide +kernel⟩, by decide +kernel, rfl, by decide +kernel⟩, fun _ h => absurd h List.not_mem_nil⟩⟩
noncomputable def f_L_type (F : Nat) (a0 : Nat) (a1 : Int32) (a2 : Nat) (M : cM) : Option (Int32 × cM) := runW T_L_type x_L_type [4] [(4, kW T_L_type (ca_L_type F) x_L_type 4 7 2 13)] 13 0 (ent [.ref a0, .int a1, .ref a2] 4) [] M
theorem c_L_type {q : cL} (hst : q.1.stackTraces = false) {D : Nat} (hD : 7 ≤ D) (F : Nat) (a0 : Nat) (a1 : Int32) (a2 : Nat) (M : cM) (r : Int32 × cM) (h : f_L_type F a0 a1 a2 M = some r) : CTW q yL_type cL_type 4 h_L_type D [.ref a0, .int a1, .ref a2] M r :=
  wrap_ok (own := RL) (by decide +kernel) rfl (Nat.le_of_ble_eq_true rfl) T_L_type_ok (ca_L_type_ok hst hD F) (by decide +kernel) x_L_type_ok h
def n_X11_undo {R' : Type} (f : Nat → Int32 → cM → Option (Nat × Int32 × cM)) : cFn R' := fun as M κ κx => match as with
  | [.ref a0, .int a1] => (f a0 a1 M).bind fun p => if p.1 = 0 then κ (some (.int p.2.1)) p.2.2 else κx p.1 p.2.2
  | _ => none
theorem w_X11_undo : ∀ w ∈ [Cond.instanceMethod yX11_undo, .selects yX11_undo.cls yX11_undo yX11_undo, .initialized yX11_undo.cls, .code yX11_undo cX11_undo 3 (some .boolean)], w ∈ lw_good := List.forall_mem_cons.mpr ⟨lw_good_of (tb_ok 1062 (by decide +kernel)) rfl, List.forall_mem_cons.mpr ⟨lw_good_of (tb_ok 1063 (by decide +kernel)) rfl, List.forall_mem_cons.mpr ⟨lw_good_of (tb_ok 1 (by decide +kernel)) rfl, List.forall_mem_cons.mpr ⟨lw_good_of (tb_ok 1064 (by decide +kernel)) rfl, fun _ h => absurd h List.not_mem_nil⟩⟩⟩⟩
theorem n_X11_undo_ok {R' : Type} {q : cL} {own : String} {d k : Nat} {f : Nat → Int32 → cM → Option (Nat × Int32 × cM)} (hl : Cond.methodLink own k yX11_undo ∈ lw_good) (hf : ∀ a0 a1 M r, f a0 a1 M = some r → CTx q yX11_undo (.code yX11_undo cX11_undo 3 (some .boolean)) d [.ref a0, .int a1] M (eTI r) ∧ ∃ fs, M[a0]? = some (.inr (9, fs))) : ceS q own d (3 * k + 1) (n_X11_undo (R' := R') f) := by
  intro as M κ κx r h
  unfold n_X11_undo at h
  split at h
  · obtain ⟨p, h1, h2⟩ := Option.bind_eq_some_iff.mp h
    obtain ⟨hc, fs, ha⟩ := hf _ _ _ _ h1
    exact ⟨eTI p, fun (h0 : p.1 = 0) => by unfold eTI; dsimp only; rw [if_pos h0] at h2 ⊢; exact h2, fun (h0 : p.1 ≠ 0) => by rw [if_neg h0] at h2; exact h2, Or.inr (Or.inl ⟨yX11_undo, cX11_undo, 3, (some .boolean), k, 1, _, _, 9, TX11, 10, fs, rfl, rfl, hc, ha, rfl, List.forall_mem_cons.mpr ⟨hl, w_X11_undo⟩, ⟨rfl, by decide +kernel, by decide +kernel, by decide +kernel⟩, rfl, by decide⟩)⟩
  · cases h
-- PatchbayScriptLaw.undo(LPatchbayScript;I[J)I
def T_L_undo : List cRow := [(0, .aload_n 2, 1, 0), (1, .iconst 0, 2, 0), (2, .aload_n 0, 3, 0), (3, .iload_n 1, 4, 0), (4, .invokevirtual 72, 7, 0), (7, .ifCond .eq 7, 10, 14), (10, .lconst 1, 11, 0), (11, .goto 4, 14, 15), (14, .lconst 0, 15, 0), (15, .lastore, 16, 0), (16, .goto 6, 19, 22), (22, .iconst 0, 23, 0), (23, .ireturn, 24, 0)]
theorem T_L_undo_ok : T_L_undo.all (rowB cL_undo) = true := by decide +kernel
def ca_L_undo (F : Nat) : List (Nat × cFn (Int32 × cM)) := [(217, n_X11_undo (f_X11_undo F))]
theorem ca_L_undo_ok {q : cL} (hst : q.1.stackTraces = false) {D : Nat} (hD : 7 ≤ D) (F : Nat) : ∀ x ∈ ca_L_undo F, 1 ≤ D ∧ ceS q RL (D - 1) x.1 x.2 := List.forall_mem_cons.mpr ⟨⟨by omega, n_X11_undo_ok (k := 72) (lw_good_of (tb_ok 1061 (by decide +kernel)) rfl) (fun a0 a1 M r h => c_X11_undo hst (by omega) F a0 a1 M r h)⟩, fun _ h => absurd h List.not_mem_nil⟩
def h_L_undo : List (Nat × Nat × Nat × Nat) := [(0, 16, 19, 25)]
def x_L_undo : List (Nat × Int32) := [(3, 1)]
theorem x_L_undo_ok : ∀ x ∈ x_L_undo, hOK RL cL_undo 4 (tableOf h_L_undo) 4 x.1 x.2 := List.forall_mem_cons.mpr ⟨⟨Or.inr (Or.inr rfl), [], ⟨0, 16, 19, 25⟩, [], 3, 1, 1, rfl, fun _ h => absurd h List.not_mem_nil, by decide +kernel, by decide, lw_good_of (tb_ok 635 (by decide +kernel)) rfl, by decide, Or.inl ⟨3, rfl, rfl, by decide +kernel⟩, by decide +kernel, rfl, by decide +kernel⟩, fun _ h => absurd h List.not_mem_nil⟩
noncomputable def f_L_undo (F : Nat) (a0 : Nat) (a1 : Int32) (a2 : Nat) (M : cM) : Option (Int32 × cM) := runW T_L_undo x_L_undo [4] [(4, kW T_L_undo (ca_L_undo F) x_L_undo 4 72 2 16)] 16 0 (ent [.ref a0, .int a1, .ref a2] 4) [] M
theorem c_L_undo {q : cL} (hst : q.1.stackTraces = false) {D : Nat} (hD : 7 ≤ D) (F : Nat) (a0 : Nat) (a1 : Int32) (a2 : Nat) (M : cM) (r : Int32 × cM) (h : f_L_undo F a0 a1 a2 M = some r) : CTW q yL_undo cL_undo 4 h_L_undo D [.ref a0, .int a1, .ref a2] M r :=
  wrap_ok (own := RL) (by decide +kernel) rfl (Nat.le_of_ble_eq_true rfl) T_L_undo_ok (ca_L_undo_ok hst hD F) (by decide +kernel) x_L_undo_ok h
def n_X11_weight {R' : Type} (f : Nat → Int32 → Int32 → cM → Option (Nat × Int32 × cM)) : cFn R' := fun as M κ κx => match as with
  | [.ref a0, .int a1, .int a2] => (f a0 a1 a2 M).bind fun p => if p.1 = 0 then κ (some (.int p.2.1)) p.2.2 else κx p.1 p.2.2
  | _ => none
theorem w_X11_weight : ∀ w ∈ [Cond.instanceMethod yX11_weight, .selects yX11_weight.cls yX11_weight yX11_weight, .initialized yX11_weight.cls, .code yX11_weight cX11_weight 3 (some .int)], w ∈ lw_good := List.forall_mem_cons.mpr ⟨lw_good_of (tb_ok 1003 (by decide +kernel)) rfl, List.forall_mem_cons.mpr ⟨lw_good_of (tb_ok 1004 (by decide +kernel)) rfl, List.forall_mem_cons.mpr ⟨lw_good_of (tb_ok 1 (by decide +kernel)) rfl, List.forall_mem_cons.mpr ⟨lw_good_of (tb_ok 1005 (by decide +kernel)) rfl, fun _ h => absurd h List.not_mem_nil⟩⟩⟩⟩
theorem n_X11_weight_ok {R' : Type} {q : cL} {own : String} {d k : Nat} {f : Nat → Int32 → Int32 → cM → Option (Nat × Int32 × cM)} (hl : Cond.methodLink own k yX11_weight ∈ lw_good) (hf : ∀ a0 a1 a2 M r, f a0 a1 a2 M = some r → CTx q yX11_weight (.code yX11_weight cX11_weight 3 (some .int)) d [.ref a0, .int a1, .int a2] M (eTI r) ∧ ∃ fs, M[a0]? = some (.inr (9, fs))) : ceS q own d (3 * k + 1) (n_X11_weight (R' := R') f) := by
  intro as M κ κx r h
  unfold n_X11_weight at h
  split at h
  · obtain ⟨p, h1, h2⟩ := Option.bind_eq_some_iff.mp h
    obtain ⟨hc, fs, ha⟩ := hf _ _ _ _ _ h1
    exact ⟨eTI p, fun (h0 : p.1 = 0) => by unfold eTI; dsimp only; rw [if_pos h0] at h2 ⊢; exact h2, fun (h0 : p.1 ≠ 0) => by rw [if_neg h0] at h2; exact h2, Or.inr (Or.inl ⟨yX11_weight, cX11_weight, 3, (some .int), k, 2, _, _, 9, TX11, 10, fs, rfl, rfl, hc, ha, rfl, List.forall_mem_cons.mpr ⟨hl, w_X11_weight⟩, ⟨rfl, by decide +kernel, by decide +kernel, by decide +kernel⟩, rfl, by decide⟩)⟩
  · cases h
-- PatchbayScriptLaw.weight(LPatchbayScript;II[J)I
def T_L_weight : List cRow := [(0, .aload_n 3, 1, 0), (1, .iconst 0, 2, 0), (2, .aload_n 0, 3, 0), (3, .iload_n 1, 4, 0), (4, .iload_n 2, 5, 0), (5, .invokevirtual 51, 8, 0), (8, .i2l, 9, 0), (9, .lastore, 10, 0), (10, .goto 7, 13, 17), (17, .iconst 0, 18, 0), (18, .ireturn, 19, 0)]
theorem T_L_weight_ok : T_L_weight.all (rowB cL_weight) = true := by decide +kernel
def ca_L_weight (F : Nat) : List (Nat × cFn (Int32 × cM)) := [(154, n_X11_weight (f_X11_weight F))]
theorem ca_L_weight_ok {q : cL} (hst : q.1.stackTraces = false) {D : Nat} (hD : 51 ≤ D) (F : Nat) : ∀ x ∈ ca_L_weight F, 1 ≤ D ∧ ceS q RL (D - 1) x.1 x.2 := List.forall_mem_cons.mpr ⟨⟨by omega, n_X11_weight_ok (k := 51) (lw_good_of (tb_ok 1002 (by decide +kernel)) rfl) (fun a0 a1 a2 M r h => c_X11_weight hst (by omega) F a0 a1 a2 M r h)⟩, fun _ h => absurd h List.not_mem_nil⟩
def h_L_weight : List (Nat × Nat × Nat × Nat) := [(0, 10, 13, 25)]
def x_L_weight : List (Nat × Int32) := [(3, 1)]
theorem x_L_weight_ok : ∀ x ∈ x_L_weight, hOK RL cL_weight 5 (tableOf h_L_weight) 5 x.1 x.2 := List.forall_mem_cons.mpr ⟨⟨Or.inr (Or.inr rfl), [], ⟨0, 10, 13, 25⟩, [], 4, 2, 1, rfl, fun _ h => absurd h List.not_mem_nil, by decide +kernel, by decide, lw_good_of (tb_ok 635 (by decide +kernel)) rfl, by decide, Or.inr ⟨rfl, by decide +kernel⟩, by decide +kernel, rfl, by decide +kernel⟩, fun _ h => absurd h List.not_mem_nil⟩
noncomputable def f_L_weight (F : Nat) (a0 : Nat) (a1 : Int32) (a2 : Int32) (a3 : Nat) (M : cM) : Option (Int32 × cM) := runW T_L_weight x_L_weight [5] [(5, kW T_L_weight (ca_L_weight F) x_L_weight 5 51 3 14)] 14 0 (ent [.ref a0, .int a1, .int a2, .ref a3] 5) [] M
theorem c_L_weight {q : cL} (hst : q.1.stackTraces = false) {D : Nat} (hD : 51 ≤ D) (F : Nat) (a0 : Nat) (a1 : Int32) (a2 : Int32) (a3 : Nat) (M : cM) (r : Int32 × cM) (h : f_L_weight F a0 a1 a2 a3 M = some r) : CTW q yL_weight cL_weight 5 h_L_weight D [.ref a0, .int a1, .int a2, .ref a3] M r :=
  wrap_ok (own := RL) (by decide +kernel) rfl (Nat.le_of_ble_eq_true rfl) T_L_weight_ok (ca_L_weight_ok hst hD F) (by decide +kernel) x_L_weight_ok h
