/-! METHODS, part 19 (laid by wip/whole/tools/gen.py) -/
-- PatchbayScriptModel.asked()I
def T_X12_asked : List cRow := [(0, .aload_n 0, 1, 0), (1, .iconst 0, 2, 0), (2, .putfield 196, 5, 0), (5, .aload_n 0, 6, 0), (6, .getfield 400, 9, 0), (9, .istore_n 1, 10, 0), (10, .aload_n 0, 11, 0), (11, .iconst 0, 12, 0), (12, .putfield 400, 15, 0), (15, .iload_n 1, 16, 0), (16, .ireturn, 17, 0)]
theorem T_X12_asked_ok : T_X12_asked.all (rowB cX12_asked) = true := by decide +kernel
def th_X12_asked : List (Nat × Nat) := []
def sw_X12_asked : List (Nat × (List (Int32 × Nat) × Nat)) := []
theorem sw_X12_asked_ok : ∀ q ∈ sw_X12_asked, swS cX12_asked q := fun _ h => absurd h List.not_mem_nil
def na_X12_asked : List (Nat × Nat) := []
def ca_X12_asked {R' : Type} (F : Nat) : List (Nat × cFn R') := []
theorem ca_X12_asked_ok {R' : Type} {q : cL} (hst : q.1.stackTraces = false) {D : Nat} (hD : 0 ≤ D) (F : Nat) : ∀ x ∈ (ca_X12_asked (R' := R') F), 1 ≤ D ∧ ceS q RX12 (D - 1) x.1 x.2 := fun _ h => absurd h List.not_mem_nil
set_option maxRecDepth 20000 in
theorem e_X12_asked_0 (F : Nat) (x0 : Nat) (M : cM) : b_X12_asked_0 F x0 M = run T_X12_asked P_RX12 false 0 (naL na_X12_asked) (caL (ca_X12_asked F)) (lkN th_X12_asked) (lkN sw_X12_asked) krI kxN (spL []) (KL []) 14 0 [some (.ref x0), none] [] M := rfl
theorem ok_X12_asked_0 {X : cCtx} {D : Nat} {r : Int32 × cM} (G : FX X 2 (eI r) cX12_asked RX12 0 D) {F : Nat} (hca : ∀ x ∈ (ca_X12_asked (R' := Int32 × cM) F), 1 ≤ D ∧ ceS X.1 RX12 (D - 1) x.1 x.2) : ∀ x0 M, f_X12_asked_0 F x0 M = some r → WX X 2 (eI r) 0 [some (.ref x0), none] [] M := by
  intro x0 M h
  exact seg_ok G P_RX12_ok T_X12_asked_ok hca (fun _ h => absurd h List.not_mem_nil) sw_X12_asked_ok krI_ok (kxN_ok (f := eI)) (fun _ h => absurd h List.not_mem_nil) ((e_X12_asked_0 F x0 M).symm.trans h)
theorem c_X12_asked {q : cL} (hst : q.1.stackTraces = false) {D : Nat} (hD : 0 ≤ D) (F : Nat) (a0 : Nat) (M : cM) (r : Int32 × cM) (h : f_X12_asked F a0 M = some r) : CTx q yX12_asked (.code yX12_asked cX12_asked 2 (some .int)) D [.ref a0] M (eI r) ∧ ∃ fs, M[a0]? = some (.inr (10, fs)) := by
  unfold f_X12_asked at h
  split at h
  · next hi => exact ⟨CTx_of (own := RX12) (rk := 0) hst (by decide +kernel) rfl (rfl) (Nat.le_of_ble_eq_true rfl) (fun X hX G => by subst hX; exact ok_X12_asked_0 G (ca_X12_asked_ok hst hD F) a0 M h), isC_of hi⟩
  · cases h
