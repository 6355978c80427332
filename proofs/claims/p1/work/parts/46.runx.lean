/-! THE LAW'S WALK: run, and at some places a step of its own -/
abbrev xK : Type := Nat → List (Option Value) → List Value → cM → Option cM
abbrev xSp : Type := List (Option Value) → List Value → cM → xK → Option cM
abbrev krX : Option Value → cM → Option cM := fun v M => match v with
  | some (.int x) => if x = 1 then some M else none
  | _ => none
theorem krX_ok {r : cM} (v : Option Value) (M : cM) (h : krX v M = some r) : ((0, some (.int 1), r) : cO) = (0, v, M) := by
  unfold krX at h
  split at h
  · split at h
    · next hx => cases h; rw [hx]
    · cases h
  · cases h
/-- a cut is looked at when the walk comes to it; each look costs one of n -/
noncomputable def runX (C : cP) (T : List cRow) (na : List (Nat × Nat)) (ca : List (Nat × cFn cM)) (sw : List (Nat × (List (Int32 × Nat) × Nat))) (sps : List (Nat × xSp)) (cuts : List Nat) (N : Nat) : Nat → xK := fun n =>
  Nat.rec (motive := fun _ => xK) (fun _ _ _ _ => none) (fun _ ih pc vs st M => Option.rec (motive := fun _ => Option cM) (run T C false 1 (naL na) (caL ca) (lkN []) (lkN sw) krX kxN (spL cuts) ih N pc vs st M) (fun f => f vs st M ih) (lkN sps pc)) n
section
variable {p : Program} {l : Launch} {e : Env} {R : Room} {s : State} {m : MethodId} {args : Array Value} {below : List Frame} {meth : Method} {c : Code}
variable {dC : Nat → ClassId} {dI : Nat → Nat → Nat} {aC : Nat → ClassId} {B nL : Nat} {mc ms : Nat} {cc : ByteArray} {own : String}
theorem runX_ok {r : cM} (hF : ∀ L0 S0, L0 ≤ mc → S0 ≤ ms → cFix p l R s m args meth c dC dI aC B nL false L0 S0 mc ms (0, some (.int 1), r) cc own 1) (E : cEnv dC dI aC B s) {D : Nat} (hl : l.stackTraces = false) (hRf : R.frames = D) (hRl : R.locals = 60 * D) {C : cP} (hC : pOK own C) {T : List cRow} (hT : T.all (rowB cc) = true) {na : List (Nat × Nat)} {ca : List (Nat × cFn cM)} (hca : ∀ q ∈ ca, 1 ≤ D ∧ ceS (l, dC, dI, aC, B) own (D - 1) q.1 q.2) {sw : List (Nat × (List (Int32 × Nat) × Nat))} (hsw : ∀ q ∈ sw, swS cc q) {sps : List (Nat × xSp)} {cuts : List Nat} {N : Nat}
    (hsp : ∀ q ∈ sps, ∀ (L0 S0 : Nat), L0 + 1 ≤ mc → S0 + 6 ≤ ms → ∀ vs st M (k : xK), q.2 vs st M k = some r → (∀ pc' vs' st' M', k pc' vs' st' M' = some r → ∀ L1 S1, L1 ≤ L0 + 1 → S1 ≤ S0 + 6 → WA p l e R s m args below meth c dC dI aC B nL false L1 S1 mc ms (0, some (.int 1), r) pc' vs' st' M') → WA p l e R s m args below meth c dC dI aC B nL false L0 S0 mc ms (0, some (.int 1), r) q.1 vs st M) :
    ∀ (n L0 S0 : Nat), L0 + n ≤ mc → S0 + 6 * n ≤ ms → ∀ pc vs st M, runX C T na ca sw sps cuts N n pc vs st M = some r → WA p l e R s m args below meth c dC dI aC B nL false L0 S0 mc ms (0, some (.int 1), r) pc vs st M := by
  intro n
  induction n with
  | zero => intro L0 S0 _ _ pc vs st M h; cases h
  | succ n ih =>
    intro L0 S0 h1 h2 pc vs st M h
    have h : (Option.rec (motive := fun _ => Option cM) (run T C false 1 (naL na) (caL ca) (lkN []) (lkN sw) krX kxN (spL cuts) (runX C T na ca sw sps cuts N n) N pc vs st M) (fun f => f vs st M (runX C T na ca sw sps cuts N n)) (lkN sps pc) : Option cM) = some r := h
    cases hq : lkN sps pc with
    | some f =>
      rw [hq] at h
      exact hsp _ (lkN_mem hq) L0 S0 (by omega) (by omega) vs st M _ h (fun pc' vs' st' M' h' L1 S1 h3 h4 => ih L1 S1 (by omega) (by omega) pc' vs' st' M' h')
    | none =>
      rw [hq] at h
      have F := hF L0 S0 (by omega) (by omega)
      exact run_ok (na := naL na) (ca := caL ca) (th := lkN []) (sw := lkN sw) (kr := krX) (kx := kxN) (sp := spL cuts) (K := runX C T na ca sw sps cuts N n) (tb := T) F hC (fun pc vs st M h => ih L0 S0 (by omega) (by omega) pc vs st M h) (fun v M h => krX_ok v M h) (fun pc k vs M e0 _ hte => by cases hte) (fun pc q hq => swS_ex (hsw (pc, q) (lkN_mem hq))) (fun pc i k' vs as rest M κ hi hdg hcat hlen h hk => caL_ok F E (fun h => absurd rfl h) hRf hRl hca (fun e M h => by cases h) pc i k' vs as rest M κ hi hdg hcat h hk) (fun q => by cases q) hT N pc vs st M h
end
