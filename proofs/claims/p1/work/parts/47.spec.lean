/-! THE LAW'S OWN STEPS, AND THAT THEY ARE SOUND -/
def xLen (b L : Nat) (nx : Nat) : xSp := fun vs st M k => match vs with
  | some (.retAddr b') :: _ => if b' = b then k nx vs (.int (Int32.ofNat L) :: st) M else none
  | _ => none
def xRead0 (b L : Nat) (xs : Nat → Int32) (nx : Nat) : xSp := fun vs st M k => match vs with
  | some (.retAddr b') :: _ :: _ :: _ :: some (.int i) :: _ => if b' = b ∧ ¬ (i < 0 ∨ L ≤ i.toNatClampNeg) then k nx vs (.int (xs i.toNatClampNeg) :: st) M else none
  | _ => none
def xReadK (b L : Nat) (xs : Nat → Int32) (v : Int32) (nx : Nat) : xSp := fun vs st M k => match vs with
  | some (.retAddr b') :: _ :: _ :: _ :: some (.int i) :: _ => if b' = b ∧ ¬ (i + v < 0 ∨ L ≤ (i + v).toNatClampNeg) then k nx vs (.int (xs (i + v).toNatClampNeg) :: st) M else none
  | _ => none
def xWrap (n : Nat) (f : List Value → cM → Option (Int32 × cM)) (nx : Nat) : xSp := fun vs st M k => if Nat.ble ((st.drop n).map Value.category).sum 8 = true then (f (st.take n).reverse M).bind fun r => k nx vs (.int r.1 :: st.drop n) r.2 else none
section
variable {p : Program} {l : Launch} {e : Env} {R : Room} {s : State} {m : MethodId} {args : Array Value} {below : List Frame} {meth : Method} {c : Code}
variable {dC : Nat → ClassId} {dI : Nat → Nat → Nat} {aC : Nat → ClassId} {B nL : Nat} {mc ms : Nat} {cc : ByteArray} {own : String} {r : cM} {L0 S0 : Nat}
theorem xLen_ok (F : cFix p l R s m args meth c dC dI aC B nL false L0 S0 mc ms (0, some (.int 1), r) cc own 1) {b L : Nat} {xs : Nat → Int32} (hX : va_X b L xs s s.heap) (hbl : b < B) {pc nx : Nat} (d : decode cc pc = .ok (.aload_n 0, 1) ∧ decode cc (pc + 1) = .ok (.arraylength, 1) ∧ nx = pc + 2) {vs : List (Option Value)} {st : List Value} {M : cM} {k : xK} (h : xLen b L nx vs st M k = some r)
    (hk : ∀ pc' vs' st' M', k pc' vs' st' M' = some r → ∀ L1 S1, L1 ≤ L0 + 1 → S1 ≤ S0 + 6 → WA p l e R s m args below meth c dC dI aC B nL false L1 S1 mc ms (0, some (.int 1), r) pc' vs' st' M') : WA p l e R s m args below meth c dC dI aC B nL false L0 S0 mc ms (0, some (.int 1), r) pc vs st M := by
  obtain ⟨d0, d1, rfl⟩ := d
  unfold xLen at h
  split at h
  · split at h
    · next hb =>
      subst hb
      exact WA_sal F d0 rfl (WA_slen F hX hbl d1 (hk _ _ _ _ h L0 S0 (by omega) (by omega)))
    · cases h
  · cases h
theorem xRead0_ok (F : cFix p l R s m args meth c dC dI aC B nL false L0 S0 mc ms (0, some (.int 1), r) cc own 1) {b L : Nat} {xs : Nat → Int32} (hX : va_X b L xs s s.heap) (hbl : b < B) {pc nx : Nat} (d : decode cc pc = .ok (.aload_n 0, 1) ∧ decode cc (pc + 1) = .ok (.iload 4, 2) ∧ decode cc (pc + 3) = .ok (.iaload, 1) ∧ nx = pc + 4) {vs : List (Option Value)} {st : List Value} {M : cM} {k : xK} (h : xRead0 b L xs nx vs st M k = some r)
    (hk : ∀ pc' vs' st' M', k pc' vs' st' M' = some r → ∀ L1 S1, L1 ≤ L0 + 1 → S1 ≤ S0 + 6 → WA p l e R s m args below meth c dC dI aC B nL false L1 S1 mc ms (0, some (.int 1), r) pc' vs' st' M') : WA p l e R s m args below meth c dC dI aC B nL false L0 S0 mc ms (0, some (.int 1), r) pc vs st M := by
  obtain ⟨d0, d1, d2, rfl⟩ := d
  unfold xRead0 at h
  split at h
  · split at h
    · next hb =>
      obtain ⟨rfl, hin⟩ := hb
      exact read0 F hX hbl hin d0 d1 d2 rfl rfl (hk _ _ _ _ h L0 S0 (by omega) (by omega))
    · cases h
  · cases h
theorem xReadK_ok (F : cFix p l R s m args meth c dC dI aC B nL false L0 S0 mc ms (0, some (.int 1), r) cc own 1) {b L : Nat} {xs : Nat → Int32} (hX : va_X b L xs s s.heap) (hbl : b < B) {pc nx w : Nat} {n : Int} {v : Int32} (d : decode cc pc = .ok (.aload_n 0, 1) ∧ decode cc (pc + 1) = .ok (.iload 4, 2) ∧ ((w = 1 ∧ decode cc (pc + 3) = .ok (.iconst n, 1) ∧ Int32.ofInt n = v) ∨ (w = 2 ∧ decode cc (pc + 3) = .ok (.bipush n, 2) ∧ (Int8.ofInt n).toInt32 = v)) ∧ decode cc (pc + 3 + w) = .ok (.iadd, 1) ∧ decode cc (pc + 3 + w + 1) = .ok (.iaload, 1) ∧ nx = pc + 3 + w + 2) {vs : List (Option Value)} {st : List Value} {M : cM} {k : xK} (h : xReadK b L xs v nx vs st M k = some r)
    (hk : ∀ pc' vs' st' M', k pc' vs' st' M' = some r → ∀ L1 S1, L1 ≤ L0 + 1 → S1 ≤ S0 + 6 → WA p l e R s m args below meth c dC dI aC B nL false L1 S1 mc ms (0, some (.int 1), r) pc' vs' st' M') : WA p l e R s m args below meth c dC dI aC B nL false L0 S0 mc ms (0, some (.int 1), r) pc vs st M := by
  obtain ⟨d0, d1, d2, d3, d4, rfl⟩ := d
  unfold xReadK at h
  split at h
  · split at h
    · next hb =>
      obtain ⟨rfl, hin⟩ := hb
      exact readK F hX hbl hin d0 d1 d2 d3 d4 rfl rfl (hk _ _ _ _ h L0 S0 (by omega) (by omega))
    · cases h
  · cases h
theorem xWrap_ok (F : cFix p l R s m args meth c dC dI aC B nL false L0 S0 mc ms (0, some (.int 1), r) cc own 1) (E : cEnv dC dI aC B s) (h1 : L0 + 1 ≤ mc ∧ S0 + 6 ≤ ms) {y : MethodName} {bytes : ByteArray} {maxL d k0 n : Nat} {hh : List (Nat × Nat × Nat × Nat)} {f : List Value → cM → Option (Int32 × cM)} (hf : ∀ as M r, f as M = some r → CTW (l, dC, dI, aC, B) y bytes maxL hh d as M r ∧ as.length = n) (hw : ∀ w ∈ [Cond.methodLink own k0 y, .static y, .initialized y.cls, .codeWith y bytes maxL (some .int) hh], w ∈ lw_good) (hd : y.cls ≠ "java/lang/invoke/MethodHandle" ∧ y.cls ≠ "java/lang/invoke/VarHandle" ∧ (parseMethodDescriptor y.desc).map (fun d => d.parameters.length) = some n) (hR : d + 1 ≤ R.frames ∧ 8 + (maxL + 11) + 60 * d ≤ R.locals)
    {pc nx : Nat} (hdg : decode cc pc = .ok (.invokestatic k0, 3) ∧ nx = pc + 3) {vs : List (Option Value)} {st : List Value} {M : cM} {k : xK} (h : xWrap n f nx vs st M k = some r)
    (hk : ∀ pc' vs' st' M', k pc' vs' st' M' = some r → ∀ L1 S1, L1 ≤ L0 + 1 → S1 ≤ S0 + 6 → WA p l e R s m args below meth c dC dI aC B nL false L1 S1 mc ms (0, some (.int 1), r) pc' vs' st' M') : WA p l e R s m args below meth c dC dI aC B nL false L0 S0 mc ms (0, some (.int 1), r) pc vs st M := by
  obtain ⟨d0, rfl⟩ := hdg
  unfold xWrap at h
  split at h
  · next hb =>
    obtain ⟨r9, g1, g2⟩ := Option.bind_eq_some_iff.mp h
    obtain ⟨hM, hn⟩ := hf _ _ _ g1
    have e1 : st = (st.take n).reverse.reverse ++ st.drop n := by rw [List.reverse_reverse, List.take_append_drop]
    rw [e1]
    have hc : L0 + 1 ≤ R.cells ∧ S0 + 6 ≤ R.slots := by
      obtain ⟨-, -, -, -, -, -, -, -, -, -, -, hRc, hRs, -⟩ := F
      exact ⟨Nat.le_trans h1.1 hRc, Nat.le_trans h1.2 hRs⟩
    exact call_W F E hM hw hd hn hR hc d0 (Nat.le_of_ble_eq_true hb) (hk _ _ _ _ g2 _ _ (Nat.le_refl _) (Nat.le_refl _))
  · cases h
end
