/-! A WALK OF MANY INSTRUCTIONS; SWITCHES -/
def tgB (i : Instr) (pc tg : Nat) : Bool := match i with
  | .bipush n => decide (-128 ≤ n ∧ n < 128)
  | .sipush n => decide (-32768 ≤ n ∧ n < 32768)
  | .ifCond _ o => decide ((pc : Int) + o = (tg : Int))
  | .if_icmp _ o => decide ((pc : Int) + o = (tg : Int))
  | .if_acmp _ o => decide ((pc : Int) + o = (tg : Int))
  | .goto o => decide ((pc : Int) + o = (tg : Int))
  | _ => true
theorem tgB_ok {i : Instr} {pc tg : Nat} (h : tgB i pc tg = true) : tgOK i pc tg := by
  unfold tgB at h
  unfold tgOK
  split at h <;> first | exact of_decide_eq_true h | (split <;> first | trivial | simp_all)
def rowB (cc : ByteArray) (q : cRow) : Bool := match q.2.1 with
  | .tableswitch _ _ _ _ => q.2.2.1 == q.1 + 1
  | .lookupswitch _ _ => q.2.2.1 == q.1 + 1
  | i => decide (decode cc q.1 = .ok (i, ilen i)) && q.2.2.1 == q.1 + ilen i && tgB i q.1 q.2.2.2
theorem rowB_ok {cc : ByteArray} {pc nx tg : Nat} {i : Instr} (h : rowB cc (pc, i, nx, tg) = true) : nx = pc + ilen i ∧ ((∀ d lo hi os, i ≠ .tableswitch d lo hi os) → (∀ d ps, i ≠ .lookupswitch d ps) → decode cc pc = .ok (i, ilen i)) ∧ tgOK i pc tg := by
  unfold rowB at h
  dsimp only at h
  split at h
  · next d lo hi os => exact ⟨eq_of_beq h, fun q => absurd rfl (q _ _ _ _), trivial⟩
  · next d ps => exact ⟨eq_of_beq h, fun _ q => absurd rfl (q _ _), trivial⟩
  · simp only [Bool.and_eq_true, decide_eq_true_eq, beq_iff_eq] at h
    exact ⟨h.1.2, fun _ _ => h.1.1, tgB_ok h.2⟩
theorem lk_mem {tb : List cRow} {pc : Nat} {q : Instr × Nat × Nat} (h : lk tb pc = some q) : (pc, q) ∈ tb := by
  induction tb with
  | nil => cases h
  | cons x r ih =>
    obtain ⟨p, q'⟩ := x
    unfold lk at h
    split at h
    · next hp =>
      cases h
      rw [Nat.eq_of_beq_eq_true hp]
      exact List.mem_cons_self
    · exact List.mem_cons_of_mem _ (ih h)
/-- a switch: what stands for its table in the pure machine -/
def swB (cc : ByteArray) (pc : Nat) (q : List (Int32 × Nat) × Nat) (i : Instr) (len : Nat) : Bool := decide (decode cc pc = .ok (i, len)) && match i with
  | .tableswitch d lo hi os => decide ((pc : Int) + d = (q.2 : Int)) && decide (lo + q.1.length = hi + 1) && (List.range q.1.length).all (fun j => match q.1[j]?, os[j]? with
    | some x, some off => decide (x.1.toInt = lo + j) && decide ((pc : Int) + off = (x.2 : Int))
    | _, _ => false)
  | .lookupswitch d ps => decide ((pc : Int) + d = (q.2 : Int)) && (ps.toList.zip (ps.toList.drop 1)).all (fun (a, next) => a.1 < next.1) && decide (ps.toList.length = q.1.length) && (List.range q.1.length).all (fun j => match q.1[j]?, ps.toList[j]? with
    | some x, some y => decide (x.1.toInt = y.1) && decide ((pc : Int) + y.2 = (x.2 : Int))
    | _, _ => false)
  | _ => false
theorem swk_at {R' : Type} {l : List (Int32 × Nat)} {d : Nat} {x : Int32} {k : Nat → Option R'} (j t : Nat) (hj : l[j]? = some (x, t)) (hb : ∀ i, i < j → ∀ q, l[i]? = some q → q.1 ≠ x) : swk l d x k = k t := by
  induction l generalizing j with
  | nil => simp at hj
  | cons q l ih =>
    obtain ⟨a, b⟩ := q
    cases j with
    | zero =>
      simp at hj
      obtain ⟨rfl, rfl⟩ := hj
      unfold swk
      rw [if_pos rfl]
    | succ j =>
      unfold swk
      have hne : x ≠ a := fun h => hb 0 (by omega) (a, b) rfl h.symm
      rw [if_neg hne]
      exact ih j (by simpa using hj) (fun i hi q hq => hb (i + 1) (by omega) q (by simpa using hq))
theorem swk_out {R' : Type} {l : List (Int32 × Nat)} {d : Nat} {x : Int32} {k : Nat → Option R'} (hb : ∀ q ∈ l, q.1 ≠ x) : swk l d x k = k d := by
  induction l with
  | nil => rfl
  | cons q l ih =>
    obtain ⟨a, b⟩ := q
    unfold swk
    have hne : x ≠ a := fun h => hb (a, b) List.mem_cons_self h.symm
    rw [if_neg hne]
    exact ih (fun q hq => hb q (List.mem_cons_of_mem _ hq))
theorem lso_eq : ∀ (ps : List (Int × Int)) (l : List (Int32 × Nat)) (d : Int) (dn pc : Nat) (x : Int32), (pc : Int) + d = (dn : Int) → ps.length = l.length → (∀ j, j < l.length → ∀ a b, l[j]? = some a → ps[j]? = some b → a.1.toInt = b.1 ∧ (pc : Int) + b.2 = (a.2 : Int)) → ∃ t : Nat, (∀ (R' : Type) (k : Nat → Option R'), swk l dn x k = k t) ∧ (pc : Int) + Op.lookupswitch.offset ps d x.toInt = (t : Int)
  | [], [], d, dn, pc, x, h, _, _ => ⟨dn, fun _ _ => rfl, by rw [Op.lookupswitch.offset_nil]; exact h⟩
  | (a, b) :: ps, (c, t) :: l, d, dn, pc, x, h, hl, hj => by
    have h0 := hj 0 (by simp) _ _ rfl rfl
    by_cases hx : x = c
    · refine ⟨t, fun _ _ => by unfold swk; rw [if_pos hx], ?_⟩
      rw [Op.lookupswitch.offset_cons, if_pos (by rw [hx]; exact h0.1.symm)]
      exact h0.2
    · obtain ⟨t', g1, g2⟩ := lso_eq ps l d dn pc x h (by simpa using hl) (fun j hj' a' b' ha hb => hj (j + 1) (by simp; omega) a' b' (by simpa using ha) (by simpa using hb))
      refine ⟨t', fun R' k => by unfold swk; rw [if_neg hx]; exact g1 R' k, ?_⟩
      rw [lv_osw hx h0.1]
      exact g2
section
variable {p : Program} {l : Launch} {e : Env} {R : Room} {s : State} {m : MethodId} {args : Array Value} {below : List Frame} {meth : Method} {c : Code}
variable {dC : Nat → ClassId} {dI : Nat → Nat → Nat} {aC : Nat → ClassId} {B nL : Nat} {md : Bool} {L0 S0 mc ms : Nat} {o : cO} {cc : ByteArray} {own : String} {rk : Nat}
theorem sw_ok (hx : p.tables.exec = Jvm.exec) (hb : c.code = cc) {pc : Nat} {q : List (Int32 × Nat) × Nat} {i : Instr} {len : Nat} (hq : swB cc pc q i len = true) {vs : List (Option Value)} {x : Int32} {st : List Value} {M : cM}
    (h : ∀ t, swk q.1 q.2 x (fun t' => if t' = t then some () else none) = some () → WA p l e R s m args below meth c dC dI aC B nL md L0 S0 mc ms o t vs st M) : WA p l e R s m args below meth c dC dI aC B nL md L0 S0 mc ms o pc vs (.int x :: st) M := by
  unfold swB at hq
  rw [Bool.and_eq_true] at hq
  obtain ⟨hd, hq⟩ := hq
  have hd := of_decide_eq_true hd
  split at hq
  · next d lo hi os hd =>
    simp only [Bool.and_eq_true, decide_eq_true_eq, List.all_eq_true, List.mem_range] at hq
    obtain ⟨⟨h1, h2⟩, h3⟩ := hq
    have hk : ∀ j, j < q.1.length → ∃ a off, q.1[j]? = some a ∧ os[j]? = some off ∧ a.1.toInt = lo + j ∧ (pc : Int) + off = (a.2 : Int) := by
      intro j hj
      have := h3 j hj
      split at this
      · next a off ha ho =>
        simp only [Bool.and_eq_true, decide_eq_true_eq] at this
        exact ⟨a, off, ha, ho, this.1, this.2⟩
      · cases this
    by_cases hin : x.toInt < lo ∨ hi < x.toInt
    · have hs := h q.2 (by
        rw [swk_out (fun y hy hxy => ?_), if_pos rfl]
        obtain ⟨j, hj⟩ := List.getElem?_of_mem hy
        have hjl := (List.getElem?_eq_some_iff.mp hj).1
        obtain ⟨a, off, g1, g2, g3, g4⟩ := hk j hjl
        rw [hj] at g1
        cases g1
        rw [hxy] at g3
        omega)
      exact WA_step hs (fun H locs ls cells slots Q hV hP k => lv_tableOut hx hb hd hin h1 (k ls hV))
    · obtain ⟨a, off, g1, g2, g3, g4⟩ := hk (x.toInt - lo).toNat (by omega)
      have hxa : a.1 = x := Int32.toInt_inj.mp (by rw [g3]; omega)
      have hs := h a.2 (by
        rw [swk_at (x.toInt - lo).toNat a.2 (by rw [g1, ← hxa]) (fun i hi y hy hxy => ?_), if_pos rfl]
        obtain ⟨a', off', j1, j2, j3, j4⟩ := hk i (by omega)
        rw [hy] at j1
        cases j1
        rw [hxy] at j3
        omega)
      exact WA_step hs (fun H locs ls cells slots Q hV hP k => lv_tableIn hx hb hd (by omega) (by omega) g2 g4 (k ls hV))
  · next d ps hd =>
    simp only [Bool.and_eq_true, decide_eq_true_eq] at hq
    obtain ⟨⟨⟨h1, h2⟩, h3⟩, h4⟩ := hq
    obtain ⟨t, g1, g2⟩ := lso_eq ps.toList q.1 d q.2 pc x h1 h3 (fun j hj a b ha hb => by
      have := List.all_eq_true.mp h4 j (List.mem_range.mpr hj)
      rw [ha, hb] at this
      simp only [Bool.and_eq_true, decide_eq_true_eq] at this
      exact this)
    have hs := h t (by rw [g1, if_pos rfl])
    exact WA_step hs (fun H locs ls cells slots Q hV hP k => lv_lookup hx hb hd h2 rfl g2 (k ls hV))
  · cases hq
theorem run_ok (F : cFix p l R s m args meth c dC dI aC B nL md L0 S0 mc ms o cc own rk) {R' : Type} {C : cP} (hC : pOK own C) {na : Nat → Nat} {ca : Nat → List Value → cM → (Option Value → cM → Option R') → (Nat → cM → Option R') → Option R'} {th : Nat → Option Nat} {sw : Nat → Option (List (Int32 × Nat) × Nat)} {kr : Option Value → cM → Option R'} {kx : Nat → cM → Option R'} {sp : Nat → Bool} {K : Nat → List (Option Value) → List Value → cM → Option R'} {r : R'}
    (hK : ∀ pc vs st M, K pc vs st M = some r → WA p l e R s m args below meth c dC dI aC B nL md L0 S0 mc ms o pc vs st M)
    (hkr : ∀ v M, kr v M = some r → o = (0, v, M))
    (hth : ∀ pc k vs M E, decode cc pc = .ok (.new k, 3) → th pc = some E → kx E M = some r → WA p l e R s m args below meth c dC dI aC B nL md L0 S0 mc ms o pc vs [] M)
    (hsw : ∀ pc q, sw pc = some q → ∃ i len, swB cc pc q i len = true)
    (hca : ∀ pc i k' vs as rest M κ, (∃ k, (i = .invokestatic k ∧ k' = 3 * k) ∨ (i = .invokevirtual k ∧ k' = 3 * k + 1) ∨ (i = .invokespecial k ∧ k' = 3 * k + 2)) → decode cc pc = .ok (i, 3) → (rest.map Value.category).sum ≤ 8 → as.length = na k' → ca k' as M κ kx = some r → (∀ v M', κ v M' = some r → WA p l e R s m args below meth c dC dI aC B nL md L0 S0 mc ms o (pc + 3) vs (v.toList ++ rest) M') → WA p l e R s m args below meth c dC dI aC B nL md L0 S0 mc ms o pc vs (as.reverse ++ rest) M)
    (hal : md = true → ∀ go : Nat → List (Option Value) → List Value → cM → Option R', (∀ pc vs st M, go pc vs st M = some r → WA p l e R s m args below meth c dC dI aC B nL md L0 S0 mc ms o pc vs st M) → ∀ i pc vs st M, (∃ k, i = .new k) ∨ (∃ t, i = .newarray t) ∨ (∃ k, i = .anewarray k) → decode cc pc = .ok (i, ilen i) → ((∃ k, i = .new k) → th pc = none) → stp C md rk na ca th sw kr kx go i pc (pc + ilen i) 0 vs st M = some r → WA p l e R s m args below meth c dC dI aC B nL md L0 S0 mc ms o pc vs st M)
    {tb : List cRow} (htb : tb.all (rowB cc) = true) : ∀ (n pc : Nat) (vs : List (Option Value)) (st : List Value) (M : cM), run tb C md rk na ca th sw kr kx sp K n pc vs st M = some r → WA p l e R s m args below meth c dC dI aC B nL md L0 S0 mc ms o pc vs st M := by
  intro n
  induction n with
  | zero => intro pc vs st M h; cases h
  | succ n ih =>
    intro pc vs st M h
    have h : (Option.rec (motive := fun _ => Option R') none (fun q => stp C md rk na ca th sw kr kx (fun pc vs st M => Bool.rec (motive := fun _ => Option R') (run tb C md rk na ca th sw kr kx sp K n pc vs st M) (K pc vs st M) (sp pc)) q.1 pc q.2.1 q.2.2 vs st M) (lk tb pc) : Option R') = some r := h
    cases hq : lk tb pc with
    | none => rw [hq] at h; cases h
    | some q =>
      rw [hq] at h
      obtain ⟨i, nx, tg⟩ := q
      have h : stp C md rk na ca th sw kr kx (fun pc vs st M => Bool.rec (motive := fun _ => Option R') (run tb C md rk na ca th sw kr kx sp K n pc vs st M) (K pc vs st M) (sp pc)) i pc nx tg vs st M = some r := h
      obtain ⟨h1, h2, h3⟩ := rowB_ok (List.all_eq_true.mp htb _ (lk_mem hq))
      have hgo : ∀ pc vs st M, (Bool.rec (motive := fun _ => Option R') (run tb C md rk na ca th sw kr kx sp K n pc vs st M) (K pc vs st M) (sp pc) : Option R') = some r → WA p l e R s m args below meth c dC dI aC B nL md L0 S0 mc ms o pc vs st M := by
        intro pc vs st M h
        cases hs : sp pc with
        | true => rw [hs] at h; exact hK _ _ _ _ h
        | false => rw [hs] at h; exact ih _ _ _ _ h
      exact stp_ok F hC hgo hkr hth (fun pc q vs x st M hs ht => by
        obtain ⟨i, len, hB⟩ := hsw pc q hs
        exact sw_ok F.1 F.2.1 hB ht) hca (fun hm => hal hm _ hgo) h1 h2 h3 h
end
