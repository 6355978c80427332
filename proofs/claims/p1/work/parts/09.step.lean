/-! ONE INSTRUCTION, ALL KINDS -/
theorem swk_to {R' : Type} {l : List (Int32 × Nat)} {d : Nat} {x : Int32} {k : Nat → Option R'} {r : R'} (h : swk l d x k = some r) {t : Nat} (ht : swk l d x (fun t' => if t' = t then some () else none) = some ()) : k t = some r := by
  induction l with
  | nil =>
    have ht : (if d = t then some () else none) = some () := ht
    by_cases hd : d = t
    · subst hd; exact h
    · rw [if_neg hd] at ht; cases ht
  | cons q l ih =>
    obtain ⟨a, b⟩ := q
    unfold swk at h ht
    by_cases hxa : x = a
    · rw [if_pos hxa] at h ht
      by_cases hd : b = t
      · subst hd; exact h
      · rw [if_neg hd] at ht; cases ht
    · rw [if_neg hxa] at h ht
      exact ih h ht
theorem c_tyA {aC : Nat → ClassId} {t : Nat} (h : t < 10) : ∃ ty, (cTys aC)[t]? = some (aC t, ty) := by
  have : t = 0 ∨ t = 1 ∨ t = 2 ∨ t = 3 ∨ t = 4 ∨ t = 5 ∨ t = 6 ∨ t = 7 ∨ t = 8 ∨ t = 9 := by omega
  rcases this with rfl | rfl | rfl | rfl | rfl | rfl | rfl | rfl | rfl | rfl <;> exact ⟨_, rfl⟩
theorem cAr_len (B : Nat) (y : vp_A) : (cAr B y).1 = y.1 := by
  obtain ⟨n, f | f | f | f | f⟩ := y <;> rfl
theorem char_ret {x : Int32} (h : vp_nar .char x = x) : narrow .char (.int x) = .int x := by
  have h1 : narrow .char (.int x) = .int (vp_nar .char x) := rfl
  rw [h1, h]
def pOK (own : String) (C : cP) : Prop := (∀ k v, C.1 k = some v → Cond.constant own k v ∈ lw_good) ∧ (∀ k v, C.2.1 k = some v → Cond.constantLong own k v ∈ lw_good) ∧ fdOK own C.2.2.1
set_option maxHeartbeats 4000000 in
theorem stp_ok {p : Program} {l : Launch} {e : Env} {R : Room} {s : State} {m : MethodId} {args : Array Value} {below : List Frame} {meth : Method} {c : Code} {dC : Nat → ClassId} {dI : Nat → Nat → Nat} {aC : Nat → ClassId} {B nL : Nat} {md : Bool} {L0 S0 mc ms : Nat} {o : cO} {cc : ByteArray} {own : String} {rk : Nat}
    (F : cFix p l R s m args meth c dC dI aC B nL md L0 S0 mc ms o cc own rk) {R' : Type} {C : cP} (hC : pOK own C) {na : Nat → Nat} {ca : Nat → List Value → cM → (Option Value → cM → Option R') → (Nat → cM → Option R') → Option R'} {th : Nat → Option Nat} {sw : Nat → Option (List (Int32 × Nat) × Nat)} {kr : Option Value → cM → Option R'} {kx : Nat → cM → Option R'} {go : Nat → List (Option Value) → List Value → cM → Option R'} {r : R'}
    (hgo : ∀ pc vs st M, go pc vs st M = some r → WA p l e R s m args below meth c dC dI aC B nL md L0 S0 mc ms o pc vs st M)
    (hkr : ∀ v M, kr v M = some r → o = (0, v, M))
    (hth : ∀ pc k vs M E, decode cc pc = .ok (.new k, 3) → th pc = some E → kx E M = some r → WA p l e R s m args below meth c dC dI aC B nL md L0 S0 mc ms o pc vs [] M)
    (hsw : ∀ pc q vs x st M, sw pc = some q → (∀ t, swk q.1 q.2 x (fun t' => if t' = t then some () else none) = some () → WA p l e R s m args below meth c dC dI aC B nL md L0 S0 mc ms o t vs st M) → WA p l e R s m args below meth c dC dI aC B nL md L0 S0 mc ms o pc vs (.int x :: st) M)
    (hca : ∀ pc i k' vs as rest M κ, (∃ k, (i = .invokestatic k ∧ k' = 3 * k) ∨ (i = .invokevirtual k ∧ k' = 3 * k + 1) ∨ (i = .invokespecial k ∧ k' = 3 * k + 2)) → decode cc pc = .ok (i, 3) → (rest.map Value.category).sum ≤ 8 → as.length = na k' → ca k' as M κ kx = some r → (∀ v M', κ v M' = some r → WA p l e R s m args below meth c dC dI aC B nL md L0 S0 mc ms o (pc + 3) vs (v.toList ++ rest) M') → WA p l e R s m args below meth c dC dI aC B nL md L0 S0 mc ms o pc vs (as.reverse ++ rest) M)
    (hal : md = true → ∀ i pc vs st M, (∃ k, i = .new k) ∨ (∃ t, i = .newarray t) ∨ (∃ k, i = .anewarray k) → decode cc pc = .ok (i, ilen i) → ((∃ k, i = .new k) → th pc = none) → stp C md rk na ca th sw kr kx go i pc (pc + ilen i) 0 vs st M = some r → WA p l e R s m args below meth c dC dI aC B nL md L0 S0 mc ms o pc vs st M)
    {i : Instr} {pc nx tg : Nat} (hnx : nx = pc + ilen i) (hd : (∀ d lo hi os, i ≠ .tableswitch d lo hi os) → (∀ d ps, i ≠ .lookupswitch d ps) → decode cc pc = .ok (i, ilen i)) (htg : tgOK i pc tg) {vs : List (Option Value)} {st : List Value} {M : cM} (h : stp C md rk na ca th sw kr kx go i pc nx tg vs st M = some r) : WA p l e R s m args below meth c dC dI aC B nL md L0 S0 mc ms o pc vs st M := by
  have F' := F
  obtain ⟨hx, hb, hml, hown, hts, hK, hlocks, hrt, hinit, hB, hmc, hRc, hRs, hext⟩ := F
  subst hnx
  unfold stp at h
  split at h
  case h_1 n => exact WA_step (hgo _ _ _ _ h) (fun H locs ls cells slots Q hV hP k => lv_iconst hx hb (hd (by simp) (by simp)) rfl (k ls hV))
  case h_2 n => exact WA_step (hgo _ _ _ _ h) (fun H locs ls cells slots Q hV hP k => lv_bipush hx hb (hd (by simp) (by simp)) (bip_ok htg) (k ls hV))
  case h_3 n => exact WA_step (hgo _ _ _ _ h) (fun H locs ls cells slots Q hV hP k => lv_sipush hx hb (hd (by simp) (by simp)) (sip_ok htg) (k ls hV))
  case h_4 n => exact WA_step (hgo _ _ _ _ h) (fun H locs ls cells slots Q hV hP k => lv_lconst hx hb (hd (by simp) (by simp)) rfl (k ls hV))
  case h_5 n =>
    obtain ⟨v, h1, h2⟩ := Option.bind_eq_some_iff.mp h
    exact WA_step (hgo _ _ _ _ h2) (fun H locs ls cells slots Q hV hP k => lv_ldc hx hb hown (hts _ (hC.1 _ _ h1)) (hd (by simp) (by simp)) (k ls hV))
  case h_6 n =>
    obtain ⟨v, h1, h2⟩ := Option.bind_eq_some_iff.mp h
    exact WA_step (hgo _ _ _ _ h2) (fun H locs ls cells slots Q hV hP k => lv_ldcw hx hb hown (hts _ (hC.1 _ _ h1)) (hd (by simp) (by simp)) (k ls hV))
  case h_7 n =>
    obtain ⟨v, h1, h2⟩ := Option.bind_eq_some_iff.mp h
    exact WA_step (hgo _ _ _ _ h2) (fun H locs ls cells slots Q hV hP k => lv_ldc2 hx hb hown (hts _ (hC.2.1 _ _ h1)) (hd (by simp) (by simp)) (k ls hV))
  case h_8 =>
    obtain ⟨v, h1, h2⟩ := Option.bind_eq_some_iff.mp h
    exact WA_step (hgo _ _ _ _ h2) (fun H locs ls cells slots Q hV hP k => lv_iload_n hx hb (hd (by simp) (by simp)) rfl (hV.2.2.2 _ _ (lI_of h1)) (k ls hV))
  case h_9 =>
    obtain ⟨v, h1, h2⟩ := Option.bind_eq_some_iff.mp h
    exact WA_step (hgo _ _ _ _ h2) (fun H locs ls cells slots Q hV hP k => lv_iload hx hb (hd (by simp) (by simp)) (hV.2.2.2 _ _ (lI_of h1)) (k ls hV))
  case h_10 =>
    obtain ⟨v, h1, h2⟩ := Option.bind_eq_some_iff.mp h
    exact WA_step (hgo _ _ _ _ h2) (fun H locs ls cells slots Q hV hP k => lv_lload_n hx hb (hd (by simp) (by simp)) rfl (hV.2.2.2 _ _ (lJ_of h1)) (k ls hV))
  case h_11 =>
    obtain ⟨v, h1, h2⟩ := Option.bind_eq_some_iff.mp h
    exact WA_step (hgo _ _ _ _ h2) (fun H locs ls cells slots Q hV hP k => lv_lload hx hb (hd (by simp) (by simp)) (hV.2.2.2 _ _ (lJ_of h1)) (k ls hV))
  case h_12 =>
    obtain ⟨v, h1, h2⟩ := Option.bind_eq_some_iff.mp h
    exact WA_step (hgo _ _ _ _ h2) (fun H locs ls cells slots Q hV hP k => lv_aload_n hx hb (hd (by simp) (by simp)) rfl (hV.2.2.2 _ _ (lR_of h1)) (k ls hV))
  case h_13 =>
    obtain ⟨v, h1, h2⟩ := Option.bind_eq_some_iff.mp h
    exact WA_step (hgo _ _ _ _ h2) (fun H locs ls cells slots Q hV hP k => lv_aload hx hb (hd (by simp) (by simp)) (hV.2.2.2 _ _ (lR_of h1)) (k ls hV))
  case h_14 =>
    split at h
    · split at h
      · next hlt =>
        exact WA_step (hgo _ _ _ _ h) (fun H locs ls cells slots Q hV hP k => lv_istore_n (lv := lvOf B vs) hx hb (hd (by simp) (by simp)) rfl (LV.has hV) (by rw [← hV.2.2.1]; exact hlt) rfl (fun ls1 h1 => k ls1 (LV_sto hV h1)))
      · cases h
    · cases h
  case h_15 =>
    split at h
    · split at h
      · next hlt =>
        exact WA_step (hgo _ _ _ _ h) (fun H locs ls cells slots Q hV hP k => lv_istore (lv := lvOf B vs) hx hb (hd (by simp) (by simp)) (LV.has hV) (by rw [← hV.2.2.1]; exact hlt) rfl (fun ls1 h1 => k ls1 (LV_sto hV h1)))
      · cases h
    · cases h
  case h_16 =>
    split at h
    · split at h
      · next hlt =>
        exact WA_step (hgo _ _ _ _ h) (fun H locs ls cells slots Q hV hP k => lv_lstore_n (lv := lvOf B vs) hx hb (hd (by simp) (by simp)) rfl (LV.has hV) (by rw [← hV.2.2.1]; exact hlt) rfl (fun ls1 h1 => k ls1 (LV_sto2 hV h1)))
      · cases h
    · cases h
  case h_17 =>
    split at h
    · split at h
      · next hlt =>
        exact WA_step (hgo _ _ _ _ h) (fun H locs ls cells slots Q hV hP k => lv_lstore (lv := lvOf B vs) hx hb (hd (by simp) (by simp)) (LV.has hV) (by rw [← hV.2.2.1]; exact hlt) rfl (fun ls1 h1 => k ls1 (LV_sto2 hV h1)))
      · cases h
    · cases h
  case h_18 =>
    split at h
    · split at h
      · next hlt =>
        exact WA_step (hgo _ _ _ _ h) (fun H locs ls cells slots Q hV hP k => lv_astore_n (lv := lvOf B vs) hx hb (hd (by simp) (by simp)) rfl (LV.has hV) (by rw [← hV.2.2.1]; exact hlt) rfl (fun ls1 h1 => k ls1 (LV_sto hV h1)))
      · cases h
    · cases h
  case h_19 =>
    split at h
    · split at h
      · next hlt =>
        exact WA_step (hgo _ _ _ _ h) (fun H locs ls cells slots Q hV hP k => lv_astore (lv := lvOf B vs) hx hb (hd (by simp) (by simp)) (LV.has hV) (by rw [← hV.2.2.1]; exact hlt) rfl (fun ls1 h1 => k ls1 (LV_sto hV h1)))
      · cases h
    · cases h
  case h_20 =>
    obtain ⟨x, h1, h2⟩ := Option.bind_eq_some_iff.mp h
    split at h2
    · next hlt =>
      refine WA_step (hgo _ _ _ _ h2) (fun H locs ls cells slots Q hV hP k => ?_)
      obtain ⟨j, hj⟩ := List.getElem?_of_mem (lvOf_mem (B := B) (lI_of h1))
      exact lv_iinc (lv := lvOf B vs) hx hb (hd (by simp) (by simp)) (LV.has hV) hj rfl (by rw [← hV.2.2.1]; exact hlt) rfl (fun ls1 h1 => k ls1 (LV_sto hV h1))
    · cases h2
  case h_21 =>
    unfold b2 at h
    split at h
    · exact WA_step (hgo _ _ _ _ h) (fun H locs ls cells slots Q hV hP k => lv_iadd hx hb (hd (by simp) (by simp)) (k ls hV))
    · cases h
  case h_22 =>
    unfold b2 at h
    split at h
    · exact WA_step (hgo _ _ _ _ h) (fun H locs ls cells slots Q hV hP k => lv_isub hx hb (hd (by simp) (by simp)) (k ls hV))
    · cases h
  case h_23 =>
    unfold b2 at h
    split at h
    · exact WA_step (hgo _ _ _ _ h) (fun H locs ls cells slots Q hV hP k => lv_imul hx hb (hd (by simp) (by simp)) (k ls hV))
    · cases h
  case h_24 =>
    unfold b2 at h
    split at h
    · exact WA_step (hgo _ _ _ _ h) (fun H locs ls cells slots Q hV hP k => lv_iand hx hb (hd (by simp) (by simp)) (k ls hV))
    · cases h
  case h_25 =>
    unfold b2 at h
    split at h
    · exact WA_step (hgo _ _ _ _ h) (fun H locs ls cells slots Q hV hP k => lv_ior hx hb (hd (by simp) (by simp)) (k ls hV))
    · cases h
  case h_26 =>
    unfold b2 at h
    split at h
    · exact WA_step (hgo _ _ _ _ h) (fun H locs ls cells slots Q hV hP k => lv_ixor hx hb (hd (by simp) (by simp)) (k ls hV))
    · cases h
  case h_27 =>
    unfold b2 at h
    split at h
    · exact WA_step (hgo _ _ _ _ h) (fun H locs ls cells slots Q hV hP k => lv_ishl hx hb (hd (by simp) (by simp)) (k ls hV))
    · cases h
  case h_28 =>
    unfold b2 at h
    split at h
    · exact WA_step (hgo _ _ _ _ h) (fun H locs ls cells slots Q hV hP k => lv_ishr hx hb (hd (by simp) (by simp)) (k ls hV))
    · cases h
  case h_29 =>
    unfold b2 at h
    split at h
    · exact WA_step (hgo _ _ _ _ h) (fun H locs ls cells slots Q hV hP k => lv_iushr hx hb (hd (by simp) (by simp)) rfl (k ls hV))
    · cases h
  case h_30 =>
    unfold d2 dz at h
    split at h
    · split at h
      · cases h
      · next hne => exact WA_step (hgo _ _ _ _ h) (fun H locs ls cells slots Q hV hP k => lv_idiv hx hb (hd (by simp) (by simp)) hne (k ls hV))
    · cases h
  case h_31 =>
    unfold d2 dz at h
    split at h
    · split at h
      · cases h
      · next hne => exact WA_step (hgo _ _ _ _ h) (fun H locs ls cells slots Q hV hP k => lv_irem hx hb (hd (by simp) (by simp)) hne (k ls hV))
    · cases h
  case h_32 =>
    split at h
    · exact WA_step (hgo _ _ _ _ h) (fun H locs ls cells slots Q hV hP k => lv_ineg hx hb (hd (by simp) (by simp)) (k ls hV))
    · cases h
  case h_33 =>
    unfold l2 at h
    split at h
    · exact WA_step (hgo _ _ _ _ h) (fun H locs ls cells slots Q hV hP k => lv_ladd hx hb (hd (by simp) (by simp)) (k ls hV))
    · cases h
  case h_34 =>
    unfold l2 at h
    split at h
    · exact WA_step (hgo _ _ _ _ h) (fun H locs ls cells slots Q hV hP k => lv_lmul hx hb (hd (by simp) (by simp)) (k ls hV))
    · cases h
  case h_35 =>
    unfold l2 at h
    split at h
    · exact WA_step (hgo _ _ _ _ h) (fun H locs ls cells slots Q hV hP k => lv_land hx hb (hd (by simp) (by simp)) (k ls hV))
    · cases h
  case h_36 =>
    unfold l2 at h
    split at h
    · exact WA_step (hgo _ _ _ _ h) (fun H locs ls cells slots Q hV hP k => lv_lor hx hb (hd (by simp) (by simp)) (k ls hV))
    · cases h
  case h_37 =>
    unfold h2 at h
    split at h
    · exact WA_step (hgo _ _ _ _ h) (fun H locs ls cells slots Q hV hP k => lv_lshl hx hb (hd (by simp) (by simp)) rfl (k ls hV))
    · cases h
  case h_38 =>
    unfold h2 at h
    split at h
    · exact WA_step (hgo _ _ _ _ h) (fun H locs ls cells slots Q hV hP k => lv_lshr hx hb (hd (by simp) (by simp)) rfl (k ls hV))
    · cases h
  case h_39 =>
    unfold h2 at h
    split at h
    · exact WA_step (hgo _ _ _ _ h) (fun H locs ls cells slots Q hV hP k => lv_lushr hx hb (hd (by simp) (by simp)) rfl (k ls hV))
    · cases h
  case h_40 =>
    split at h
    · exact WA_step (hgo _ _ _ _ h) (fun H locs ls cells slots Q hV hP k => W.lcmp hx hb (hd (by simp) (by simp)) (k ls hV))
    · cases h
  case h_41 =>
    split at h
    · exact WA_step (hgo _ _ _ _ h) (fun H locs ls cells slots Q hV hP k => lv_i2l hx hb (hd (by simp) (by simp)) rfl (k ls hV))
    · cases h
  case h_42 =>
    split at h
    · exact WA_step (hgo _ _ _ _ h) (fun H locs ls cells slots Q hV hP k => lv_l2i hx hb (hd (by simp) (by simp)) rfl (k ls hV))
    · cases h
  case h_43 =>
    split at h
    · exact WA_step (hgo _ _ _ _ h) (fun H locs ls cells slots Q hV hP k => lv_i2c hx hb (hd (by simp) (by simp)) rfl (k ls hV))
    · cases h
  case h_44 =>
    split at h
    · split at h
      · next hc => exact WA_step (hgo _ _ _ _ h) (fun H locs ls cells slots Q hV hP k => lv_dup hx hb (hd (by simp) (by simp)) (by rw [cV_cat]; exact hc) (k ls hV))
      · cases h
    · cases h
  case h_45 =>
    split at h
    · split at h
      · next hc => exact WA_step (hgo _ _ _ _ h) (fun H locs ls cells slots Q hV hP k => lv_pop hx hb (hd (by simp) (by simp)) (by rw [cV_cat]; exact hc) (k ls hV))
      · cases h
    · cases h
  case h_46 =>
    split at h
    · split at h
      · next hc => exact WA_step (hgo _ _ _ _ h) (fun H locs ls cells slots Q hV hP k => lv_dup2_11 hx hb (hd (by simp) (by simp)) (by rw [cV_cat]; exact hc.1) (by rw [cV_cat]; exact hc.2) (k ls hV))
      · cases h
    · cases h
  case h_47 =>
    split at h
    · split at h
      · split at h
        · next hc => exact WA_step (hgo _ _ _ _ h) (fun H locs ls cells slots Q hV hP k => lv_if_eq hx hb (hd (by simp) (by simp)) htg (fun _ => k ls hV) (fun q => absurd hc q))
        · next hc => exact WA_step (hgo _ _ _ _ h) (fun H locs ls cells slots Q hV hP k => lv_if_eq hx hb (hd (by simp) (by simp)) htg (fun q => absurd q hc) (fun _ => k ls hV))
      · split at h
        · next hc => exact WA_step (hgo _ _ _ _ h) (fun H locs ls cells slots Q hV hP k => lv_if_ne hx hb (hd (by simp) (by simp)) htg (fun q => absurd hc q) (fun _ => k ls hV))
        · next hc => exact WA_step (hgo _ _ _ _ h) (fun H locs ls cells slots Q hV hP k => lv_if_ne hx hb (hd (by simp) (by simp)) htg (fun _ => k ls hV) (fun q => absurd q hc))
      · split at h
        · next hc => exact WA_step (hgo _ _ _ _ h) (fun H locs ls cells slots Q hV hP k => lv_if_lt hx hb (hd (by simp) (by simp)) htg (fun _ => k ls hV) (fun q => absurd hc q))
        · next hc => exact WA_step (hgo _ _ _ _ h) (fun H locs ls cells slots Q hV hP k => lv_if_lt hx hb (hd (by simp) (by simp)) htg (fun q => absurd q hc) (fun _ => k ls hV))
      · split at h
        · next hc => exact WA_step (hgo _ _ _ _ h) (fun H locs ls cells slots Q hV hP k => lv_if_ge hx hb (hd (by simp) (by simp)) htg (fun _ => k ls hV) (fun q => absurd hc q))
        · next hc => exact WA_step (hgo _ _ _ _ h) (fun H locs ls cells slots Q hV hP k => lv_if_ge hx hb (hd (by simp) (by simp)) htg (fun q => absurd q hc) (fun _ => k ls hV))
      · split at h
        · next hc => exact WA_step (hgo _ _ _ _ h) (fun H locs ls cells slots Q hV hP k => lv_if_gt hx hb (hd (by simp) (by simp)) htg (fun _ => k ls hV) (fun q => absurd hc q))
        · next hc => exact WA_step (hgo _ _ _ _ h) (fun H locs ls cells slots Q hV hP k => lv_if_gt hx hb (hd (by simp) (by simp)) htg (fun q => absurd q hc) (fun _ => k ls hV))
      · split at h
        · next hc => exact WA_step (hgo _ _ _ _ h) (fun H locs ls cells slots Q hV hP k => lv_if_le hx hb (hd (by simp) (by simp)) htg (fun _ => k ls hV) (fun q => absurd hc q))
        · next hc => exact WA_step (hgo _ _ _ _ h) (fun H locs ls cells slots Q hV hP k => lv_if_le hx hb (hd (by simp) (by simp)) htg (fun q => absurd q hc) (fun _ => k ls hV))
    · cases h
  case h_48 =>
    split at h
    · split at h
      · split at h
        · next hc => exact WA_step (hgo _ _ _ _ h) (fun H locs ls cells slots Q hV hP k => lv_icmp_eq hx hb (hd (by simp) (by simp)) htg (fun _ => k ls hV) (fun q => absurd hc q))
        · next hc => exact WA_step (hgo _ _ _ _ h) (fun H locs ls cells slots Q hV hP k => lv_icmp_eq hx hb (hd (by simp) (by simp)) htg (fun q => absurd q hc) (fun _ => k ls hV))
      · split at h
        · next hc => exact WA_step (hgo _ _ _ _ h) (fun H locs ls cells slots Q hV hP k => lv_icmp_ne hx hb (hd (by simp) (by simp)) htg (fun q => absurd hc q) (fun _ => k ls hV))
        · next hc => exact WA_step (hgo _ _ _ _ h) (fun H locs ls cells slots Q hV hP k => lv_icmp_ne hx hb (hd (by simp) (by simp)) htg (fun _ => k ls hV) (fun q => absurd q hc))
      · split at h
        · next hc => exact WA_step (hgo _ _ _ _ h) (fun H locs ls cells slots Q hV hP k => lv_icmp_lt hx hb (hd (by simp) (by simp)) htg (fun _ => k ls hV) (fun q => absurd hc q))
        · next hc => exact WA_step (hgo _ _ _ _ h) (fun H locs ls cells slots Q hV hP k => lv_icmp_lt hx hb (hd (by simp) (by simp)) htg (fun q => absurd q hc) (fun _ => k ls hV))
      · split at h
        · next hc => exact WA_step (hgo _ _ _ _ h) (fun H locs ls cells slots Q hV hP k => lv_icmp_ge hx hb (hd (by simp) (by simp)) htg (fun _ => k ls hV) (fun q => absurd hc q))
        · next hc => exact WA_step (hgo _ _ _ _ h) (fun H locs ls cells slots Q hV hP k => lv_icmp_ge hx hb (hd (by simp) (by simp)) htg (fun q => absurd q hc) (fun _ => k ls hV))
      · split at h
        · next hc => exact WA_step (hgo _ _ _ _ h) (fun H locs ls cells slots Q hV hP k => lv_icmp_gt hx hb (hd (by simp) (by simp)) htg (fun _ => k ls hV) (fun q => absurd hc q))
        · next hc => exact WA_step (hgo _ _ _ _ h) (fun H locs ls cells slots Q hV hP k => lv_icmp_gt hx hb (hd (by simp) (by simp)) htg (fun q => absurd q hc) (fun _ => k ls hV))
      · split at h
        · next hc => exact WA_step (hgo _ _ _ _ h) (fun H locs ls cells slots Q hV hP k => lv_icmp_le hx hb (hd (by simp) (by simp)) htg (fun _ => k ls hV) (fun q => absurd hc q))
        · next hc => exact WA_step (hgo _ _ _ _ h) (fun H locs ls cells slots Q hV hP k => lv_icmp_le hx hb (hd (by simp) (by simp)) htg (fun q => absurd q hc) (fun _ => k ls hV))
    · cases h
  case h_49 =>
    split at h
    · next y x st1 =>
      split at h
      · next hc => exact WA_step (hgo _ _ _ _ h) (fun H locs ls cells slots Q hV hP k => lv_acmp_eq (rx := some (B + x)) (ry := some (B + y)) hx hb (hd (by simp) (by simp)) htg (fun _ => k ls hV) (fun q => absurd (by rw [hc]) q))
      · next hc => exact WA_step (hgo _ _ _ _ h) (fun H locs ls cells slots Q hV hP k => lv_acmp_eq (rx := some (B + x)) (ry := some (B + y)) hx hb (hd (by simp) (by simp)) htg (fun q => absurd (Nat.add_left_cancel (Option.some.inj q)) hc) (fun _ => k ls hV))
    · next y st1 => exact WA_step (hgo _ _ _ _ h) (fun H locs ls cells slots Q hV hP k => lv_acmp_eq (rx := none) (ry := some (B + y)) hx hb (hd (by simp) (by simp)) htg (fun q => by cases q) (fun _ => k ls hV))
    · cases h
  case h_50 =>
    exact WA_step (hgo _ _ _ _ h) (fun H locs ls cells slots Q hV hP k => lv_goto hx hb (hd (by simp) (by simp)) htg (k ls hV))
  case h_51 =>
    split at h
    · obtain ⟨q, h1, h2⟩ := Option.bind_eq_some_iff.mp h
      exact hsw pc q vs _ _ M h1 (fun t ht => hgo _ _ _ _ (swk_to h2 ht))
    · cases h
  case h_52 =>
    split at h
    · obtain ⟨q, h1, h2⟩ := Option.bind_eq_some_iff.mp h
      exact hsw pc q vs _ _ M h1 (fun t ht => hgo _ _ _ _ (swk_to h2 ht))
    · cases h
  case h_53 =>
    split at h
    · obtain ⟨q, h1, h2⟩ := Option.bind_eq_some_iff.mp h
      exact WA_gfk F' (hC.2.2 _ _ h1) (hd (by simp) (by simp)) h2 (fun v h3 => hgo _ _ _ _ h3)
    · cases h
  case h_54 =>
    split at h
    · obtain ⟨q, h1, h2⟩ := Option.bind_eq_some_iff.mp h
      exact WA_pfk F' (hC.2.2 _ _ h1) (hd (by simp) (by simp)) h2 (fun v h3 => hgo _ _ _ _ h3)
    · cases h
  case h_55 =>
    split at h
    · obtain ⟨x, h1, h2⟩ := Option.bind_eq_some_iff.mp h
      obtain ⟨n, f, g1, g2, rfl⟩ := aI_of h1
      exact WA_step (hgo _ _ _ _ h2) (fun H locs ls cells slots Q hV hP k => va_iald hx hb hK hP _ 0 (cW_get g1) rfl g2 (hd (by simp) (by simp)) (k ls hV))
    · cases h
  case h_56 =>
    split at h
    · obtain ⟨x, h1, h2⟩ := Option.bind_eq_some_iff.mp h
      obtain ⟨n, f, g1, g2, rfl⟩ := aI_of h1
      exact WA_step (hgo _ _ _ _ h2) (fun H locs ls cells slots Q hV hP k => va_cald hx hb hK hP _ 2 (cW_get g1) rfl g2 (hd (by simp) (by simp)) (k ls hV))
    · cases h
  case h_57 =>
    split at h
    · obtain ⟨x, h1, h2⟩ := Option.bind_eq_some_iff.mp h
      obtain ⟨n, f, g1, g2, rfl⟩ := aI_of h1
      exact WA_step (hgo _ _ _ _ h2) (fun H locs ls cells slots Q hV hP k => va_zald hx hb hK hP _ 3 (cW_get g1) rfl g2 (hd (by simp) (by simp)) (k ls hV))
    · cases h
  case h_58 =>
    split at h
    · obtain ⟨x, h1, h2⟩ := Option.bind_eq_some_iff.mp h
      obtain ⟨n, f, g1, g2, rfl⟩ := aJ_of h1
      exact WA_step (hgo _ _ _ _ h2) (fun H locs ls cells slots Q hV hP k => va_lald hx hb hK hP _ 1 (cW_get g1) rfl g2 (hd (by simp) (by simp)) (k ls hV))
    · cases h
  case h_59 =>
    split at h
    · obtain ⟨x, h1, h2⟩ := Option.bind_eq_some_iff.mp h
      obtain ⟨t, n, f, g1, g2, g3, g4, g5⟩ := aR_of h1
      obtain ⟨r1, hc, ht⟩ := c_tys (aC := aC) g2 g3
      refine WA_step (hgo _ _ _ _ h2) (fun H locs ls cells slots Q hV hP k => va_aldq hx hb hK hP _ t (cW_get g1) ht g4 (hd (by simp) (by simp)) ?_)
      rw [g5]
      exact k ls hV
    · cases h
  case h_60 =>
    split at h
    · obtain ⟨M1, h1, h2⟩ := Option.bind_eq_some_iff.mp h
      obtain ⟨n, f, g1, g2, rfl⟩ := sI_of h1
      exact WA_put g1 (by rfl) (hgo _ _ _ _ h2) (fun H locs ls cells slots Q hV hP hS k => c_iast hx hb hK hP hS g1 g2 (hd (by simp) (by simp)) k)
    · cases h
  case h_61 =>
    split at h
    · split at h
      · next hmd =>
        obtain ⟨M1, h1, h2⟩ := Option.bind_eq_some_iff.mp h
        obtain ⟨n, f, g1, g2, rfl⟩ := sI_of h1
        exact WA_put0 hmd g1 (by rfl) (hgo _ _ _ _ h2) (fun H locs ls cells slots Q hV hP hS k => va_cast hx hb hK hP cW_D hS _ 2 (cW_get g1) rfl g2 (hd (by simp) (by simp)) (fun H1 locs1 a1 _ a3 => k H1 locs1 (by rw [← cW_set]; exact a1) a3))
      · cases h
    · cases h
  case h_62 =>
    split at h
    · split at h
      · next hmd =>
        obtain ⟨M1, h1, h2⟩ := Option.bind_eq_some_iff.mp h
        obtain ⟨n, f, g1, g2, rfl⟩ := sI_of h1
        exact WA_put0 hmd g1 (by rfl) (hgo _ _ _ _ h2) (fun H locs ls cells slots Q hV hP hS k => va_zast hx hb hK hP cW_D hS _ 3 (cW_get g1) rfl g2 (hd (by simp) (by simp)) (fun H1 locs1 a1 _ a3 => k H1 locs1 (by rw [← cW_set]; exact a1) a3))
      · cases h
    · cases h
  case h_63 =>
    split at h
    · split at h
      · next hmd =>
        obtain ⟨M1, h1, h2⟩ := Option.bind_eq_some_iff.mp h
        obtain ⟨n, f, g1, g2, rfl⟩ := sJ_of h1
        exact WA_put0 hmd g1 (by rfl) (hgo _ _ _ _ h2) (fun H locs ls cells slots Q hV hP hS k => va_last hx hb hK hP cW_D hS _ 1 (cW_get g1) rfl g2 (hd (by simp) (by simp)) (fun H1 locs1 a1 _ a3 => k H1 locs1 (by rw [← cW_set]; exact a1) a3))
      · cases h
    · cases h
  case h_64 =>
    split at h
    · obtain ⟨M1, h1, h2⟩ := Option.bind_eq_some_iff.mp h
      obtain ⟨t, n, f, fs, g1, g2, g3, g4, g5, rfl⟩ := sR_of h1
      exact WA_put g1 (by rfl) (hgo _ _ _ _ h2) (fun H locs ls cells slots Q hV hP hS k => c_aast hx hb hK hP hS g1 g2 g3 g4 g5 (hd (by simp) (by simp)) k)
    · cases h
  case h_65 =>
    split at h
    · obtain ⟨x, h1, h2⟩ := Option.bind_eq_some_iff.mp h
      obtain ⟨t, y, g1, g2, rfl⟩ := aN_of h1
      obtain ⟨ty, ht⟩ := c_tyA (aC := aC) g2
      exact WA_step (hgo _ _ _ _ h2) (fun H locs ls cells slots Q hV hP k => va_alen hx hb hK hP _ t (cW_get g1) ht (by rw [cAr_len]) (hd (by simp) (by simp)) (k ls hV))
    · cases h
  case h_66 =>
    split at h
    · next E hE =>
      split at h
      · exact hth _ _ _ _ _ (hd (by simp) (by simp)) hE h
      · cases h
    · next hE =>
      split at h
      · next hmd => exact hal hmd _ _ _ _ _ (Or.inl ⟨_, rfl⟩) (hd (by simp) (by simp)) (fun _ => hE) (by unfold stp; rw [hE]; simp only [hmd, if_true]; exact h)
      · cases h
  case h_67 =>
    have h9 := h
    split at h
    · split at h
      · next hc => exact hal hc.1 _ _ _ _ _ (Or.inr (Or.inl ⟨_, rfl⟩)) (hd (by simp) (by simp)) (fun ⟨_, hk⟩ => by cases hk) (by unfold stp; exact h9)
      · cases h
    · cases h
  case h_68 =>
    have h9 := h
    split at h
    · split at h
      · next hc => exact hal hc.1 _ _ _ _ _ (Or.inr (Or.inr ⟨_, rfl⟩)) (hd (by simp) (by simp)) (fun ⟨_, hk⟩ => by cases hk) (by unfold stp; exact h9)
      · cases h
    · cases h
  case h_69 =>
    split at h
    · next hc =>
      have h1 := hca pc _ _ vs _ _ M _ (⟨_, Or.inl ⟨rfl, rfl⟩⟩) (hd (by simp) (by simp)) hc.2 (by rw [List.length_reverse, List.length_take]; omega) h (fun v M1 h2 => hgo _ _ _ _ h2)
      rw [List.reverse_reverse, List.take_append_drop] at h1
      exact h1
    · cases h
  case h_70 =>
    split at h
    · next hc =>
      have h1 := hca pc _ _ vs _ _ M _ (⟨_, Or.inr (Or.inl ⟨rfl, rfl⟩)⟩) (hd (by simp) (by simp)) hc.2 (by rw [List.length_reverse, List.length_take]; omega) h (fun v M1 h2 => hgo _ _ _ _ h2)
      rw [List.reverse_reverse, List.take_append_drop] at h1
      exact h1
    · cases h
  case h_71 =>
    split at h
    · next hc =>
      have h1 := hca pc _ _ vs _ _ M _ (⟨_, Or.inr (Or.inr ⟨rfl, rfl⟩)⟩) (hd (by simp) (by simp)) hc.2 (by rw [List.length_reverse, List.length_take]; omega) h (fun v M1 h2 => hgo _ _ _ _ h2)
      rw [List.reverse_reverse, List.take_append_drop] at h1
      exact h1
    · cases h
  case h_72 =>
    split at h
    · unfold rtk at h
      split at h
      · exact WA_ret (hkr _ _ h) F' (fun H locs ls Qc hq hl => W.iret hx hb hrt hq hl (hd (by simp) (by simp)) hlocks)
      · split at h
        · next hc => exact WA_ret (hkr _ _ h) F' (fun H locs ls Qc hq hl => W.zret hx hb hrt (bool_store B hc).1 hq hl (hd (by simp) (by simp)) hlocks)
        · cases h
      · split at h
        · next hc => exact WA_ret (hkr _ _ h) F' (fun H locs ls Qc hq hl => W.zret hx hb hrt (char_ret hc) hq hl (hd (by simp) (by simp)) hlocks)
        · cases h
      · cases h
    · cases h
  case h_73 =>
    split at h
    · split at h
      · next hc =>
        subst hc
        exact WA_ret (hkr _ _ h) F' (fun H locs ls Qc hq hl => W.lret hx hb hrt hq hl (hd (by simp) (by simp)) hlocks)
      · cases h
    · cases h
  case h_74 =>
    split at h
    · split at h
      · next hc =>
        subst hc
        obtain ⟨nm, hrt⟩ := hrt
        exact WA_ret (hkr _ _ h) F' (fun H locs ls Qc hq hl => W.aret hx hb hrt (Or.inl ⟨nm, rfl⟩) (Or.inr ⟨_, rfl⟩) hq hl (hd (by simp) (by simp)) hlocks)
      · cases h
    · cases h
  case h_75 =>
    split at h
    · split at h
      · next hc =>
        subst hc
        exact WA_ret (hkr _ _ h) F' (fun H locs ls Qc hq hl => W.vret hx hb hrt hq hl (hd (by simp) (by simp)) hlocks)
      · cases h
    · cases h
  case h_76 => cases h
