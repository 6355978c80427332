/-! THE WHOLE LOOP: THE START HOLDS THE INVARIANT, EVERY ROUND KEEPS IT -/
theorem t0_ok {v : ZText} (h : v = (fun _ => 0, fun _ => 0, 0)) : txt v [] := by
  subst h
  exact txt_nil rfl (fun _ _ => rfl)
theorem neg4_ok : ∀ k, k < 4 → neg4 k = I (-1) := by decide
theorem neg12_ok : ∀ k, k < 12 → neg12 k = I (-1) := by decide
theorem INV0 : INVn 0 (mk z0) := by
  refine ⟨0, Nat.zero_le _, [], 0, fun _ => [], fun _ => [], fun _ => [], fun _ => [], fun _ _ => none, fun _ => none, fun _ => false, 0, fun _ => none, fun _ => false, 0, _, _, _, _, _, _, _, _, _, _, _, _, rfl, ?_, ?_, ?_⟩
  · exact ⟨by omega, by omega, by omega, fun _ _ => rfl, fun l hl => absurd hl (Nat.not_lt_zero _), fun r hr => absurd hr (Nat.not_lt_zero _), fun T _ h => (by cases h), fun T _ => ⟨Nat.zero_le _, fun x hx => (by cases hx)⟩⟩
  · refine ⟨t0_ok rfl, ⟨⟨[], t0_ok rfl⟩, ⟨[], t0_ok rfl⟩, ⟨[], t0_ok rfl⟩⟩, ⟨rfl, rfl, rfl⟩, ?_, ?_, fun r hr => absurd hr (Nat.not_lt_zero _), ?_⟩
    · exact fun l hl => ⟨fun h => absurd h (Nat.not_lt_zero _), rfl, Nat.zero_le _, fun i hi => absurd hi (Nat.not_lt_zero _)⟩
    · exact fun T hT => ⟨⟨rfl, Nat.zero_le _, fun i hi => absurd hi (Nat.not_lt_zero _)⟩, ⟨rfl, Nat.zero_le _, fun i hi => absurd hi (Nat.not_lt_zero _)⟩, neg4_ok, fun k a h => (by cases h), rfl, rfl, Or.inl rfl⟩
    · exact ⟨0, rfl, fun T hT hl => ⟨Nat.zero_le _, fun i hi => absurd hi (Nat.not_lt_zero _)⟩, fun i hi => ⟨[], t0_ok rfl⟩, fun z hz => ⟨0, rfl, by omega⟩, rfl⟩
  · refine ⟨⟨rfl, Nat.zero_le _, fun c hc => (by cases hc), fun i hi => absurd hi (Nat.not_lt_zero _)⟩, ⟨rfl, rfl, rfl⟩, ?_, ?_, fun r hr => absurd hr (Nat.not_lt_zero _)⟩
    · exact fun l hl => ⟨fun h => absurd h (Nat.not_lt_zero _), rfl, Nat.zero_le _, fun i hi => absurd hi (Nat.not_lt_zero _)⟩
    · exact fun T hT => ⟨⟨Nat.zero_le _, rfl, fun i hi => absurd hi (Nat.not_lt_zero _)⟩, fun i hi => absurd hi (Nat.not_lt_zero _), ⟨rfl, Nat.zero_le _, fun i hi => absurd hi (Nat.not_lt_zero _)⟩, fun q hq => neg12_ok (4 * T + q) (by omega), fun k a h => (by cases h), rfl, trivial, rfl⟩
theorem INVn_le {n m : Nat} {M : cM} (h : n ≤ m) (hI : INVn n M) : INVn m M := by
  obtain ⟨S, hS, r⟩ := hI
  exact ⟨S, by omega, r⟩
theorem op_cases (c : Int32) (c0 : 0 ≤ c) (c1 : c < 20) : c = 0 ∨ c = 1 ∨ c = 2 ∨ c = 3 ∨ c = 4 ∨ c = 5 ∨ c = 6 ∨ c = 7 ∨ c = 8 ∨ c = 9 ∨ c = 10 ∨ c = 11 ∨ c = 12 ∨ c = 13 ∨ c = 14 ∨ c = 15 ∨ c = 16 ∨ c = 17 ∨ c = 18 ∨ c = 19 := by
  have h0 := Int32.le_iff_toInt_le.mp c0
  have h1 := Int32.lt_iff_toInt_lt.mp c1
  rw [show (0 : Int32).toInt = 0 from rfl] at h0
  rw [show (20 : Int32).toInt = 20 from rfl] at h1
  have e : c = Int32.ofInt c.toInt := (Int32.ofInt_toInt c).symm
  obtain ⟨z, hz⟩ : ∃ z : Int, z = c.toInt := ⟨_, rfl⟩
  rw [← hz] at h0 h1 e
  clear hz
  have h : z = 0 ∨ z = 1 ∨ z = 2 ∨ z = 3 ∨ z = 4 ∨ z = 5 ∨ z = 6 ∨ z = 7 ∨ z = 8 ∨ z = 9 ∨ z = 10 ∨ z = 11 ∨ z = 12 ∨ z = 13 ∨ z = 14 ∨ z = 15 ∨ z = 16 ∨ z = 17 ∨ z = 18 ∨ z = 19 := by omega
  rcases h with rfl | rfl | rfl | rfl | rfl | rfl | rfl | rfl | rfl | rfl | rfl | rfl | rfl | rfl | rfl | rfl | rfl | rfl | rfl | rfl <;> (rw [e]; decide)
theorem loop_ends {F b L : Nat} {xs : Nat → Int32} (hF : 200000 ≤ F) (hL : L ≤ 3584) : ∀ (k n : Nat) (q : Int) (M : cM), 0 ≤ q → q + 7 * k ≤ L → (L : Int) < q + 7 * k + 7 → n + k ≤ 600 → INVn n M → Ends F b L xs k q M
  | 0, n, q, M, h0, h1, h2, hn, hI => ends_exit h0 (by omega) hL (by omega)
  | k + 1, n, q, M, h0, h1, h2, hn, hI => by
    have ih : ∀ M', INVn (n + 1) M' → Ends F b L xs k (q + 7) M' := fun M' h' => loop_ends hF hL k (n + 1) (q + 7) M' (by omega) (by omega) (by omega) (by omega) h'
    have hn : n ≤ 600 := by omega
    have g1 : q + 7 ≤ L := by omega
    by_cases o0 : xs q.toNat &&& 31 = 0
    · obtain ⟨c, v, M1, M2, e1, e2, e3, e4, e5⟩ := pcx_type hF hn hI (xs (q + 1).toNat)
      exact ends_type h0 g1 hL o0 e1 e2 e3 e4 (ih M2 e5)
    by_cases o1 : xs q.toNat &&& 31 = 1
    · obtain ⟨c, v, M1, M2, e1, e2, e3, e4, e5⟩ := pcx_line hF hn hI 
      exact ends_line h0 g1 hL o1 e1 e2 e3 e4 (ih M2 e5)
    by_cases o2 : xs q.toNat &&& 31 = 2
    · obtain ⟨c, v, M1, M2, e1, e2, e3, e4, e5⟩ := pcx_length hF hn hI (xs (q + 1).toNat)
      exact ends_length h0 g1 hL o2 e1 e2 e3 e4 (ih M2 e5)
    by_cases o3 : xs q.toNat &&& 31 = 3
    · obtain ⟨c, v, M1, M2, e1, e2, e3, e4, e5⟩ := pcx_signAt hF hn hI (xs (q + 1).toNat) (xs (q + 2).toNat)
      exact ends_signAt h0 g1 hL o3 e1 e2 e3 e4 (ih M2 e5)
    by_cases o4 : xs q.toNat &&& 31 = 4
    · obtain ⟨c, v, M1, M2, e1, e2, e3, e4, e5⟩ := pcx_placeOf hF hn hI (xs (q + 1).toNat) (xs (q + 2).toNat)
      exact ends_placeOf h0 g1 hL o4 e1 e2 e3 e4 (ih M2 e5)
    by_cases o5 : xs q.toNat &&& 31 = 5
    · obtain ⟨c, v, M1, M2, e1, e2, e3, e4, e5⟩ := pcx_show hF hn hI (xs (q + 1).toNat) (xs (q + 2).toNat)
      exact ends_show h0 g1 hL o5 e1 e2 e3 e4 (ih M2 e5)
    by_cases o6 : xs q.toNat &&& 31 = 6
    · obtain ⟨c, v, M1, M2, e1, e2, e3, e4, e5⟩ := pcx_refuse hF hn hI (xs (q + 1).toNat) (xs (q + 2).toNat)
      exact ends_refuse h0 g1 hL o6 e1 e2 e3 e4 (ih M2 e5)
    by_cases o7 : xs q.toNat &&& 31 = 7
    · obtain ⟨c, v, M1, M2, e1, e2, e3, e4, e5⟩ := pcx_pin hF hn hI (xs (q + 1).toNat) (xs (q + 2).toNat) (xs (q + 3).toNat) (xs (q + 4).toNat) (xs (q + 5).toNat) (xs (q + 6).toNat)
      exact ends_pin h0 g1 hL o7 e1 e2 e3 e4 (ih M2 e5)
    by_cases o8 : xs q.toNat &&& 31 = 8
    · obtain ⟨c, v, M1, M2, e1, e2, e3, e4, e5⟩ := pcx_learn hF hn hI (xs (q + 1).toNat)
      exact ends_learn h0 g1 hL o8 e1 e2 e3 e4 (ih M2 e5)
    by_cases o9 : xs q.toNat &&& 31 = 9
    · obtain ⟨c, v, M1, M2, e1, e2, e3, e4, e5⟩ := pcx_count hF hn hI (xs (q + 1).toNat)
      exact ends_count h0 g1 hL o9 e1 e2 e3 e4 (ih M2 e5)
    by_cases o10 : xs q.toNat &&& 31 = 10
    · obtain ⟨c, v, M1, M2, e1, e2, e3, e4, e5⟩ := pcx_weight hF hn hI (xs (q + 1).toNat) (xs (q + 2).toNat)
      exact ends_weight h0 g1 hL o10 e1 e2 e3 e4 (ih M2 e5)
    by_cases o11 : xs q.toNat &&& 31 = 11
    · obtain ⟨c, v, M1, M2, e1, e2, e3, e4, e5⟩ := pcx_question hF hn hI (xs (q + 1).toNat)
      exact ends_question h0 g1 hL o11 e1 e2 e3 e4 (ih M2 e5)
    by_cases o12 : xs q.toNat &&& 31 = 12
    · obtain ⟨c, v, M1, M2, e1, e2, e3, e4, e5⟩ := pcx_condition hF hn hI (xs (q + 1).toNat)
      exact ends_condition h0 g1 hL o12 e1 e2 e3 e4 (ih M2 e5)
    have he2 : (if xs (q + 2).toNat = 0 then 0 else 1) = (0 : Int32) ∨ (if xs (q + 2).toNat = 0 then 0 else 1) = (1 : Int32) := by
      split
      · exact Or.inl rfl
      · exact Or.inr rfl
    by_cases o13 : xs q.toNat &&& 31 = 13
    · obtain ⟨c, v, M1, M2, e1, e2, e3, e4, e5⟩ := pcx_atomAt hF hn hI (xs (q + 1).toNat) (if xs (q + 2).toNat = 0 then 0 else 1) (xs (q + 3).toNat) (xs (q + 4).toNat) he2
      exact ends_atomAt h0 g1 hL o13 e1 e2 e3 e4 (ih M2 e5)
    by_cases o14 : xs q.toNat &&& 31 = 14
    · obtain ⟨c, v, M1, M2, e1, e2, e3, e4, e5⟩ := pcx_preview hF hn hI (xs (q + 1).toNat) (xs (q + 2).toNat) (xs (q + 3).toNat)
      exact ends_preview h0 g1 hL o14 e1 e2 e3 e4 (ih M2 e5)
    by_cases o15 : xs q.toNat &&& 31 = 15
    · obtain ⟨c, v, M1, M2, e1, e2, e3, e4, e5⟩ := pcx_run hF hn hI (xs (q + 1).toNat) (xs (q + 2).toNat) (xs (q + 3).toNat) (xs (q + 4).toNat)
      exact ends_run h0 g1 hL o15 e1 e2 e3 e4 (ih M2 e5)
    by_cases o16 : xs q.toNat &&& 31 = 16
    · obtain ⟨v, M1, M2, e1, e2, e5⟩ := pcx_runs (F := F) hI
      exact ends_runs h0 g1 hL o16 e1 e2 (ih M2 e5)
    by_cases o17 : xs q.toNat &&& 31 = 17
    · obtain ⟨c, v, M1, M2, e1, e2, e3, e4, e5⟩ := pcx_undo hF hn hI (xs (q + 1).toNat)
      exact ends_undo h0 g1 hL o17 e1 e2 e3 e4 (ih M2 e5)
    have he2 : (if xs (q + 2).toNat = 0 then 0 else 1) = (0 : Int32) ∨ (if xs (q + 2).toNat = 0 then 0 else 1) = (1 : Int32) := by
      split
      · exact Or.inl rfl
      · exact Or.inr rfl
    by_cases o18 : xs q.toNat &&& 31 = 18
    · obtain ⟨c, v, M1, M2, e1, e2, e3, e4, e5⟩ := pcx_stand hF hn hI (xs (q + 1).toNat) (if xs (q + 2).toNat = 0 then 0 else 1) he2
      exact ends_stand h0 g1 hL o18 e1 e2 e3 e4 (ih M2 e5)
    by_cases o19 : xs q.toNat &&& 31 = 19
    · obtain ⟨v, M1, M2, e1, e2, e5⟩ := pcx_asked (F := F) hI
      exact ends_asked h0 g1 hL o19 e1 e2 (ih M2 e5)
    refine ends_skip h0 g1 hL (fun c c0 c1 => ?_) (ih M (INVn_le (Nat.le_succ n) hI))
    rcases op_cases c c0 c1 with rfl | rfl | rfl | rfl | rfl | rfl | rfl | rfl | rfl | rfl | rfl | rfl | rfl | rfl | rfl | rfl | rfl | rfl | rfl | rfl
    · exact o0
    · exact o1
    · exact o2
    · exact o3
    · exact o4
    · exact o5
    · exact o6
    · exact o7
    · exact o8
    · exact o9
    · exact o10
    · exact o11
    · exact o12
    · exact o13
    · exact o14
    · exact o15
    · exact o16
    · exact o17
    · exact o18
    · exact o19
set_option maxRecDepth 100000 in
theorem sg_23 {F b : Nat} {K : xK} {i : Int32} {v5 v6 : Option Value} {M : cM} : run T_L_law PI_RL false 1 (naL na_L_law) (caL (ca_L_law F)) (lkN []) (lkN sw_L_law) krX kxN (spL cut_L_law) K 60 23 [some (.retAddr b), some (.ref 0), some (.ref 570), some (.ref 632), some (.int i), v5, v6] [] M = K 25 [some (.retAddr b), some (.ref 0), some (.ref 570), some (.ref 632), some (.int i), v5, v6] [.int i] M := rfl
theorem xr_23 {F b L : Nat} {xs : Nat → Int32} {N n : Nat} {vs : List (Option Value)} {st : List Value} {M : cM} : runX PI_RL T_L_law na_L_law (ca_L_law F) sw_L_law (sp_L_law F b L xs) cut_L_law N (n + 1) 23 vs st M = run T_L_law PI_RL false 1 (naL na_L_law) (caL (ca_L_law F)) (lkN []) (lkN sw_L_law) krX kxN (spL cut_L_law) (runX PI_RL T_L_law na_L_law (ca_L_law F) sw_L_law (sp_L_law F b L xs) cut_L_law N n) N 23 vs st M := X_run rfl
theorem go_23 {F b L : Nat} {xs : Nat → Int32} {k : Nat} {M : cM} (h : Ends F b L xs k 0 M) : ∃ n, n ≤ 30 * k + 11 ∧ ∃ r, runX PI_RL T_L_law na_L_law (ca_L_law F) sw_L_law (sp_L_law F b L xs) cut_L_law 60 n 23 [some (.retAddr b), some (.ref 0), some (.ref 570), some (.ref 632), some (.int 0), none, none] [] M = some r := by
  obtain ⟨n, hn, r, hr⟩ := h none none
  refine ⟨n + 1, by omega, r, ?_⟩
  rw [xr_23, sg_23]
  exact hr
theorem flags_st {l : Launch} (h : l.flags = flags0) : l.stackTraces = false := by
  unfold Launch.stackTraces
  rw [h]
  decide +kernel

theorem z0_loop {b L : Nat} {xs : Nat → Int32} (hL : L ≤ 3584) : ∃ k, k ≤ 512 ∧ Ends 300000 b L xs k 0 (mk z0) := ⟨L / 7, by omega, loop_ends (by decide) hL (L / 7) 0 0 (mk z0) (by omega) (by omega) (by omega) (by omega) INV0⟩
theorem whole_start {p : Program} {e : Env} {s : State} {m : MethodId} {below : List Frame} {meth : Method} {c : Code} (l : Launch) (hflags : l.flags = flags0) {b L : Nat} {xs : Nat → Int32} (hL : L ≤ 3584) (C0 : lw_At p s m meth c b L xs) : W p l e room_1 s m #[Value.ref b] below meth c s.heap [] 0 0 (lw_Z below #[Value.ref b] s) (entryFrame m ([Value.ref b] : List Value).toArray 7) := by
  obtain ⟨k, hk, hE⟩ := z0_loop (b := b) (xs := xs) hL
  obtain ⟨n, hn, r, hr⟩ := go_23 hE
  obtain ⟨l1, l2⟩ := z0_len
  obtain ⟨q1, q2, q3, q4⟩ := z0_msz
  refine start_ok (flags_st hflags) C0 300000 60 n (M1 := (mk z0).take 570) (M3 := (mk z0).take 632) (r := r) z0_11 ⟨?_, q3⟩ z0_12 ⟨?_, q4⟩ (by rw [l2]; omega) (by omega) ?_
  · rw [l1]
    exact Nat.le_of_ble_eq_true rfl
  · rw [List.length_append, l1, l2]
    exact Nat.le_of_ble_eq_true rfl
  · rw [l1, l2, z0_all]
    exact hr
