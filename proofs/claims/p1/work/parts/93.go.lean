/-! THE LAW ON A SCRIPT OF ONE CALL -/
set_option maxRecDepth 100000 in
theorem sg_23 {F b : Nat} {K : xK} {i : Int32} {v5 v6 : Option Value} {M : cM} : run T_L_law PI_RL false 1 (naL na_L_law) (caL (ca_L_law F)) (lkN []) (lkN sw_L_law) krX kxN (spL cut_L_law) K 60 23 [some (.retAddr b), some (.ref 0), some (.ref 570), some (.ref 632), some (.int i), v5, v6] [] M = K 25 [some (.retAddr b), some (.ref 0), some (.ref 570), some (.ref 632), some (.int i), v5, v6] [.int i] M := rfl
theorem xr_23 {F b L : Nat} {xs : Nat → Int32} {N n : Nat} {vs : List (Option Value)} {st : List Value} {M : cM} : runX PI_RL T_L_law na_L_law (ca_L_law F) sw_L_law (sp_L_law F b L xs) cut_L_law N (n + 1) 23 vs st M = run T_L_law PI_RL false 1 (naL na_L_law) (caL (ca_L_law F)) (lkN []) (lkN sw_L_law) krX kxN (spL cut_L_law) (runX PI_RL T_L_law na_L_law (ca_L_law F) sw_L_law (sp_L_law F b L xs) cut_L_law N n) N 23 vs st M := X_run rfl
theorem go_23 {F b L : Nat} {xs : Nat → Int32} {k : Nat} {M : cM} (h : Ends F b L xs k 0 M) : ∃ n, n ≤ 30 * k + 11 ∧ ∃ r, runX PI_RL T_L_law na_L_law (ca_L_law F) sw_L_law (sp_L_law F b L xs) cut_L_law 60 n 23 [some (.retAddr b), some (.ref 0), some (.ref 570), some (.ref 632), some (.int 0), none, none] [] M = some r := by
  obtain ⟨n, hn, r, hr⟩ := h none none
  refine ⟨n + 1, by omega, r, ?_⟩
  rw [xr_23, sg_23]
  exact hr
theorem flags_st {l : Launch} (h : l.flags = flags0) : l.stackTraces = false := by
  unfold Launch.stackTraces
  rw [h]
  decide +kernel
