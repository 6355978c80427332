/-! ONE ROUND OF THE LAW'S LOOP (laid by wip/whole/tools/gen_rounds.py) -/
theorem X_sp {C : cP} {T : List cRow} {na : List (Nat × Nat)} {ca : List (Nat × cFn cM)} {sw : List (Nat × (List (Int32 × Nat) × Nat))} {sps : List (Nat × xSp)} {cuts : List Nat} {N n pc : Nat} {f : xSp} {vs : List (Option Value)} {st : List Value} {M : cM} (h : lkN sps pc = some f) : runX C T na ca sw sps cuts N (n + 1) pc vs st M = f vs st M (runX C T na ca sw sps cuts N n) := by
  show (Option.rec (motive := fun _ => Option cM) (run T C false 1 (naL na) (caL ca) (lkN []) (lkN sw) krX kxN (spL cuts) (runX C T na ca sw sps cuts N n) N pc vs st M) (fun f => f vs st M (runX C T na ca sw sps cuts N n)) (lkN sps pc) : Option cM) = _
  rw [h]
theorem X_run {C : cP} {T : List cRow} {na : List (Nat × Nat)} {ca : List (Nat × cFn cM)} {sw : List (Nat × (List (Int32 × Nat) × Nat))} {sps : List (Nat × xSp)} {cuts : List Nat} {N n pc : Nat} {vs : List (Option Value)} {st : List Value} {M : cM} (h : lkN sps pc = none) : runX C T na ca sw sps cuts N (n + 1) pc vs st M = run T C false 1 (naL na) (caL ca) (lkN []) (lkN sw) krX kxN (spL cuts) (runX C T na ca sw sps cuts N n) N pc vs st M := by
  show (Option.rec (motive := fun _ => Option cM) (run T C false 1 (naL na) (caL ca) (lkN []) (lkN sw) krX kxN (spL cuts) (runX C T na ca sw sps cuts N n) N pc vs st M) (fun f => f vs st M (runX C T na ca sw sps cuts N n)) (lkN sps pc) : Option cM) = _
  rw [h]
def lsX (b : Nat) (q : Int) (v5 v6 : Option Value) : List (Option Value) := [some (.retAddr b), some (.ref 0), some (.ref 570), some (.ref 632), some (.int (I q)), v5, v6]
/-- from the loop's head with the script's place q the law comes to its end, true -/
def Ends (F b L : Nat) (xs : Nat → Int32) (k : Nat) (q : Int) (M : cM) : Prop := ∀ v5 v6, ∃ n, n ≤ 30 * k + 10 ∧ ∃ r, runX PI_RL T_L_law na_L_law (ca_L_law F) sw_L_law (sp_L_law F b L xs) cut_L_law 60 n 25 (lsX b q v5 v6) [.int (I q)] M = some r
theorem rd_ok {q : Int} {L : Nat} {j : Int} (h0 : 0 ≤ q) (h1 : q + 7 ≤ L) (hL : L ≤ 3584) (j0 : 0 ≤ j) (j1 : j < 7) : ¬ (I q + I j < 0 ∨ L ≤ (I q + I j).toNatClampNeg) ∧ (I q + I j).toNatClampNeg = (q + j).toNat := by
  rw [I_add, I_nat (by omega) (by omega)]
  refine ⟨?_, rfl⟩
  have := I_nn (i := q + j) (by omega) (by omega)
  intro h
  rcases h with h | h
  · exact this h
  · omega
theorem xl_ok {b L : Nat} {q : Int} {v5 v6 : Option Value} {st : List Value} {M : cM} {nx : Nat} {K : xK} : xLen b L nx (lsX b q v5 v6) st M K = K nx (lsX b q v5 v6) (.int (Int32.ofNat L) :: st) M := by
  show (if b = b then _ else none) = _
  rw [if_pos rfl]
theorem x0_ok {b L : Nat} {xs : Nat → Int32} {q : Int} {v5 v6 : Option Value} {st : List Value} {M : cM} {nx : Nat} {K : xK} (h0 : 0 ≤ q) (h1 : q + 7 ≤ L) (hL : L ≤ 3584) : xRead0 b L xs nx (lsX b q v5 v6) st M K = K nx (lsX b q v5 v6) (.int (xs q.toNat) :: st) M := by
  have h := rd_ok (j := 0) h0 h1 hL (by omega) (by omega)
  rw [I_add, Int.add_zero] at h
  show (if b = b ∧ ¬ (I q < 0 ∨ L ≤ (I q).toNatClampNeg) then K nx _ (.int (xs (I q).toNatClampNeg) :: st) M else none) = _
  rw [if_pos ⟨rfl, h.1⟩, h.2]
theorem xk_ok {b L : Nat} {xs : Nat → Int32} {q : Int} {v5 v6 : Option Value} {st : List Value} {M : cM} {nx : Nat} {K : xK} {j : Int} {v : Int32} (hv : v = I j) (h0 : 0 ≤ q) (h1 : q + 7 ≤ L) (hL : L ≤ 3584) (j0 : 0 ≤ j) (j1 : j < 7) : xReadK b L xs v nx (lsX b q v5 v6) st M K = K nx (lsX b q v5 v6) (.int (xs (q + j).toNat) :: st) M := by
  subst hv
  have h := rd_ok (j := j) h0 h1 hL j0 j1
  show (if b = b ∧ ¬ (I q + I j < 0 ∨ L ≤ (I q + I j).toNatClampNeg) then K nx _ (.int (xs (I q + I j).toNatClampNeg) :: st) M else none) = _
  rw [if_pos ⟨rfl, h.1⟩, h.2]
theorem ls_eq {q : Int} {v5 v6 : Option Value} {b : Nat} : [some (.retAddr b), some (.ref 0), some (.ref 570), some (.ref 632), some (.int (I q)), v5, v6] = lsX b q v5 v6 := rfl
theorem wr_q {q : Int} {v5 v6 : Option Value} {b : Nat} : [some (.retAddr b), some (.ref 0), some (.ref 570), some (.ref 632), some (.int (I q + 7)), v5, v6] = lsX b (q + 7) v5 v6 := by
  show _ = [some (.retAddr b), some (.ref 0), some (.ref 570), some (.ref 632), some (.int (I (q + 7))), v5, v6]
  rw [← I_add]
  rfl
theorem wr_i {q : Int} : I q + 7 = I (q + 7) := by
  rw [← I_add]
  rfl
theorem xs_25 {F b L : Nat} {xs : Nat → Int32} {N n : Nat} {vs : List (Option Value)} {st : List Value} {M : cM} : runX PI_RL T_L_law na_L_law (ca_L_law F) sw_L_law (sp_L_law F b L xs) cut_L_law N (n + 1) 25 vs st M = xLen b L 27 vs st M (runX PI_RL T_L_law na_L_law (ca_L_law F) sw_L_law (sp_L_law F b L xs) cut_L_law N n) := X_sp rfl
theorem xs_33 {F b L : Nat} {xs : Nat → Int32} {N n : Nat} {vs : List (Option Value)} {st : List Value} {M : cM} : runX PI_RL T_L_law na_L_law (ca_L_law F) sw_L_law (sp_L_law F b L xs) cut_L_law N (n + 1) 33 vs st M = xRead0 b L xs 37 vs st M (runX PI_RL T_L_law na_L_law (ca_L_law F) sw_L_law (sp_L_law F b L xs) cut_L_law N n) := X_sp rfl
theorem xr_27 {F b L : Nat} {xs : Nat → Int32} {N n : Nat} {vs : List (Option Value)} {st : List Value} {M : cM} : runX PI_RL T_L_law na_L_law (ca_L_law F) sw_L_law (sp_L_law F b L xs) cut_L_law N (n + 1) 27 vs st M = run T_L_law PI_RL false 1 (naL na_L_law) (caL (ca_L_law F)) (lkN []) (lkN sw_L_law) krX kxN (spL cut_L_law) (runX PI_RL T_L_law na_L_law (ca_L_law F) sw_L_law (sp_L_law F b L xs) cut_L_law N n) N 27 vs st M := X_run rfl
theorem xr_37 {F b L : Nat} {xs : Nat → Int32} {N n : Nat} {vs : List (Option Value)} {st : List Value} {M : cM} : runX PI_RL T_L_law na_L_law (ca_L_law F) sw_L_law (sp_L_law F b L xs) cut_L_law N (n + 1) 37 vs st M = run T_L_law PI_RL false 1 (naL na_L_law) (caL (ca_L_law F)) (lkN []) (lkN sw_L_law) krX kxN (spL cut_L_law) (runX PI_RL T_L_law na_L_law (ca_L_law F) sw_L_law (sp_L_law F b L xs) cut_L_law N n) N 37 vs st M := X_run rfl
set_option maxRecDepth 100000 in
theorem sg_27 {F b : Nat} {K : xK} {i : Int32} {v6 : Option Value} {v5 : Option Value} {s0 : Int32} {s1 : Int32} {M : cM} : run T_L_law PI_RL false 1 (naL na_L_law) (caL (ca_L_law F)) (lkN []) (lkN sw_L_law) krX kxN (spL cut_L_law) K 60 27 [some (.retAddr b), some (.ref 0), some (.ref 570), some (.ref 632), some (.int i), v5, v6] [.int s0, .int s1] M = (if (s0 - (7)) < s1 then (some M) else (K 33 [some (.retAddr b), some (.ref 0), some (.ref 570), some (.ref 632), some (.int i), v5, v6] [] M)) := rfl
set_option maxRecDepth 100000 in
theorem sg_37 {F b : Nat} {K : xK} {i : Int32} {v6 : Option Value} {v5 : Option Value} {s0 : Int32} {M : cM} : run T_L_law PI_RL false 1 (naL na_L_law) (caL (ca_L_law F)) (lkN []) (lkN sw_L_law) krX kxN (spL cut_L_law) K 60 37 [some (.retAddr b), some (.ref 0), some (.ref 570), some (.ref 632), some (.int i), v5, v6] [.int s0] M = (if (s0 &&& (31)) = 0 then (K 137 [some (.retAddr b), some (.ref 0), some (.ref 570), some (.ref 632), some (.int i), v5, v6] [.ref 0] M) else (if (s0 &&& (31)) = 1 then (K 196 [some (.retAddr b), some (.ref 0), some (.ref 570), some (.ref 632), some (.int i), v5, v6] [.ref 632, .ref 0] M) else (if (s0 &&& (31)) = 2 then (K 239 [some (.retAddr b), some (.ref 0), some (.ref 570), some (.ref 632), some (.int i), v5, v6] [.ref 0] M) else (if (s0 &&& (31)) = 3 then (K 295 [some (.retAddr b), some (.ref 0), some (.ref 570), some (.ref 632), some (.int i), v5, v6] [.ref 0] M) else (if (s0 &&& (31)) = 4 then (K 363 [some (.retAddr b), some (.ref 0), some (.ref 570), some (.ref 632), some (.int i), v5, v6] [.ref 0] M) else (if (s0 &&& (31)) = 5 then (K 431 [some (.retAddr b), some (.ref 0), some (.ref 570), some (.ref 632), some (.int i), v5, v6] [.ref 0] M) else (if (s0 &&& (31)) = 6 then (K 499 [some (.retAddr b), some (.ref 0), some (.ref 570), some (.ref 632), some (.int i), v5, v6] [.ref 0] M) else (if (s0 &&& (31)) = 7 then (K 567 [some (.retAddr b), some (.ref 0), some (.ref 570), some (.ref 632), some (.int i), v5, v6] [.ref 0] M) else (if (s0 &&& (31)) = 8 then (K 685 [some (.retAddr b), some (.ref 0), some (.ref 570), some (.ref 632), some (.int i), v5, v6] [.ref 0] M) else (if (s0 &&& (31)) = 9 then (K 741 [some (.retAddr b), some (.ref 0), some (.ref 570), some (.ref 632), some (.int i), v5, v6] [.ref 0] M) else (if (s0 &&& (31)) = 10 then (K 797 [some (.retAddr b), some (.ref 0), some (.ref 570), some (.ref 632), some (.int i), v5, v6] [.ref 0] M) else (if (s0 &&& (31)) = 11 then (K 865 [some (.retAddr b), some (.ref 0), some (.ref 570), some (.ref 632), some (.int i), v5, v6] [.ref 0] M) else (if (s0 &&& (31)) = 12 then (K 921 [some (.retAddr b), some (.ref 0), some (.ref 570), some (.ref 632), some (.int i), v5, v6] [.ref 0] M) else (if (s0 &&& (31)) = 13 then (K 977 [some (.retAddr b), some (.ref 0), some (.ref 570), some (.ref 632), some (.int i), v5, v6] [.ref 0] M) else (if (s0 &&& (31)) = 14 then (K 1085 [some (.retAddr b), some (.ref 0), some (.ref 570), some (.ref 632), some (.int i), v5, v6] [.ref 0] M) else (if (s0 &&& (31)) = 15 then (K 1165 [some (.retAddr b), some (.ref 0), some (.ref 570), some (.ref 632), some (.int i), v5, v6] [.ref 0] M) else (if (s0 &&& (31)) = 16 then ((f_X11_runs F 0 M).bind fun r3 =>
  (f_X12_runs F 570 r3.2).bind fun r4 =>
  if r3.1 = r4.1 then (K 25 [some (.retAddr b), some (.ref 0), some (.ref 570), some (.ref 632), some (.int (i + 7)), v5, v6] [.int (i + 7)] r4.2) else (none)) else (if (s0 &&& (31)) = 17 then (K 1270 [some (.retAddr b), some (.ref 0), some (.ref 570), some (.ref 632), some (.int i), v5, v6] [.ref 0] M) else (if (s0 &&& (31)) = 18 then (K 1333 [some (.retAddr b), some (.ref 0), some (.ref 570), some (.ref 632), some (.int i), v5, v6] [.ref 0] M) else (if (s0 &&& (31)) = 19 then ((f_X11_asked F 0 M).bind fun r1 =>
  (f_X12_asked F 570 r1.2).bind fun r2 =>
  if r1.1 = r2.1 then (K 25 [some (.retAddr b), some (.ref 0), some (.ref 570), some (.ref 632), some (.int (i + 7)), v5, v6] [.int (i + 7)] r2.2) else (none)) else (K 25 [some (.retAddr b), some (.ref 0), some (.ref 570), some (.ref 632), some (.int (i + 7)), v5, v6] [.int (i + 7)] M))))))))))))))))))))) := rfl
theorem h_cont {q : Int} {L : Nat} (h0 : 0 ≤ q) (h1 : q + 7 ≤ L) (hL : L ≤ 3584) : ¬ Int32.ofNat L - 7 < I q := by
  rw [show Int32.ofNat L = I L from Int32.ofInt_eq_ofNat.symm, show (7 : Int32) = I 7 from rfl, I_sub, I_lt (by omega) (by omega) (by omega) (by omega)]
  omega
theorem ends_exit {F b L : Nat} {xs : Nat → Int32} {q : Int} {M : cM} (h0 : 0 ≤ q) (h1 : ¬ q + 7 ≤ L) (hL : L ≤ 3584) (hq : q ≤ 4000) : Ends F b L xs 0 q M := by
  intro v5 v6
  refine ⟨2, by omega, M, ?_⟩
  rw [xs_25 (n := 1), xl_ok, xr_27 (n := 0)]
  unfold lsX
  rw [sg_27, if_pos]
  rw [show Int32.ofNat L = I L from Int32.ofInt_eq_ofNat.symm, show (7 : Int32) = I 7 from rfl, I_sub, I_lt (by omega) (by omega) (by omega) (by omega)]
  omega
theorem ends_skip {F b L : Nat} {xs : Nat → Int32} {k : Nat} {q : Int} {M : cM} (h0 : 0 ≤ q) (h1 : q + 7 ≤ L) (hL : L ≤ 3584) (hop : ∀ c : Int32, 0 ≤ c → c < 20 → ¬ xs q.toNat &&& 31 = c) (h : Ends F b L xs k (q + 7) M) : Ends F b L xs (k + 1) q M := by
  intro v5 v6
  obtain ⟨n, hn, r, hr⟩ := h v5 v6
  refine ⟨n + 4, by omega, r, ?_⟩
  rw [xs_25, xl_ok, xr_27]
  unfold lsX
  rw [sg_27, if_neg (h_cont h0 h1 hL)]
  rw [ls_eq, xs_33, x0_ok h0 h1 hL, xr_37]
  unfold lsX
  rw [sg_37, if_neg (hop 0 (by decide) (by decide)), if_neg (hop 1 (by decide) (by decide)), if_neg (hop 2 (by decide) (by decide)), if_neg (hop 3 (by decide) (by decide)), if_neg (hop 4 (by decide) (by decide)), if_neg (hop 5 (by decide) (by decide)), if_neg (hop 6 (by decide) (by decide)), if_neg (hop 7 (by decide) (by decide)), if_neg (hop 8 (by decide) (by decide)), if_neg (hop 9 (by decide) (by decide)), if_neg (hop 10 (by decide) (by decide)), if_neg (hop 11 (by decide) (by decide)), if_neg (hop 12 (by decide) (by decide)), if_neg (hop 13 (by decide) (by decide)), if_neg (hop 14 (by decide) (by decide)), if_neg (hop 15 (by decide) (by decide)), if_neg (hop 16 (by decide) (by decide)), if_neg (hop 17 (by decide) (by decide)), if_neg (hop 18 (by decide) (by decide)), if_neg (hop 19 (by decide) (by decide))]
  rw [← hr, wr_q, wr_i]
theorem xs_137 {F b L : Nat} {xs : Nat → Int32} {N n : Nat} {vs : List (Option Value)} {st : List Value} {M : cM} : runX PI_RL T_L_law na_L_law (ca_L_law F) sw_L_law (sp_L_law F b L xs) cut_L_law N (n + 1) 137 vs st M = xReadK b L xs 1 143 vs st M (runX PI_RL T_L_law na_L_law (ca_L_law F) sw_L_law (sp_L_law F b L xs) cut_L_law N n) := X_sp rfl
theorem xr_143 {F b L : Nat} {xs : Nat → Int32} {N n : Nat} {vs : List (Option Value)} {st : List Value} {M : cM} : runX PI_RL T_L_law na_L_law (ca_L_law F) sw_L_law (sp_L_law F b L xs) cut_L_law N (n + 1) 143 vs st M = run T_L_law PI_RL false 1 (naL na_L_law) (caL (ca_L_law F)) (lkN []) (lkN sw_L_law) krX kxN (spL cut_L_law) (runX PI_RL T_L_law na_L_law (ca_L_law F) sw_L_law (sp_L_law F b L xs) cut_L_law N n) N 143 vs st M := X_run rfl
set_option maxRecDepth 100000 in
theorem sg_143 {F b : Nat} {K : xK} {i : Int32} {v6 : Option Value} {v5 : Option Value} {s0 : Int32} {M : cM} : run T_L_law PI_RL false 1 (naL na_L_law) (caL (ca_L_law F)) (lkN []) (lkN sw_L_law) krX kxN (spL cut_L_law) K 60 143 [some (.retAddr b), some (.ref 0), some (.ref 570), some (.ref 632), some (.int i), v5, v6] [.int s0, .ref 0] M = (K 145 [some (.retAddr b), some (.ref 0), some (.ref 570), some (.ref 632), some (.int i), v5, v6] [.ref 632, .int ((s0).toUInt32 % 65536).toInt32, .ref 0] M) := rfl
theorem xs_145 {F b L : Nat} {xs : Nat → Int32} {N n : Nat} {vs : List (Option Value)} {st : List Value} {M : cM} : runX PI_RL T_L_law na_L_law (ca_L_law F) sw_L_law (sp_L_law F b L xs) cut_L_law N (n + 1) 145 vs st M = xWrap 3 (v_L_type F) 148 vs st M (runX PI_RL T_L_law na_L_law (ca_L_law F) sw_L_law (sp_L_law F b L xs) cut_L_law N n) := X_sp rfl
theorem xw_type {F : Nat} {K : xK} {vs : List (Option Value)} {a0 : Nat} {a1 : Int32} {a2 : Nat} {M : cM} : xWrap 3 (v_L_type F) 148 vs [.ref a2, .int a1, .ref a0] M K = (f_L_type F a0 a1 a2 M).bind fun r => K 148 vs [.int r.1] r.2 := rfl
theorem xr_148 {F b L : Nat} {xs : Nat → Int32} {N n : Nat} {vs : List (Option Value)} {st : List Value} {M : cM} : runX PI_RL T_L_law na_L_law (ca_L_law F) sw_L_law (sp_L_law F b L xs) cut_L_law N (n + 1) 148 vs st M = run T_L_law PI_RL false 1 (naL na_L_law) (caL (ca_L_law F)) (lkN []) (lkN sw_L_law) krX kxN (spL cut_L_law) (runX PI_RL T_L_law na_L_law (ca_L_law F) sw_L_law (sp_L_law F b L xs) cut_L_law N n) N 148 vs st M := X_run rfl
set_option maxRecDepth 100000 in
theorem sg_148 {F b : Nat} {K : xK} {i : Int32} {v6 : Option Value} {v5 : Option Value} {s0 : Int32} {M : cM} : run T_L_law PI_RL false 1 (naL na_L_law) (caL (ca_L_law F)) (lkN []) (lkN sw_L_law) krX kxN (spL cut_L_law) K 60 148 [some (.retAddr b), some (.ref 0), some (.ref 570), some (.ref 632), some (.int i), v5, v6] [.int s0] M = (K 151 [some (.retAddr b), some (.ref 0), some (.ref 570), some (.ref 632), some (.int i), some (.int s0), v6] [.ref 570] M) := rfl
theorem xs_151 {F b L : Nat} {xs : Nat → Int32} {N n : Nat} {vs : List (Option Value)} {st : List Value} {M : cM} : runX PI_RL T_L_law na_L_law (ca_L_law F) sw_L_law (sp_L_law F b L xs) cut_L_law N (n + 1) 151 vs st M = xReadK b L xs 1 157 vs st M (runX PI_RL T_L_law na_L_law (ca_L_law F) sw_L_law (sp_L_law F b L xs) cut_L_law N n) := X_sp rfl
theorem xr_157 {F b L : Nat} {xs : Nat → Int32} {N n : Nat} {vs : List (Option Value)} {st : List Value} {M : cM} : runX PI_RL T_L_law na_L_law (ca_L_law F) sw_L_law (sp_L_law F b L xs) cut_L_law N (n + 1) 157 vs st M = run T_L_law PI_RL false 1 (naL na_L_law) (caL (ca_L_law F)) (lkN []) (lkN sw_L_law) krX kxN (spL cut_L_law) (runX PI_RL T_L_law na_L_law (ca_L_law F) sw_L_law (sp_L_law F b L xs) cut_L_law N n) N 157 vs st M := X_run rfl
set_option maxRecDepth 100000 in
theorem sg_157 {F b : Nat} {K : xK} {i : Int32} {v6 : Option Value} {w5 : Int32} {s0 : Int32} {M : cM} : run T_L_law PI_RL false 1 (naL na_L_law) (caL (ca_L_law F)) (lkN []) (lkN sw_L_law) krX kxN (spL cut_L_law) K 60 157 [some (.retAddr b), some (.ref 0), some (.ref 570), some (.ref 632), some (.int i), some (.int w5), v6] [.int s0, .ref 570] M = ((f_X12_type F 570 ((s0).toUInt32 % 65536).toInt32 M).bind fun r1 =>
  (f_X12_thrown F 570 r1.2).bind fun r2 =>
  if r2.1 = w5 then (if w5 = 0 then ((aJ r2.2 632 (0)).bind fun v3 =>
  if (lg_cmp v3 (r1.1).toInt64) = 0 then (K 25 [some (.retAddr b), some (.ref 0), some (.ref 570), some (.ref 632), some (.int (i + 7)), some (.int w5), some (.int r1.1)] [.int (i + 7)] r2.2) else (none)) else (K 25 [some (.retAddr b), some (.ref 0), some (.ref 570), some (.ref 632), some (.int (i + 7)), some (.int w5), some (.int r1.1)] [.int (i + 7)] r2.2)) else (none)) := rfl
-- type: (f_X12_type F 570 (((xs (q + 1).toNat)).toUInt32 % 65536).toInt32 M1).bind fun r1 =>   (f_X12_thrown F 570 r1.2).bind fun r2 =>   if r2.1 = c then (if c = 0 then ((aJ r2.2 632 (0)).bind fun v3 =>   if (lg_cmp v3 (r1.1).toInt64) = 0 then (K 25 [some (.retAddr b), some (.ref 0), some (.ref 570), some (.ref 632), some (.int ((I q) + 7)), some (.int c), some (.int r1.1)] [.int ((I q) + 7)] r2.2) else (none)) else (K 25 [some (.retAddr b), some (.ref 0), some (.ref 570), some (.ref 632), some (.int ((I q) + 7)), some (.int c), some (.int r1.1)] [.int ((I q) + 7)] r2.2)) else (none)
theorem ends_type {F b L : Nat} {xs : Nat → Int32} {k : Nat} {q : Int} {M : cM} (h0 : 0 ≤ q) (h1 : q + 7 ≤ L) (hL : L ≤ 3584) {c v : Int32} {M1 M2 M3 : cM} (hop : xs q.toNat &&& 31 = 0) (e1 : f_L_type F 0 (((((xs (q + 1).toNat))).toUInt32 % 65536).toInt32) 632 M = some (c, M1)) (e2 : f_X12_type F 570 (((xs (q + 1).toNat)).toUInt32 % 65536).toInt32 M1 = some (v, M2)) (e3 : f_X12_thrown F 570 M2 = some (c, M3)) (e4 : (c = 0 → ∃ x, aJ M3 632 0 = some x ∧ lg_cmp x v.toInt64 = 0)) (h : Ends F b L xs k (q + 7) M3) : Ends F b L xs (k + 1) q M := by
  intro v5 v6
  obtain ⟨n, hn, r, hr⟩ := h (some (.int c)) (some (.int v))
  refine ⟨n + 10, by omega, r, ?_⟩
  rw [xs_25, xl_ok, xr_27]
  unfold lsX
  rw [sg_27, if_neg (h_cont h0 h1 hL)]
  rw [ls_eq, xs_33, x0_ok h0 h1 hL, xr_37]
  unfold lsX
  rw [sg_37, hop, if_pos rfl]
  try rw [ls_eq]
  rw [xs_137, xk_ok (j := 1) (v := 1) rfl h0 h1 hL (by decide) (by decide)]
  rw [xr_143]
  try unfold lsX
  rw [sg_143]
  rw [xs_145, xw_type, e1, Option.bind_some]
  rw [xr_148]
  try unfold lsX
  rw [sg_148]
  try rw [ls_eq]
  rw [xs_151, xk_ok (j := 1) (v := 1) rfl h0 h1 hL (by decide) (by decide)]
  rw [xr_157]
  try unfold lsX
  rw [sg_157]
  rw [e2, Option.bind_some, e3, Option.bind_some, if_pos rfl]
  by_cases hc : c = 0
  · obtain ⟨x, e5, e6⟩ := e4 hc
    rw [if_pos hc, e5, Option.bind_some]
    rw [if_pos e6, ← hr, wr_q, wr_i]
  · rw [if_neg hc, ← hr, wr_q, wr_i]
theorem xs_196 {F b L : Nat} {xs : Nat → Int32} {N n : Nat} {vs : List (Option Value)} {st : List Value} {M : cM} : runX PI_RL T_L_law na_L_law (ca_L_law F) sw_L_law (sp_L_law F b L xs) cut_L_law N (n + 1) 196 vs st M = xWrap 2 (v_L_line F) 199 vs st M (runX PI_RL T_L_law na_L_law (ca_L_law F) sw_L_law (sp_L_law F b L xs) cut_L_law N n) := X_sp rfl
theorem xw_line {F : Nat} {K : xK} {vs : List (Option Value)} {a0 : Nat} {a1 : Nat} {M : cM} : xWrap 2 (v_L_line F) 199 vs [.ref a1, .ref a0] M K = (f_L_line F a0 a1 M).bind fun r => K 199 vs [.int r.1] r.2 := rfl
theorem xr_199 {F b L : Nat} {xs : Nat → Int32} {N n : Nat} {vs : List (Option Value)} {st : List Value} {M : cM} : runX PI_RL T_L_law na_L_law (ca_L_law F) sw_L_law (sp_L_law F b L xs) cut_L_law N (n + 1) 199 vs st M = run T_L_law PI_RL false 1 (naL na_L_law) (caL (ca_L_law F)) (lkN []) (lkN sw_L_law) krX kxN (spL cut_L_law) (runX PI_RL T_L_law na_L_law (ca_L_law F) sw_L_law (sp_L_law F b L xs) cut_L_law N n) N 199 vs st M := X_run rfl
set_option maxRecDepth 100000 in
theorem sg_199 {F b : Nat} {K : xK} {i : Int32} {v6 : Option Value} {v5 : Option Value} {s0 : Int32} {M : cM} : run T_L_law PI_RL false 1 (naL na_L_law) (caL (ca_L_law F)) (lkN []) (lkN sw_L_law) krX kxN (spL cut_L_law) K 60 199 [some (.retAddr b), some (.ref 0), some (.ref 570), some (.ref 632), some (.int i), v5, v6] [.int s0] M = ((f_X12_line F 570 M).bind fun r1 =>
  (f_X12_thrown F 570 r1.2).bind fun r2 =>
  if r2.1 = s0 then (if s0 = 0 then ((aJ r2.2 632 (0)).bind fun v3 =>
  if (lg_cmp v3 (r1.1).toInt64) = 0 then (K 25 [some (.retAddr b), some (.ref 0), some (.ref 570), some (.ref 632), some (.int (i + 7)), some (.int s0), some (.int r1.1)] [.int (i + 7)] r2.2) else (none)) else (K 25 [some (.retAddr b), some (.ref 0), some (.ref 570), some (.ref 632), some (.int (i + 7)), some (.int s0), some (.int r1.1)] [.int (i + 7)] r2.2)) else (none)) := rfl
-- line: (f_X12_line F 570 M1).bind fun r1 =>   (f_X12_thrown F 570 r1.2).bind fun r2 =>   if r2.1 = c then (if c = 0 then ((aJ r2.2 632 (0)).bind fun v3 =>   if (lg_cmp v3 (r1.1).toInt64) = 0 then (K 25 [some (.retAddr b), some (.ref 0), some (.ref 570), some (.ref 632), some (.int ((I q) + 7)), some (.int c), some (.int r1.1)] [.int ((I q) + 7)] r2.2) else (none)) else (K 25 [some (.retAddr b), some (.ref 0), some (.ref 570), some (.ref 632), some (.int ((I q) + 7)), some (.int c), some (.int r1.1)] [.int ((I q) + 7)] r2.2)) else (none)
theorem ends_line {F b L : Nat} {xs : Nat → Int32} {k : Nat} {q : Int} {M : cM} (h0 : 0 ≤ q) (h1 : q + 7 ≤ L) (hL : L ≤ 3584) {c v : Int32} {M1 M2 M3 : cM} (hop : xs q.toNat &&& 31 = 1) (e1 : f_L_line F 0 632 M = some (c, M1)) (e2 : f_X12_line F 570 M1 = some (v, M2)) (e3 : f_X12_thrown F 570 M2 = some (c, M3)) (e4 : (c = 0 → ∃ x, aJ M3 632 0 = some x ∧ lg_cmp x v.toInt64 = 0)) (h : Ends F b L xs k (q + 7) M3) : Ends F b L xs (k + 1) q M := by
  intro v5 v6
  obtain ⟨n, hn, r, hr⟩ := h (some (.int c)) (some (.int v))
  refine ⟨n + 6, by omega, r, ?_⟩
  rw [xs_25, xl_ok, xr_27]
  unfold lsX
  rw [sg_27, if_neg (h_cont h0 h1 hL)]
  rw [ls_eq, xs_33, x0_ok h0 h1 hL, xr_37]
  unfold lsX
  rw [sg_37, hop, if_neg (by decide), if_pos rfl]
  rw [xs_196, xw_line, e1, Option.bind_some]
  rw [xr_199]
  try unfold lsX
  rw [sg_199]
  rw [e2, Option.bind_some, e3, Option.bind_some, if_pos rfl]
  by_cases hc : c = 0
  · obtain ⟨x, e5, e6⟩ := e4 hc
    rw [if_pos hc, e5, Option.bind_some]
    rw [if_pos e6, ← hr, wr_q, wr_i]
  · rw [if_neg hc, ← hr, wr_q, wr_i]
theorem xs_239 {F b L : Nat} {xs : Nat → Int32} {N n : Nat} {vs : List (Option Value)} {st : List Value} {M : cM} : runX PI_RL T_L_law na_L_law (ca_L_law F) sw_L_law (sp_L_law F b L xs) cut_L_law N (n + 1) 239 vs st M = xReadK b L xs 1 245 vs st M (runX PI_RL T_L_law na_L_law (ca_L_law F) sw_L_law (sp_L_law F b L xs) cut_L_law N n) := X_sp rfl
theorem xr_245 {F b L : Nat} {xs : Nat → Int32} {N n : Nat} {vs : List (Option Value)} {st : List Value} {M : cM} : runX PI_RL T_L_law na_L_law (ca_L_law F) sw_L_law (sp_L_law F b L xs) cut_L_law N (n + 1) 245 vs st M = run T_L_law PI_RL false 1 (naL na_L_law) (caL (ca_L_law F)) (lkN []) (lkN sw_L_law) krX kxN (spL cut_L_law) (runX PI_RL T_L_law na_L_law (ca_L_law F) sw_L_law (sp_L_law F b L xs) cut_L_law N n) N 245 vs st M := X_run rfl
set_option maxRecDepth 100000 in
theorem sg_245 {F b : Nat} {K : xK} {i : Int32} {v6 : Option Value} {v5 : Option Value} {s0 : Int32} {M : cM} : run T_L_law PI_RL false 1 (naL na_L_law) (caL (ca_L_law F)) (lkN []) (lkN sw_L_law) krX kxN (spL cut_L_law) K 60 245 [some (.retAddr b), some (.ref 0), some (.ref 570), some (.ref 632), some (.int i), v5, v6] [.int s0, .ref 0] M = (K 246 [some (.retAddr b), some (.ref 0), some (.ref 570), some (.ref 632), some (.int i), v5, v6] [.ref 632, .int s0, .ref 0] M) := rfl
theorem xs_246 {F b L : Nat} {xs : Nat → Int32} {N n : Nat} {vs : List (Option Value)} {st : List Value} {M : cM} : runX PI_RL T_L_law na_L_law (ca_L_law F) sw_L_law (sp_L_law F b L xs) cut_L_law N (n + 1) 246 vs st M = xWrap 3 (v_L_length F) 249 vs st M (runX PI_RL T_L_law na_L_law (ca_L_law F) sw_L_law (sp_L_law F b L xs) cut_L_law N n) := X_sp rfl
theorem xw_length {F : Nat} {K : xK} {vs : List (Option Value)} {a0 : Nat} {a1 : Int32} {a2 : Nat} {M : cM} : xWrap 3 (v_L_length F) 249 vs [.ref a2, .int a1, .ref a0] M K = (f_L_length F a0 a1 a2 M).bind fun r => K 249 vs [.int r.1] r.2 := rfl
theorem xr_249 {F b L : Nat} {xs : Nat → Int32} {N n : Nat} {vs : List (Option Value)} {st : List Value} {M : cM} : runX PI_RL T_L_law na_L_law (ca_L_law F) sw_L_law (sp_L_law F b L xs) cut_L_law N (n + 1) 249 vs st M = run T_L_law PI_RL false 1 (naL na_L_law) (caL (ca_L_law F)) (lkN []) (lkN sw_L_law) krX kxN (spL cut_L_law) (runX PI_RL T_L_law na_L_law (ca_L_law F) sw_L_law (sp_L_law F b L xs) cut_L_law N n) N 249 vs st M := X_run rfl
set_option maxRecDepth 100000 in
theorem sg_249 {F b : Nat} {K : xK} {i : Int32} {v6 : Option Value} {v5 : Option Value} {s0 : Int32} {M : cM} : run T_L_law PI_RL false 1 (naL na_L_law) (caL (ca_L_law F)) (lkN []) (lkN sw_L_law) krX kxN (spL cut_L_law) K 60 249 [some (.retAddr b), some (.ref 0), some (.ref 570), some (.ref 632), some (.int i), v5, v6] [.int s0] M = (K 252 [some (.retAddr b), some (.ref 0), some (.ref 570), some (.ref 632), some (.int i), some (.int s0), v6] [.ref 570] M) := rfl
theorem xs_252 {F b L : Nat} {xs : Nat → Int32} {N n : Nat} {vs : List (Option Value)} {st : List Value} {M : cM} : runX PI_RL T_L_law na_L_law (ca_L_law F) sw_L_law (sp_L_law F b L xs) cut_L_law N (n + 1) 252 vs st M = xReadK b L xs 1 258 vs st M (runX PI_RL T_L_law na_L_law (ca_L_law F) sw_L_law (sp_L_law F b L xs) cut_L_law N n) := X_sp rfl
theorem xr_258 {F b L : Nat} {xs : Nat → Int32} {N n : Nat} {vs : List (Option Value)} {st : List Value} {M : cM} : runX PI_RL T_L_law na_L_law (ca_L_law F) sw_L_law (sp_L_law F b L xs) cut_L_law N (n + 1) 258 vs st M = run T_L_law PI_RL false 1 (naL na_L_law) (caL (ca_L_law F)) (lkN []) (lkN sw_L_law) krX kxN (spL cut_L_law) (runX PI_RL T_L_law na_L_law (ca_L_law F) sw_L_law (sp_L_law F b L xs) cut_L_law N n) N 258 vs st M := X_run rfl
set_option maxRecDepth 100000 in
theorem sg_258 {F b : Nat} {K : xK} {i : Int32} {v6 : Option Value} {w5 : Int32} {s0 : Int32} {M : cM} : run T_L_law PI_RL false 1 (naL na_L_law) (caL (ca_L_law F)) (lkN []) (lkN sw_L_law) krX kxN (spL cut_L_law) K 60 258 [some (.retAddr b), some (.ref 0), some (.ref 570), some (.ref 632), some (.int i), some (.int w5), v6] [.int s0, .ref 570] M = ((f_X12_length F 570 s0 M).bind fun r1 =>
  (f_X12_thrown F 570 r1.2).bind fun r2 =>
  if r2.1 = w5 then (if w5 = 0 then ((aJ r2.2 632 (0)).bind fun v3 =>
  if (lg_cmp v3 (r1.1).toInt64) = 0 then (K 25 [some (.retAddr b), some (.ref 0), some (.ref 570), some (.ref 632), some (.int (i + 7)), some (.int w5), some (.int r1.1)] [.int (i + 7)] r2.2) else (none)) else (K 25 [some (.retAddr b), some (.ref 0), some (.ref 570), some (.ref 632), some (.int (i + 7)), some (.int w5), some (.int r1.1)] [.int (i + 7)] r2.2)) else (none)) := rfl
-- length: (f_X12_length F 570 (xs (q + 1).toNat) M1).bind fun r1 =>   (f_X12_thrown F 570 r1.2).bind fun r2 =>   if r2.1 = c then (if c = 0 then ((aJ r2.2 632 (0)).bind fun v3 =>   if (lg_cmp v3 (r1.1).toInt64) = 0 then (K 25 [some (.retAddr b), some (.ref 0), some (.ref 570), some (.ref 632), some (.int ((I q) + 7)), some (.int c), some (.int r1.1)] [.int ((I q) + 7)] r2.2) else (none)) else (K 25 [some (.retAddr b), some (.ref 0), some (.ref 570), some (.ref 632), some (.int ((I q) + 7)), some (.int c), some (.int r1.1)] [.int ((I q) + 7)] r2.2)) else (none)
theorem ends_length {F b L : Nat} {xs : Nat → Int32} {k : Nat} {q : Int} {M : cM} (h0 : 0 ≤ q) (h1 : q + 7 ≤ L) (hL : L ≤ 3584) {c v : Int32} {M1 M2 M3 : cM} (hop : xs q.toNat &&& 31 = 2) (e1 : f_L_length F 0 (((xs (q + 1).toNat))) 632 M = some (c, M1)) (e2 : f_X12_length F 570 (xs (q + 1).toNat) M1 = some (v, M2)) (e3 : f_X12_thrown F 570 M2 = some (c, M3)) (e4 : (c = 0 → ∃ x, aJ M3 632 0 = some x ∧ lg_cmp x v.toInt64 = 0)) (h : Ends F b L xs k (q + 7) M3) : Ends F b L xs (k + 1) q M := by
  intro v5 v6
  obtain ⟨n, hn, r, hr⟩ := h (some (.int c)) (some (.int v))
  refine ⟨n + 10, by omega, r, ?_⟩
  rw [xs_25, xl_ok, xr_27]
  unfold lsX
  rw [sg_27, if_neg (h_cont h0 h1 hL)]
  rw [ls_eq, xs_33, x0_ok h0 h1 hL, xr_37]
  unfold lsX
  rw [sg_37, hop, if_neg (by decide), if_neg (by decide), if_pos rfl]
  try rw [ls_eq]
  rw [xs_239, xk_ok (j := 1) (v := 1) rfl h0 h1 hL (by decide) (by decide)]
  rw [xr_245]
  try unfold lsX
  rw [sg_245]
  rw [xs_246, xw_length, e1, Option.bind_some]
  rw [xr_249]
  try unfold lsX
  rw [sg_249]
  try rw [ls_eq]
  rw [xs_252, xk_ok (j := 1) (v := 1) rfl h0 h1 hL (by decide) (by decide)]
  rw [xr_258]
  try unfold lsX
  rw [sg_258]
  rw [e2, Option.bind_some, e3, Option.bind_some, if_pos rfl]
  by_cases hc : c = 0
  · obtain ⟨x, e5, e6⟩ := e4 hc
    rw [if_pos hc, e5, Option.bind_some]
    rw [if_pos e6, ← hr, wr_q, wr_i]
  · rw [if_neg hc, ← hr, wr_q, wr_i]
theorem xs_295 {F b L : Nat} {xs : Nat → Int32} {N n : Nat} {vs : List (Option Value)} {st : List Value} {M : cM} : runX PI_RL T_L_law na_L_law (ca_L_law F) sw_L_law (sp_L_law F b L xs) cut_L_law N (n + 1) 295 vs st M = xReadK b L xs 1 301 vs st M (runX PI_RL T_L_law na_L_law (ca_L_law F) sw_L_law (sp_L_law F b L xs) cut_L_law N n) := X_sp rfl
theorem xs_301 {F b L : Nat} {xs : Nat → Int32} {N n : Nat} {vs : List (Option Value)} {st : List Value} {M : cM} : runX PI_RL T_L_law na_L_law (ca_L_law F) sw_L_law (sp_L_law F b L xs) cut_L_law N (n + 1) 301 vs st M = xReadK b L xs 2 307 vs st M (runX PI_RL T_L_law na_L_law (ca_L_law F) sw_L_law (sp_L_law F b L xs) cut_L_law N n) := X_sp rfl
theorem xr_307 {F b L : Nat} {xs : Nat → Int32} {N n : Nat} {vs : List (Option Value)} {st : List Value} {M : cM} : runX PI_RL T_L_law na_L_law (ca_L_law F) sw_L_law (sp_L_law F b L xs) cut_L_law N (n + 1) 307 vs st M = run T_L_law PI_RL false 1 (naL na_L_law) (caL (ca_L_law F)) (lkN []) (lkN sw_L_law) krX kxN (spL cut_L_law) (runX PI_RL T_L_law na_L_law (ca_L_law F) sw_L_law (sp_L_law F b L xs) cut_L_law N n) N 307 vs st M := X_run rfl
set_option maxRecDepth 100000 in
theorem sg_307 {F b : Nat} {K : xK} {i : Int32} {v6 : Option Value} {v5 : Option Value} {s0 : Int32} {s1 : Int32} {M : cM} : run T_L_law PI_RL false 1 (naL na_L_law) (caL (ca_L_law F)) (lkN []) (lkN sw_L_law) krX kxN (spL cut_L_law) K 60 307 [some (.retAddr b), some (.ref 0), some (.ref 570), some (.ref 632), some (.int i), v5, v6] [.int s0, .int s1, .ref 0] M = (K 308 [some (.retAddr b), some (.ref 0), some (.ref 570), some (.ref 632), some (.int i), v5, v6] [.ref 632, .int s0, .int s1, .ref 0] M) := rfl
theorem xs_308 {F b L : Nat} {xs : Nat → Int32} {N n : Nat} {vs : List (Option Value)} {st : List Value} {M : cM} : runX PI_RL T_L_law na_L_law (ca_L_law F) sw_L_law (sp_L_law F b L xs) cut_L_law N (n + 1) 308 vs st M = xWrap 4 (v_L_signAt F) 311 vs st M (runX PI_RL T_L_law na_L_law (ca_L_law F) sw_L_law (sp_L_law F b L xs) cut_L_law N n) := X_sp rfl
theorem xw_signAt {F : Nat} {K : xK} {vs : List (Option Value)} {a0 : Nat} {a1 : Int32} {a2 : Int32} {a3 : Nat} {M : cM} : xWrap 4 (v_L_signAt F) 311 vs [.ref a3, .int a2, .int a1, .ref a0] M K = (f_L_signAt F a0 a1 a2 a3 M).bind fun r => K 311 vs [.int r.1] r.2 := rfl
theorem xr_311 {F b L : Nat} {xs : Nat → Int32} {N n : Nat} {vs : List (Option Value)} {st : List Value} {M : cM} : runX PI_RL T_L_law na_L_law (ca_L_law F) sw_L_law (sp_L_law F b L xs) cut_L_law N (n + 1) 311 vs st M = run T_L_law PI_RL false 1 (naL na_L_law) (caL (ca_L_law F)) (lkN []) (lkN sw_L_law) krX kxN (spL cut_L_law) (runX PI_RL T_L_law na_L_law (ca_L_law F) sw_L_law (sp_L_law F b L xs) cut_L_law N n) N 311 vs st M := X_run rfl
set_option maxRecDepth 100000 in
theorem sg_311 {F b : Nat} {K : xK} {i : Int32} {v6 : Option Value} {v5 : Option Value} {s0 : Int32} {M : cM} : run T_L_law PI_RL false 1 (naL na_L_law) (caL (ca_L_law F)) (lkN []) (lkN sw_L_law) krX kxN (spL cut_L_law) K 60 311 [some (.retAddr b), some (.ref 0), some (.ref 570), some (.ref 632), some (.int i), v5, v6] [.int s0] M = (K 314 [some (.retAddr b), some (.ref 0), some (.ref 570), some (.ref 632), some (.int i), some (.int s0), v6] [.ref 570] M) := rfl
theorem xs_314 {F b L : Nat} {xs : Nat → Int32} {N n : Nat} {vs : List (Option Value)} {st : List Value} {M : cM} : runX PI_RL T_L_law na_L_law (ca_L_law F) sw_L_law (sp_L_law F b L xs) cut_L_law N (n + 1) 314 vs st M = xReadK b L xs 1 320 vs st M (runX PI_RL T_L_law na_L_law (ca_L_law F) sw_L_law (sp_L_law F b L xs) cut_L_law N n) := X_sp rfl
theorem xs_320 {F b L : Nat} {xs : Nat → Int32} {N n : Nat} {vs : List (Option Value)} {st : List Value} {M : cM} : runX PI_RL T_L_law na_L_law (ca_L_law F) sw_L_law (sp_L_law F b L xs) cut_L_law N (n + 1) 320 vs st M = xReadK b L xs 2 326 vs st M (runX PI_RL T_L_law na_L_law (ca_L_law F) sw_L_law (sp_L_law F b L xs) cut_L_law N n) := X_sp rfl
theorem xr_326 {F b L : Nat} {xs : Nat → Int32} {N n : Nat} {vs : List (Option Value)} {st : List Value} {M : cM} : runX PI_RL T_L_law na_L_law (ca_L_law F) sw_L_law (sp_L_law F b L xs) cut_L_law N (n + 1) 326 vs st M = run T_L_law PI_RL false 1 (naL na_L_law) (caL (ca_L_law F)) (lkN []) (lkN sw_L_law) krX kxN (spL cut_L_law) (runX PI_RL T_L_law na_L_law (ca_L_law F) sw_L_law (sp_L_law F b L xs) cut_L_law N n) N 326 vs st M := X_run rfl
set_option maxRecDepth 100000 in
theorem sg_326 {F b : Nat} {K : xK} {i : Int32} {v6 : Option Value} {w5 : Int32} {s0 : Int32} {s1 : Int32} {M : cM} : run T_L_law PI_RL false 1 (naL na_L_law) (caL (ca_L_law F)) (lkN []) (lkN sw_L_law) krX kxN (spL cut_L_law) K 60 326 [some (.retAddr b), some (.ref 0), some (.ref 570), some (.ref 632), some (.int i), some (.int w5), v6] [.int s0, .int s1, .ref 570] M = ((f_X12_signAt F 570 s1 s0 M).bind fun r1 =>
  (f_X12_thrown F 570 r1.2).bind fun r2 =>
  if r2.1 = w5 then (if w5 = 0 then ((aJ r2.2 632 (0)).bind fun v3 =>
  if (lg_cmp v3 (r1.1).toInt64) = 0 then (K 25 [some (.retAddr b), some (.ref 0), some (.ref 570), some (.ref 632), some (.int (i + 7)), some (.int w5), some (.int r1.1)] [.int (i + 7)] r2.2) else (none)) else (K 25 [some (.retAddr b), some (.ref 0), some (.ref 570), some (.ref 632), some (.int (i + 7)), some (.int w5), some (.int r1.1)] [.int (i + 7)] r2.2)) else (none)) := rfl
-- signAt: (f_X12_signAt F 570 (xs (q + 1).toNat) (xs (q + 2).toNat) M1).bind fun r1 =>   (f_X12_thrown F 570 r1.2).bind fun r2 =>   if r2.1 = c then (if c = 0 then ((aJ r2.2 632 (0)).bind fun v3 =>   if (lg_cmp v3 (r1.1).toInt64) = 0 then (K 25 [some (.retAddr b), some (.ref 0), some (.ref 570), some (.ref 632), some (.int ((I q) + 7)), some (.int c), some (.int r1.1)] [.int ((I q) + 7)] r2.2) else (none)) else (K 25 [some (.retAddr b), some (.ref 0), some (.ref 570), some (.ref 632), some (.int ((I q) + 7)), some (.int c), some (.int r1.1)] [.int ((I q) + 7)] r2.2)) else (none)
theorem ends_signAt {F b L : Nat} {xs : Nat → Int32} {k : Nat} {q : Int} {M : cM} (h0 : 0 ≤ q) (h1 : q + 7 ≤ L) (hL : L ≤ 3584) {c v : Int32} {M1 M2 M3 : cM} (hop : xs q.toNat &&& 31 = 3) (e1 : f_L_signAt F 0 (((xs (q + 1).toNat))) (((xs (q + 2).toNat))) 632 M = some (c, M1)) (e2 : f_X12_signAt F 570 (xs (q + 1).toNat) (xs (q + 2).toNat) M1 = some (v, M2)) (e3 : f_X12_thrown F 570 M2 = some (c, M3)) (e4 : (c = 0 → ∃ x, aJ M3 632 0 = some x ∧ lg_cmp x v.toInt64 = 0)) (h : Ends F b L xs k (q + 7) M3) : Ends F b L xs (k + 1) q M := by
  intro v5 v6
  obtain ⟨n, hn, r, hr⟩ := h (some (.int c)) (some (.int v))
  refine ⟨n + 12, by omega, r, ?_⟩
  rw [xs_25, xl_ok, xr_27]
  unfold lsX
  rw [sg_27, if_neg (h_cont h0 h1 hL)]
  rw [ls_eq, xs_33, x0_ok h0 h1 hL, xr_37]
  unfold lsX
  rw [sg_37, hop, if_neg (by decide), if_neg (by decide), if_neg (by decide), if_pos rfl]
  try rw [ls_eq]
  rw [xs_295, xk_ok (j := 1) (v := 1) rfl h0 h1 hL (by decide) (by decide)]
  try rw [ls_eq]
  rw [xs_301, xk_ok (j := 2) (v := 2) rfl h0 h1 hL (by decide) (by decide)]
  rw [xr_307]
  try unfold lsX
  rw [sg_307]
  rw [xs_308, xw_signAt, e1, Option.bind_some]
  rw [xr_311]
  try unfold lsX
  rw [sg_311]
  try rw [ls_eq]
  rw [xs_314, xk_ok (j := 1) (v := 1) rfl h0 h1 hL (by decide) (by decide)]
  try rw [ls_eq]
  rw [xs_320, xk_ok (j := 2) (v := 2) rfl h0 h1 hL (by decide) (by decide)]
  rw [xr_326]
  try unfold lsX
  rw [sg_326]
  rw [e2, Option.bind_some, e3, Option.bind_some, if_pos rfl]
  by_cases hc : c = 0
  · obtain ⟨x, e5, e6⟩ := e4 hc
    rw [if_pos hc, e5, Option.bind_some]
    rw [if_pos e6, ← hr, wr_q, wr_i]
  · rw [if_neg hc, ← hr, wr_q, wr_i]
theorem xs_363 {F b L : Nat} {xs : Nat → Int32} {N n : Nat} {vs : List (Option Value)} {st : List Value} {M : cM} : runX PI_RL T_L_law na_L_law (ca_L_law F) sw_L_law (sp_L_law F b L xs) cut_L_law N (n + 1) 363 vs st M = xReadK b L xs 1 369 vs st M (runX PI_RL T_L_law na_L_law (ca_L_law F) sw_L_law (sp_L_law F b L xs) cut_L_law N n) := X_sp rfl
theorem xs_369 {F b L : Nat} {xs : Nat → Int32} {N n : Nat} {vs : List (Option Value)} {st : List Value} {M : cM} : runX PI_RL T_L_law na_L_law (ca_L_law F) sw_L_law (sp_L_law F b L xs) cut_L_law N (n + 1) 369 vs st M = xReadK b L xs 2 375 vs st M (runX PI_RL T_L_law na_L_law (ca_L_law F) sw_L_law (sp_L_law F b L xs) cut_L_law N n) := X_sp rfl
theorem xr_375 {F b L : Nat} {xs : Nat → Int32} {N n : Nat} {vs : List (Option Value)} {st : List Value} {M : cM} : runX PI_RL T_L_law na_L_law (ca_L_law F) sw_L_law (sp_L_law F b L xs) cut_L_law N (n + 1) 375 vs st M = run T_L_law PI_RL false 1 (naL na_L_law) (caL (ca_L_law F)) (lkN []) (lkN sw_L_law) krX kxN (spL cut_L_law) (runX PI_RL T_L_law na_L_law (ca_L_law F) sw_L_law (sp_L_law F b L xs) cut_L_law N n) N 375 vs st M := X_run rfl
set_option maxRecDepth 100000 in
theorem sg_375 {F b : Nat} {K : xK} {i : Int32} {v6 : Option Value} {v5 : Option Value} {s0 : Int32} {s1 : Int32} {M : cM} : run T_L_law PI_RL false 1 (naL na_L_law) (caL (ca_L_law F)) (lkN []) (lkN sw_L_law) krX kxN (spL cut_L_law) K 60 375 [some (.retAddr b), some (.ref 0), some (.ref 570), some (.ref 632), some (.int i), v5, v6] [.int s0, .int s1, .ref 0] M = (K 376 [some (.retAddr b), some (.ref 0), some (.ref 570), some (.ref 632), some (.int i), v5, v6] [.ref 632, .int s0, .int s1, .ref 0] M) := rfl
theorem xs_376 {F b L : Nat} {xs : Nat → Int32} {N n : Nat} {vs : List (Option Value)} {st : List Value} {M : cM} : runX PI_RL T_L_law na_L_law (ca_L_law F) sw_L_law (sp_L_law F b L xs) cut_L_law N (n + 1) 376 vs st M = xWrap 4 (v_L_placeOf F) 379 vs st M (runX PI_RL T_L_law na_L_law (ca_L_law F) sw_L_law (sp_L_law F b L xs) cut_L_law N n) := X_sp rfl
theorem xw_placeOf {F : Nat} {K : xK} {vs : List (Option Value)} {a0 : Nat} {a1 : Int32} {a2 : Int32} {a3 : Nat} {M : cM} : xWrap 4 (v_L_placeOf F) 379 vs [.ref a3, .int a2, .int a1, .ref a0] M K = (f_L_placeOf F a0 a1 a2 a3 M).bind fun r => K 379 vs [.int r.1] r.2 := rfl
theorem xr_379 {F b L : Nat} {xs : Nat → Int32} {N n : Nat} {vs : List (Option Value)} {st : List Value} {M : cM} : runX PI_RL T_L_law na_L_law (ca_L_law F) sw_L_law (sp_L_law F b L xs) cut_L_law N (n + 1) 379 vs st M = run T_L_law PI_RL false 1 (naL na_L_law) (caL (ca_L_law F)) (lkN []) (lkN sw_L_law) krX kxN (spL cut_L_law) (runX PI_RL T_L_law na_L_law (ca_L_law F) sw_L_law (sp_L_law F b L xs) cut_L_law N n) N 379 vs st M := X_run rfl
set_option maxRecDepth 100000 in
theorem sg_379 {F b : Nat} {K : xK} {i : Int32} {v6 : Option Value} {v5 : Option Value} {s0 : Int32} {M : cM} : run T_L_law PI_RL false 1 (naL na_L_law) (caL (ca_L_law F)) (lkN []) (lkN sw_L_law) krX kxN (spL cut_L_law) K 60 379 [some (.retAddr b), some (.ref 0), some (.ref 570), some (.ref 632), some (.int i), v5, v6] [.int s0] M = (K 382 [some (.retAddr b), some (.ref 0), some (.ref 570), some (.ref 632), some (.int i), some (.int s0), v6] [.ref 570] M) := rfl
theorem xs_382 {F b L : Nat} {xs : Nat → Int32} {N n : Nat} {vs : List (Option Value)} {st : List Value} {M : cM} : runX PI_RL T_L_law na_L_law (ca_L_law F) sw_L_law (sp_L_law F b L xs) cut_L_law N (n + 1) 382 vs st M = xReadK b L xs 1 388 vs st M (runX PI_RL T_L_law na_L_law (ca_L_law F) sw_L_law (sp_L_law F b L xs) cut_L_law N n) := X_sp rfl
theorem xs_388 {F b L : Nat} {xs : Nat → Int32} {N n : Nat} {vs : List (Option Value)} {st : List Value} {M : cM} : runX PI_RL T_L_law na_L_law (ca_L_law F) sw_L_law (sp_L_law F b L xs) cut_L_law N (n + 1) 388 vs st M = xReadK b L xs 2 394 vs st M (runX PI_RL T_L_law na_L_law (ca_L_law F) sw_L_law (sp_L_law F b L xs) cut_L_law N n) := X_sp rfl
theorem xr_394 {F b L : Nat} {xs : Nat → Int32} {N n : Nat} {vs : List (Option Value)} {st : List Value} {M : cM} : runX PI_RL T_L_law na_L_law (ca_L_law F) sw_L_law (sp_L_law F b L xs) cut_L_law N (n + 1) 394 vs st M = run T_L_law PI_RL false 1 (naL na_L_law) (caL (ca_L_law F)) (lkN []) (lkN sw_L_law) krX kxN (spL cut_L_law) (runX PI_RL T_L_law na_L_law (ca_L_law F) sw_L_law (sp_L_law F b L xs) cut_L_law N n) N 394 vs st M := X_run rfl
set_option maxRecDepth 100000 in
theorem sg_394 {F b : Nat} {K : xK} {i : Int32} {v6 : Option Value} {w5 : Int32} {s0 : Int32} {s1 : Int32} {M : cM} : run T_L_law PI_RL false 1 (naL na_L_law) (caL (ca_L_law F)) (lkN []) (lkN sw_L_law) krX kxN (spL cut_L_law) K 60 394 [some (.retAddr b), some (.ref 0), some (.ref 570), some (.ref 632), some (.int i), some (.int w5), v6] [.int s0, .int s1, .ref 570] M = ((f_X12_placeOf F 570 s1 s0 M).bind fun r1 =>
  (f_X12_thrown F 570 r1.2).bind fun r2 =>
  if r2.1 = w5 then (if w5 = 0 then ((aJ r2.2 632 (0)).bind fun v3 =>
  if (lg_cmp v3 (r1.1).toInt64) = 0 then (K 25 [some (.retAddr b), some (.ref 0), some (.ref 570), some (.ref 632), some (.int (i + 7)), some (.int w5), some (.int r1.1)] [.int (i + 7)] r2.2) else (none)) else (K 25 [some (.retAddr b), some (.ref 0), some (.ref 570), some (.ref 632), some (.int (i + 7)), some (.int w5), some (.int r1.1)] [.int (i + 7)] r2.2)) else (none)) := rfl
-- placeOf: (f_X12_placeOf F 570 (xs (q + 1).toNat) (xs (q + 2).toNat) M1).bind fun r1 =>   (f_X12_thrown F 570 r1.2).bind fun r2 =>   if r2.1 = c then (if c = 0 then ((aJ r2.2 632 (0)).bind fun v3 =>   if (lg_cmp v3 (r1.1).toInt64) = 0 then (K 25 [some (.retAddr b), some (.ref 0), some (.ref 570), some (.ref 632), some (.int ((I q) + 7)), some (.int c), some (.int r1.1)] [.int ((I q) + 7)] r2.2) else (none)) else (K 25 [some (.retAddr b), some (.ref 0), some (.ref 570), some (.ref 632), some (.int ((I q) + 7)), some (.int c), some (.int r1.1)] [.int ((I q) + 7)] r2.2)) else (none)
theorem ends_placeOf {F b L : Nat} {xs : Nat → Int32} {k : Nat} {q : Int} {M : cM} (h0 : 0 ≤ q) (h1 : q + 7 ≤ L) (hL : L ≤ 3584) {c v : Int32} {M1 M2 M3 : cM} (hop : xs q.toNat &&& 31 = 4) (e1 : f_L_placeOf F 0 (((xs (q + 1).toNat))) (((xs (q + 2).toNat))) 632 M = some (c, M1)) (e2 : f_X12_placeOf F 570 (xs (q + 1).toNat) (xs (q + 2).toNat) M1 = some (v, M2)) (e3 : f_X12_thrown F 570 M2 = some (c, M3)) (e4 : (c = 0 → ∃ x, aJ M3 632 0 = some x ∧ lg_cmp x v.toInt64 = 0)) (h : Ends F b L xs k (q + 7) M3) : Ends F b L xs (k + 1) q M := by
  intro v5 v6
  obtain ⟨n, hn, r, hr⟩ := h (some (.int c)) (some (.int v))
  refine ⟨n + 12, by omega, r, ?_⟩
  rw [xs_25, xl_ok, xr_27]
  unfold lsX
  rw [sg_27, if_neg (h_cont h0 h1 hL)]
  rw [ls_eq, xs_33, x0_ok h0 h1 hL, xr_37]
  unfold lsX
  rw [sg_37, hop, if_neg (by decide), if_neg (by decide), if_neg (by decide), if_neg (by decide), if_pos rfl]
  try rw [ls_eq]
  rw [xs_363, xk_ok (j := 1) (v := 1) rfl h0 h1 hL (by decide) (by decide)]
  try rw [ls_eq]
  rw [xs_369, xk_ok (j := 2) (v := 2) rfl h0 h1 hL (by decide) (by decide)]
  rw [xr_375]
  try unfold lsX
  rw [sg_375]
  rw [xs_376, xw_placeOf, e1, Option.bind_some]
  rw [xr_379]
  try unfold lsX
  rw [sg_379]
  try rw [ls_eq]
  rw [xs_382, xk_ok (j := 1) (v := 1) rfl h0 h1 hL (by decide) (by decide)]
  try rw [ls_eq]
  rw [xs_388, xk_ok (j := 2) (v := 2) rfl h0 h1 hL (by decide) (by decide)]
  rw [xr_394]
  try unfold lsX
  rw [sg_394]
  rw [e2, Option.bind_some, e3, Option.bind_some, if_pos rfl]
  by_cases hc : c = 0
  · obtain ⟨x, e5, e6⟩ := e4 hc
    rw [if_pos hc, e5, Option.bind_some]
    rw [if_pos e6, ← hr, wr_q, wr_i]
  · rw [if_neg hc, ← hr, wr_q, wr_i]
theorem xs_431 {F b L : Nat} {xs : Nat → Int32} {N n : Nat} {vs : List (Option Value)} {st : List Value} {M : cM} : runX PI_RL T_L_law na_L_law (ca_L_law F) sw_L_law (sp_L_law F b L xs) cut_L_law N (n + 1) 431 vs st M = xReadK b L xs 1 437 vs st M (runX PI_RL T_L_law na_L_law (ca_L_law F) sw_L_law (sp_L_law F b L xs) cut_L_law N n) := X_sp rfl
theorem xs_437 {F b L : Nat} {xs : Nat → Int32} {N n : Nat} {vs : List (Option Value)} {st : List Value} {M : cM} : runX PI_RL T_L_law na_L_law (ca_L_law F) sw_L_law (sp_L_law F b L xs) cut_L_law N (n + 1) 437 vs st M = xReadK b L xs 2 443 vs st M (runX PI_RL T_L_law na_L_law (ca_L_law F) sw_L_law (sp_L_law F b L xs) cut_L_law N n) := X_sp rfl
theorem xr_443 {F b L : Nat} {xs : Nat → Int32} {N n : Nat} {vs : List (Option Value)} {st : List Value} {M : cM} : runX PI_RL T_L_law na_L_law (ca_L_law F) sw_L_law (sp_L_law F b L xs) cut_L_law N (n + 1) 443 vs st M = run T_L_law PI_RL false 1 (naL na_L_law) (caL (ca_L_law F)) (lkN []) (lkN sw_L_law) krX kxN (spL cut_L_law) (runX PI_RL T_L_law na_L_law (ca_L_law F) sw_L_law (sp_L_law F b L xs) cut_L_law N n) N 443 vs st M := X_run rfl
set_option maxRecDepth 100000 in
theorem sg_443 {F b : Nat} {K : xK} {i : Int32} {v6 : Option Value} {v5 : Option Value} {s0 : Int32} {s1 : Int32} {M : cM} : run T_L_law PI_RL false 1 (naL na_L_law) (caL (ca_L_law F)) (lkN []) (lkN sw_L_law) krX kxN (spL cut_L_law) K 60 443 [some (.retAddr b), some (.ref 0), some (.ref 570), some (.ref 632), some (.int i), v5, v6] [.int s0, .int s1, .ref 0] M = (K 444 [some (.retAddr b), some (.ref 0), some (.ref 570), some (.ref 632), some (.int i), v5, v6] [.ref 632, .int s0, .int s1, .ref 0] M) := rfl
theorem xs_444 {F b L : Nat} {xs : Nat → Int32} {N n : Nat} {vs : List (Option Value)} {st : List Value} {M : cM} : runX PI_RL T_L_law na_L_law (ca_L_law F) sw_L_law (sp_L_law F b L xs) cut_L_law N (n + 1) 444 vs st M = xWrap 4 (v_L_show F) 447 vs st M (runX PI_RL T_L_law na_L_law (ca_L_law F) sw_L_law (sp_L_law F b L xs) cut_L_law N n) := X_sp rfl
theorem xw_show {F : Nat} {K : xK} {vs : List (Option Value)} {a0 : Nat} {a1 : Int32} {a2 : Int32} {a3 : Nat} {M : cM} : xWrap 4 (v_L_show F) 447 vs [.ref a3, .int a2, .int a1, .ref a0] M K = (f_L_show F a0 a1 a2 a3 M).bind fun r => K 447 vs [.int r.1] r.2 := rfl
theorem xr_447 {F b L : Nat} {xs : Nat → Int32} {N n : Nat} {vs : List (Option Value)} {st : List Value} {M : cM} : runX PI_RL T_L_law na_L_law (ca_L_law F) sw_L_law (sp_L_law F b L xs) cut_L_law N (n + 1) 447 vs st M = run T_L_law PI_RL false 1 (naL na_L_law) (caL (ca_L_law F)) (lkN []) (lkN sw_L_law) krX kxN (spL cut_L_law) (runX PI_RL T_L_law na_L_law (ca_L_law F) sw_L_law (sp_L_law F b L xs) cut_L_law N n) N 447 vs st M := X_run rfl
set_option maxRecDepth 100000 in
theorem sg_447 {F b : Nat} {K : xK} {i : Int32} {v6 : Option Value} {v5 : Option Value} {s0 : Int32} {M : cM} : run T_L_law PI_RL false 1 (naL na_L_law) (caL (ca_L_law F)) (lkN []) (lkN sw_L_law) krX kxN (spL cut_L_law) K 60 447 [some (.retAddr b), some (.ref 0), some (.ref 570), some (.ref 632), some (.int i), v5, v6] [.int s0] M = (K 450 [some (.retAddr b), some (.ref 0), some (.ref 570), some (.ref 632), some (.int i), some (.int s0), v6] [.ref 570] M) := rfl
theorem xs_450 {F b L : Nat} {xs : Nat → Int32} {N n : Nat} {vs : List (Option Value)} {st : List Value} {M : cM} : runX PI_RL T_L_law na_L_law (ca_L_law F) sw_L_law (sp_L_law F b L xs) cut_L_law N (n + 1) 450 vs st M = xReadK b L xs 1 456 vs st M (runX PI_RL T_L_law na_L_law (ca_L_law F) sw_L_law (sp_L_law F b L xs) cut_L_law N n) := X_sp rfl
theorem xs_456 {F b L : Nat} {xs : Nat → Int32} {N n : Nat} {vs : List (Option Value)} {st : List Value} {M : cM} : runX PI_RL T_L_law na_L_law (ca_L_law F) sw_L_law (sp_L_law F b L xs) cut_L_law N (n + 1) 456 vs st M = xReadK b L xs 2 462 vs st M (runX PI_RL T_L_law na_L_law (ca_L_law F) sw_L_law (sp_L_law F b L xs) cut_L_law N n) := X_sp rfl
theorem xr_462 {F b L : Nat} {xs : Nat → Int32} {N n : Nat} {vs : List (Option Value)} {st : List Value} {M : cM} : runX PI_RL T_L_law na_L_law (ca_L_law F) sw_L_law (sp_L_law F b L xs) cut_L_law N (n + 1) 462 vs st M = run T_L_law PI_RL false 1 (naL na_L_law) (caL (ca_L_law F)) (lkN []) (lkN sw_L_law) krX kxN (spL cut_L_law) (runX PI_RL T_L_law na_L_law (ca_L_law F) sw_L_law (sp_L_law F b L xs) cut_L_law N n) N 462 vs st M := X_run rfl
set_option maxRecDepth 100000 in
theorem sg_462 {F b : Nat} {K : xK} {i : Int32} {v6 : Option Value} {w5 : Int32} {s0 : Int32} {s1 : Int32} {M : cM} : run T_L_law PI_RL false 1 (naL na_L_law) (caL (ca_L_law F)) (lkN []) (lkN sw_L_law) krX kxN (spL cut_L_law) K 60 462 [some (.retAddr b), some (.ref 0), some (.ref 570), some (.ref 632), some (.int i), some (.int w5), v6] [.int s0, .int s1, .ref 570] M = ((f_X12_show F 570 s1 s0 M).bind fun r1 =>
  (f_X12_thrown F 570 r1.2).bind fun r2 =>
  if r2.1 = w5 then (if w5 = 0 then ((aJ r2.2 632 (0)).bind fun v3 =>
  if (lg_cmp v3 (r1.1).toInt64) = 0 then (K 25 [some (.retAddr b), some (.ref 0), some (.ref 570), some (.ref 632), some (.int (i + 7)), some (.int w5), some (.int r1.1)] [.int (i + 7)] r2.2) else (none)) else (K 25 [some (.retAddr b), some (.ref 0), some (.ref 570), some (.ref 632), some (.int (i + 7)), some (.int w5), some (.int r1.1)] [.int (i + 7)] r2.2)) else (none)) := rfl
-- show: (f_X12_show F 570 (xs (q + 1).toNat) (xs (q + 2).toNat) M1).bind fun r1 =>   (f_X12_thrown F 570 r1.2).bind fun r2 =>   if r2.1 = c then (if c = 0 then ((aJ r2.2 632 (0)).bind fun v3 =>   if (lg_cmp v3 (r1.1).toInt64) = 0 then (K 25 [some (.retAddr b), some (.ref 0), some (.ref 570), some (.ref 632), some (.int ((I q) + 7)), some (.int c), some (.int r1.1)] [.int ((I q) + 7)] r2.2) else (none)) else (K 25 [some (.retAddr b), some (.ref 0), some (.ref 570), some (.ref 632), some (.int ((I q) + 7)), some (.int c), some (.int r1.1)] [.int ((I q) + 7)] r2.2)) else (none)
theorem ends_show {F b L : Nat} {xs : Nat → Int32} {k : Nat} {q : Int} {M : cM} (h0 : 0 ≤ q) (h1 : q + 7 ≤ L) (hL : L ≤ 3584) {c v : Int32} {M1 M2 M3 : cM} (hop : xs q.toNat &&& 31 = 5) (e1 : f_L_show F 0 (((xs (q + 1).toNat))) (((xs (q + 2).toNat))) 632 M = some (c, M1)) (e2 : f_X12_show F 570 (xs (q + 1).toNat) (xs (q + 2).toNat) M1 = some (v, M2)) (e3 : f_X12_thrown F 570 M2 = some (c, M3)) (e4 : (c = 0 → ∃ x, aJ M3 632 0 = some x ∧ lg_cmp x v.toInt64 = 0)) (h : Ends F b L xs k (q + 7) M3) : Ends F b L xs (k + 1) q M := by
  intro v5 v6
  obtain ⟨n, hn, r, hr⟩ := h (some (.int c)) (some (.int v))
  refine ⟨n + 12, by omega, r, ?_⟩
  rw [xs_25, xl_ok, xr_27]
  unfold lsX
  rw [sg_27, if_neg (h_cont h0 h1 hL)]
  rw [ls_eq, xs_33, x0_ok h0 h1 hL, xr_37]
  unfold lsX
  rw [sg_37, hop, if_neg (by decide), if_neg (by decide), if_neg (by decide), if_neg (by decide), if_neg (by decide), if_pos rfl]
  try rw [ls_eq]
  rw [xs_431, xk_ok (j := 1) (v := 1) rfl h0 h1 hL (by decide) (by decide)]
  try rw [ls_eq]
  rw [xs_437, xk_ok (j := 2) (v := 2) rfl h0 h1 hL (by decide) (by decide)]
  rw [xr_443]
  try unfold lsX
  rw [sg_443]
  rw [xs_444, xw_show, e1, Option.bind_some]
  rw [xr_447]
  try unfold lsX
  rw [sg_447]
  try rw [ls_eq]
  rw [xs_450, xk_ok (j := 1) (v := 1) rfl h0 h1 hL (by decide) (by decide)]
  try rw [ls_eq]
  rw [xs_456, xk_ok (j := 2) (v := 2) rfl h0 h1 hL (by decide) (by decide)]
  rw [xr_462]
  try unfold lsX
  rw [sg_462]
  rw [e2, Option.bind_some, e3, Option.bind_some, if_pos rfl]
  by_cases hc : c = 0
  · obtain ⟨x, e5, e6⟩ := e4 hc
    rw [if_pos hc, e5, Option.bind_some]
    rw [if_pos e6, ← hr, wr_q, wr_i]
  · rw [if_neg hc, ← hr, wr_q, wr_i]
theorem xs_499 {F b L : Nat} {xs : Nat → Int32} {N n : Nat} {vs : List (Option Value)} {st : List Value} {M : cM} : runX PI_RL T_L_law na_L_law (ca_L_law F) sw_L_law (sp_L_law F b L xs) cut_L_law N (n + 1) 499 vs st M = xReadK b L xs 1 505 vs st M (runX PI_RL T_L_law na_L_law (ca_L_law F) sw_L_law (sp_L_law F b L xs) cut_L_law N n) := X_sp rfl
theorem xs_505 {F b L : Nat} {xs : Nat → Int32} {N n : Nat} {vs : List (Option Value)} {st : List Value} {M : cM} : runX PI_RL T_L_law na_L_law (ca_L_law F) sw_L_law (sp_L_law F b L xs) cut_L_law N (n + 1) 505 vs st M = xReadK b L xs 2 511 vs st M (runX PI_RL T_L_law na_L_law (ca_L_law F) sw_L_law (sp_L_law F b L xs) cut_L_law N n) := X_sp rfl
theorem xr_511 {F b L : Nat} {xs : Nat → Int32} {N n : Nat} {vs : List (Option Value)} {st : List Value} {M : cM} : runX PI_RL T_L_law na_L_law (ca_L_law F) sw_L_law (sp_L_law F b L xs) cut_L_law N (n + 1) 511 vs st M = run T_L_law PI_RL false 1 (naL na_L_law) (caL (ca_L_law F)) (lkN []) (lkN sw_L_law) krX kxN (spL cut_L_law) (runX PI_RL T_L_law na_L_law (ca_L_law F) sw_L_law (sp_L_law F b L xs) cut_L_law N n) N 511 vs st M := X_run rfl
set_option maxRecDepth 100000 in
theorem sg_511 {F b : Nat} {K : xK} {i : Int32} {v6 : Option Value} {v5 : Option Value} {s0 : Int32} {s1 : Int32} {M : cM} : run T_L_law PI_RL false 1 (naL na_L_law) (caL (ca_L_law F)) (lkN []) (lkN sw_L_law) krX kxN (spL cut_L_law) K 60 511 [some (.retAddr b), some (.ref 0), some (.ref 570), some (.ref 632), some (.int i), v5, v6] [.int s0, .int s1, .ref 0] M = (K 512 [some (.retAddr b), some (.ref 0), some (.ref 570), some (.ref 632), some (.int i), v5, v6] [.ref 632, .int s0, .int s1, .ref 0] M) := rfl
theorem xs_512 {F b L : Nat} {xs : Nat → Int32} {N n : Nat} {vs : List (Option Value)} {st : List Value} {M : cM} : runX PI_RL T_L_law na_L_law (ca_L_law F) sw_L_law (sp_L_law F b L xs) cut_L_law N (n + 1) 512 vs st M = xWrap 4 (v_L_refuse F) 515 vs st M (runX PI_RL T_L_law na_L_law (ca_L_law F) sw_L_law (sp_L_law F b L xs) cut_L_law N n) := X_sp rfl
theorem xw_refuse {F : Nat} {K : xK} {vs : List (Option Value)} {a0 : Nat} {a1 : Int32} {a2 : Int32} {a3 : Nat} {M : cM} : xWrap 4 (v_L_refuse F) 515 vs [.ref a3, .int a2, .int a1, .ref a0] M K = (f_L_refuse F a0 a1 a2 a3 M).bind fun r => K 515 vs [.int r.1] r.2 := rfl
theorem xr_515 {F b L : Nat} {xs : Nat → Int32} {N n : Nat} {vs : List (Option Value)} {st : List Value} {M : cM} : runX PI_RL T_L_law na_L_law (ca_L_law F) sw_L_law (sp_L_law F b L xs) cut_L_law N (n + 1) 515 vs st M = run T_L_law PI_RL false 1 (naL na_L_law) (caL (ca_L_law F)) (lkN []) (lkN sw_L_law) krX kxN (spL cut_L_law) (runX PI_RL T_L_law na_L_law (ca_L_law F) sw_L_law (sp_L_law F b L xs) cut_L_law N n) N 515 vs st M := X_run rfl
set_option maxRecDepth 100000 in
theorem sg_515 {F b : Nat} {K : xK} {i : Int32} {v6 : Option Value} {v5 : Option Value} {s0 : Int32} {M : cM} : run T_L_law PI_RL false 1 (naL na_L_law) (caL (ca_L_law F)) (lkN []) (lkN sw_L_law) krX kxN (spL cut_L_law) K 60 515 [some (.retAddr b), some (.ref 0), some (.ref 570), some (.ref 632), some (.int i), v5, v6] [.int s0] M = (K 518 [some (.retAddr b), some (.ref 0), some (.ref 570), some (.ref 632), some (.int i), some (.int s0), v6] [.ref 570] M) := rfl
theorem xs_518 {F b L : Nat} {xs : Nat → Int32} {N n : Nat} {vs : List (Option Value)} {st : List Value} {M : cM} : runX PI_RL T_L_law na_L_law (ca_L_law F) sw_L_law (sp_L_law F b L xs) cut_L_law N (n + 1) 518 vs st M = xReadK b L xs 1 524 vs st M (runX PI_RL T_L_law na_L_law (ca_L_law F) sw_L_law (sp_L_law F b L xs) cut_L_law N n) := X_sp rfl
theorem xs_524 {F b L : Nat} {xs : Nat → Int32} {N n : Nat} {vs : List (Option Value)} {st : List Value} {M : cM} : runX PI_RL T_L_law na_L_law (ca_L_law F) sw_L_law (sp_L_law F b L xs) cut_L_law N (n + 1) 524 vs st M = xReadK b L xs 2 530 vs st M (runX PI_RL T_L_law na_L_law (ca_L_law F) sw_L_law (sp_L_law F b L xs) cut_L_law N n) := X_sp rfl
theorem xr_530 {F b L : Nat} {xs : Nat → Int32} {N n : Nat} {vs : List (Option Value)} {st : List Value} {M : cM} : runX PI_RL T_L_law na_L_law (ca_L_law F) sw_L_law (sp_L_law F b L xs) cut_L_law N (n + 1) 530 vs st M = run T_L_law PI_RL false 1 (naL na_L_law) (caL (ca_L_law F)) (lkN []) (lkN sw_L_law) krX kxN (spL cut_L_law) (runX PI_RL T_L_law na_L_law (ca_L_law F) sw_L_law (sp_L_law F b L xs) cut_L_law N n) N 530 vs st M := X_run rfl
set_option maxRecDepth 100000 in
theorem sg_530 {F b : Nat} {K : xK} {i : Int32} {v6 : Option Value} {w5 : Int32} {s0 : Int32} {s1 : Int32} {M : cM} : run T_L_law PI_RL false 1 (naL na_L_law) (caL (ca_L_law F)) (lkN []) (lkN sw_L_law) krX kxN (spL cut_L_law) K 60 530 [some (.retAddr b), some (.ref 0), some (.ref 570), some (.ref 632), some (.int i), some (.int w5), v6] [.int s0, .int s1, .ref 570] M = ((f_X12_refuse F 570 s1 s0 M).bind fun r1 =>
  (f_X12_thrown F 570 r1.2).bind fun r2 =>
  if r2.1 = w5 then (if w5 = 0 then ((aJ r2.2 632 (0)).bind fun v3 =>
  if (lg_cmp v3 (r1.1).toInt64) = 0 then (K 25 [some (.retAddr b), some (.ref 0), some (.ref 570), some (.ref 632), some (.int (i + 7)), some (.int w5), some (.int r1.1)] [.int (i + 7)] r2.2) else (none)) else (K 25 [some (.retAddr b), some (.ref 0), some (.ref 570), some (.ref 632), some (.int (i + 7)), some (.int w5), some (.int r1.1)] [.int (i + 7)] r2.2)) else (none)) := rfl
-- refuse: (f_X12_refuse F 570 (xs (q + 1).toNat) (xs (q + 2).toNat) M1).bind fun r1 =>   (f_X12_thrown F 570 r1.2).bind fun r2 =>   if r2.1 = c then (if c = 0 then ((aJ r2.2 632 (0)).bind fun v3 =>   if (lg_cmp v3 (r1.1).toInt64) = 0 then (K 25 [some (.retAddr b), some (.ref 0), some (.ref 570), some (.ref 632), some (.int ((I q) + 7)), some (.int c), some (.int r1.1)] [.int ((I q) + 7)] r2.2) else (none)) else (K 25 [some (.retAddr b), some (.ref 0), some (.ref 570), some (.ref 632), some (.int ((I q) + 7)), some (.int c), some (.int r1.1)] [.int ((I q) + 7)] r2.2)) else (none)
theorem ends_refuse {F b L : Nat} {xs : Nat → Int32} {k : Nat} {q : Int} {M : cM} (h0 : 0 ≤ q) (h1 : q + 7 ≤ L) (hL : L ≤ 3584) {c v : Int32} {M1 M2 M3 : cM} (hop : xs q.toNat &&& 31 = 6) (e1 : f_L_refuse F 0 (((xs (q + 1).toNat))) (((xs (q + 2).toNat))) 632 M = some (c, M1)) (e2 : f_X12_refuse F 570 (xs (q + 1).toNat) (xs (q + 2).toNat) M1 = some (v, M2)) (e3 : f_X12_thrown F 570 M2 = some (c, M3)) (e4 : (c = 0 → ∃ x, aJ M3 632 0 = some x ∧ lg_cmp x v.toInt64 = 0)) (h : Ends F b L xs k (q + 7) M3) : Ends F b L xs (k + 1) q M := by
  intro v5 v6
  obtain ⟨n, hn, r, hr⟩ := h (some (.int c)) (some (.int v))
  refine ⟨n + 12, by omega, r, ?_⟩
  rw [xs_25, xl_ok, xr_27]
  unfold lsX
  rw [sg_27, if_neg (h_cont h0 h1 hL)]
  rw [ls_eq, xs_33, x0_ok h0 h1 hL, xr_37]
  unfold lsX
  rw [sg_37, hop, if_neg (by decide), if_neg (by decide), if_neg (by decide), if_neg (by decide), if_neg (by decide), if_neg (by decide), if_pos rfl]
  try rw [ls_eq]
  rw [xs_499, xk_ok (j := 1) (v := 1) rfl h0 h1 hL (by decide) (by decide)]
  try rw [ls_eq]
  rw [xs_505, xk_ok (j := 2) (v := 2) rfl h0 h1 hL (by decide) (by decide)]
  rw [xr_511]
  try unfold lsX
  rw [sg_511]
  rw [xs_512, xw_refuse, e1, Option.bind_some]
  rw [xr_515]
  try unfold lsX
  rw [sg_515]
  try rw [ls_eq]
  rw [xs_518, xk_ok (j := 1) (v := 1) rfl h0 h1 hL (by decide) (by decide)]
  try rw [ls_eq]
  rw [xs_524, xk_ok (j := 2) (v := 2) rfl h0 h1 hL (by decide) (by decide)]
  rw [xr_530]
  try unfold lsX
  rw [sg_530]
  rw [e2, Option.bind_some, e3, Option.bind_some, if_pos rfl]
  by_cases hc : c = 0
  · obtain ⟨x, e5, e6⟩ := e4 hc
    rw [if_pos hc, e5, Option.bind_some]
    rw [if_pos e6, ← hr, wr_q, wr_i]
  · rw [if_neg hc, ← hr, wr_q, wr_i]
theorem xs_567 {F b L : Nat} {xs : Nat → Int32} {N n : Nat} {vs : List (Option Value)} {st : List Value} {M : cM} : runX PI_RL T_L_law na_L_law (ca_L_law F) sw_L_law (sp_L_law F b L xs) cut_L_law N (n + 1) 567 vs st M = xReadK b L xs 1 573 vs st M (runX PI_RL T_L_law na_L_law (ca_L_law F) sw_L_law (sp_L_law F b L xs) cut_L_law N n) := X_sp rfl
theorem xs_573 {F b L : Nat} {xs : Nat → Int32} {N n : Nat} {vs : List (Option Value)} {st : List Value} {M : cM} : runX PI_RL T_L_law na_L_law (ca_L_law F) sw_L_law (sp_L_law F b L xs) cut_L_law N (n + 1) 573 vs st M = xReadK b L xs 2 579 vs st M (runX PI_RL T_L_law na_L_law (ca_L_law F) sw_L_law (sp_L_law F b L xs) cut_L_law N n) := X_sp rfl
theorem xs_579 {F b L : Nat} {xs : Nat → Int32} {N n : Nat} {vs : List (Option Value)} {st : List Value} {M : cM} : runX PI_RL T_L_law na_L_law (ca_L_law F) sw_L_law (sp_L_law F b L xs) cut_L_law N (n + 1) 579 vs st M = xReadK b L xs 3 585 vs st M (runX PI_RL T_L_law na_L_law (ca_L_law F) sw_L_law (sp_L_law F b L xs) cut_L_law N n) := X_sp rfl
theorem xs_585 {F b L : Nat} {xs : Nat → Int32} {N n : Nat} {vs : List (Option Value)} {st : List Value} {M : cM} : runX PI_RL T_L_law na_L_law (ca_L_law F) sw_L_law (sp_L_law F b L xs) cut_L_law N (n + 1) 585 vs st M = xReadK b L xs 4 591 vs st M (runX PI_RL T_L_law na_L_law (ca_L_law F) sw_L_law (sp_L_law F b L xs) cut_L_law N n) := X_sp rfl
theorem xs_591 {F b L : Nat} {xs : Nat → Int32} {N n : Nat} {vs : List (Option Value)} {st : List Value} {M : cM} : runX PI_RL T_L_law na_L_law (ca_L_law F) sw_L_law (sp_L_law F b L xs) cut_L_law N (n + 1) 591 vs st M = xReadK b L xs 5 597 vs st M (runX PI_RL T_L_law na_L_law (ca_L_law F) sw_L_law (sp_L_law F b L xs) cut_L_law N n) := X_sp rfl
theorem xs_597 {F b L : Nat} {xs : Nat → Int32} {N n : Nat} {vs : List (Option Value)} {st : List Value} {M : cM} : runX PI_RL T_L_law na_L_law (ca_L_law F) sw_L_law (sp_L_law F b L xs) cut_L_law N (n + 1) 597 vs st M = xReadK b L xs 6 604 vs st M (runX PI_RL T_L_law na_L_law (ca_L_law F) sw_L_law (sp_L_law F b L xs) cut_L_law N n) := X_sp rfl
theorem xr_604 {F b L : Nat} {xs : Nat → Int32} {N n : Nat} {vs : List (Option Value)} {st : List Value} {M : cM} : runX PI_RL T_L_law na_L_law (ca_L_law F) sw_L_law (sp_L_law F b L xs) cut_L_law N (n + 1) 604 vs st M = run T_L_law PI_RL false 1 (naL na_L_law) (caL (ca_L_law F)) (lkN []) (lkN sw_L_law) krX kxN (spL cut_L_law) (runX PI_RL T_L_law na_L_law (ca_L_law F) sw_L_law (sp_L_law F b L xs) cut_L_law N n) N 604 vs st M := X_run rfl
set_option maxRecDepth 100000 in
theorem sg_604 {F b : Nat} {K : xK} {i : Int32} {v6 : Option Value} {v5 : Option Value} {s0 : Int32} {s1 : Int32} {s2 : Int32} {s3 : Int32} {s4 : Int32} {s5 : Int32} {M : cM} : run T_L_law PI_RL false 1 (naL na_L_law) (caL (ca_L_law F)) (lkN []) (lkN sw_L_law) krX kxN (spL cut_L_law) K 60 604 [some (.retAddr b), some (.ref 0), some (.ref 570), some (.ref 632), some (.int i), v5, v6] [.int s0, .int s1, .int s2, .int s3, .int s4, .int s5, .ref 0] M = (K 605 [some (.retAddr b), some (.ref 0), some (.ref 570), some (.ref 632), some (.int i), v5, v6] [.ref 632, .int s0, .int s1, .int s2, .int s3, .int s4, .int s5, .ref 0] M) := rfl
theorem xs_605 {F b L : Nat} {xs : Nat → Int32} {N n : Nat} {vs : List (Option Value)} {st : List Value} {M : cM} : runX PI_RL T_L_law na_L_law (ca_L_law F) sw_L_law (sp_L_law F b L xs) cut_L_law N (n + 1) 605 vs st M = xWrap 8 (v_L_pin F) 608 vs st M (runX PI_RL T_L_law na_L_law (ca_L_law F) sw_L_law (sp_L_law F b L xs) cut_L_law N n) := X_sp rfl
theorem xw_pin {F : Nat} {K : xK} {vs : List (Option Value)} {a0 : Nat} {a1 : Int32} {a2 : Int32} {a3 : Int32} {a4 : Int32} {a5 : Int32} {a6 : Int32} {a7 : Nat} {M : cM} : xWrap 8 (v_L_pin F) 608 vs [.ref a7, .int a6, .int a5, .int a4, .int a3, .int a2, .int a1, .ref a0] M K = (f_L_pin F a0 a1 a2 a3 a4 a5 a6 a7 M).bind fun r => K 608 vs [.int r.1] r.2 := rfl
theorem xr_608 {F b L : Nat} {xs : Nat → Int32} {N n : Nat} {vs : List (Option Value)} {st : List Value} {M : cM} : runX PI_RL T_L_law na_L_law (ca_L_law F) sw_L_law (sp_L_law F b L xs) cut_L_law N (n + 1) 608 vs st M = run T_L_law PI_RL false 1 (naL na_L_law) (caL (ca_L_law F)) (lkN []) (lkN sw_L_law) krX kxN (spL cut_L_law) (runX PI_RL T_L_law na_L_law (ca_L_law F) sw_L_law (sp_L_law F b L xs) cut_L_law N n) N 608 vs st M := X_run rfl
set_option maxRecDepth 100000 in
theorem sg_608 {F b : Nat} {K : xK} {i : Int32} {v6 : Option Value} {v5 : Option Value} {s0 : Int32} {M : cM} : run T_L_law PI_RL false 1 (naL na_L_law) (caL (ca_L_law F)) (lkN []) (lkN sw_L_law) krX kxN (spL cut_L_law) K 60 608 [some (.retAddr b), some (.ref 0), some (.ref 570), some (.ref 632), some (.int i), v5, v6] [.int s0] M = (K 611 [some (.retAddr b), some (.ref 0), some (.ref 570), some (.ref 632), some (.int i), some (.int s0), v6] [.ref 570] M) := rfl
theorem xs_611 {F b L : Nat} {xs : Nat → Int32} {N n : Nat} {vs : List (Option Value)} {st : List Value} {M : cM} : runX PI_RL T_L_law na_L_law (ca_L_law F) sw_L_law (sp_L_law F b L xs) cut_L_law N (n + 1) 611 vs st M = xReadK b L xs 1 617 vs st M (runX PI_RL T_L_law na_L_law (ca_L_law F) sw_L_law (sp_L_law F b L xs) cut_L_law N n) := X_sp rfl
theorem xs_617 {F b L : Nat} {xs : Nat → Int32} {N n : Nat} {vs : List (Option Value)} {st : List Value} {M : cM} : runX PI_RL T_L_law na_L_law (ca_L_law F) sw_L_law (sp_L_law F b L xs) cut_L_law N (n + 1) 617 vs st M = xReadK b L xs 2 623 vs st M (runX PI_RL T_L_law na_L_law (ca_L_law F) sw_L_law (sp_L_law F b L xs) cut_L_law N n) := X_sp rfl
theorem xs_623 {F b L : Nat} {xs : Nat → Int32} {N n : Nat} {vs : List (Option Value)} {st : List Value} {M : cM} : runX PI_RL T_L_law na_L_law (ca_L_law F) sw_L_law (sp_L_law F b L xs) cut_L_law N (n + 1) 623 vs st M = xReadK b L xs 3 629 vs st M (runX PI_RL T_L_law na_L_law (ca_L_law F) sw_L_law (sp_L_law F b L xs) cut_L_law N n) := X_sp rfl
theorem xs_629 {F b L : Nat} {xs : Nat → Int32} {N n : Nat} {vs : List (Option Value)} {st : List Value} {M : cM} : runX PI_RL T_L_law na_L_law (ca_L_law F) sw_L_law (sp_L_law F b L xs) cut_L_law N (n + 1) 629 vs st M = xReadK b L xs 4 635 vs st M (runX PI_RL T_L_law na_L_law (ca_L_law F) sw_L_law (sp_L_law F b L xs) cut_L_law N n) := X_sp rfl
theorem xs_635 {F b L : Nat} {xs : Nat → Int32} {N n : Nat} {vs : List (Option Value)} {st : List Value} {M : cM} : runX PI_RL T_L_law na_L_law (ca_L_law F) sw_L_law (sp_L_law F b L xs) cut_L_law N (n + 1) 635 vs st M = xReadK b L xs 5 641 vs st M (runX PI_RL T_L_law na_L_law (ca_L_law F) sw_L_law (sp_L_law F b L xs) cut_L_law N n) := X_sp rfl
theorem xs_641 {F b L : Nat} {xs : Nat → Int32} {N n : Nat} {vs : List (Option Value)} {st : List Value} {M : cM} : runX PI_RL T_L_law na_L_law (ca_L_law F) sw_L_law (sp_L_law F b L xs) cut_L_law N (n + 1) 641 vs st M = xReadK b L xs 6 648 vs st M (runX PI_RL T_L_law na_L_law (ca_L_law F) sw_L_law (sp_L_law F b L xs) cut_L_law N n) := X_sp rfl
theorem xr_648 {F b L : Nat} {xs : Nat → Int32} {N n : Nat} {vs : List (Option Value)} {st : List Value} {M : cM} : runX PI_RL T_L_law na_L_law (ca_L_law F) sw_L_law (sp_L_law F b L xs) cut_L_law N (n + 1) 648 vs st M = run T_L_law PI_RL false 1 (naL na_L_law) (caL (ca_L_law F)) (lkN []) (lkN sw_L_law) krX kxN (spL cut_L_law) (runX PI_RL T_L_law na_L_law (ca_L_law F) sw_L_law (sp_L_law F b L xs) cut_L_law N n) N 648 vs st M := X_run rfl
set_option maxRecDepth 100000 in
theorem sg_648 {F b : Nat} {K : xK} {i : Int32} {v6 : Option Value} {w5 : Int32} {s0 : Int32} {s1 : Int32} {s2 : Int32} {s3 : Int32} {s4 : Int32} {s5 : Int32} {M : cM} : run T_L_law PI_RL false 1 (naL na_L_law) (caL (ca_L_law F)) (lkN []) (lkN sw_L_law) krX kxN (spL cut_L_law) K 60 648 [some (.retAddr b), some (.ref 0), some (.ref 570), some (.ref 632), some (.int i), some (.int w5), v6] [.int s0, .int s1, .int s2, .int s3, .int s4, .int s5, .ref 570] M = ((f_X12_pin F 570 s5 s4 s3 s2 s1 s0 M).bind fun r1 =>
  (f_X12_thrown F 570 r1.2).bind fun r2 =>
  if r2.1 = w5 then (if w5 = 0 then ((aJ r2.2 632 (0)).bind fun v3 =>
  if (lg_cmp v3 (r1.1).toInt64) = 0 then (K 25 [some (.retAddr b), some (.ref 0), some (.ref 570), some (.ref 632), some (.int (i + 7)), some (.int w5), some (.int r1.1)] [.int (i + 7)] r2.2) else (none)) else (K 25 [some (.retAddr b), some (.ref 0), some (.ref 570), some (.ref 632), some (.int (i + 7)), some (.int w5), some (.int r1.1)] [.int (i + 7)] r2.2)) else (none)) := rfl
-- pin: (f_X12_pin F 570 (xs (q + 1).toNat) (xs (q + 2).toNat) (xs (q + 3).toNat) (xs (q + 4).toNat) (xs (q + 5).toNat) (xs (q + 6).toNat) M1).bind fun r1 =>   (f_X12_thrown F 570 r1.2).bind fun r2 =>   if r2.1 = c then (if c = 0 then ((aJ r2.2 632 (0)).bind fun v3 =>   if (lg_cmp v3 (r1.1).toInt64) = 0 then (K 25 [some (.retAddr b), some (.ref 0), some (.ref 570), some (.ref 632), some (.int ((I q) + 7)), some (.int c), some (.int r1.1)] [.int ((I q) + 7)] r2.2) else (none)) else (K 25 [some (.retAddr b), some (.ref 0), some (.ref 570), some (.ref 632), some (.int ((I q) + 7)), some (.int c), some (.
theorem ends_pin {F b L : Nat} {xs : Nat → Int32} {k : Nat} {q : Int} {M : cM} (h0 : 0 ≤ q) (h1 : q + 7 ≤ L) (hL : L ≤ 3584) {c v : Int32} {M1 M2 M3 : cM} (hop : xs q.toNat &&& 31 = 7) (e1 : f_L_pin F 0 (((xs (q + 1).toNat))) (((xs (q + 2).toNat))) (((xs (q + 3).toNat))) (((xs (q + 4).toNat))) (((xs (q + 5).toNat))) (((xs (q + 6).toNat))) 632 M = some (c, M1)) (e2 : f_X12_pin F 570 (xs (q + 1).toNat) (xs (q + 2).toNat) (xs (q + 3).toNat) (xs (q + 4).toNat) (xs (q + 5).toNat) (xs (q + 6).toNat) M1 = some (v, M2)) (e3 : f_X12_thrown F 570 M2 = some (c, M3)) (e4 : (c = 0 → ∃ x, aJ M3 632 0 = some x ∧ lg_cmp x v.toInt64 = 0)) (h : Ends F b L xs k (q + 7) M3) : Ends F b L xs (k + 1) q M := by
  intro v5 v6
  obtain ⟨n, hn, r, hr⟩ := h (some (.int c)) (some (.int v))
  refine ⟨n + 20, by omega, r, ?_⟩
  rw [xs_25, xl_ok, xr_27]
  unfold lsX
  rw [sg_27, if_neg (h_cont h0 h1 hL)]
  rw [ls_eq, xs_33, x0_ok h0 h1 hL, xr_37]
  unfold lsX
  rw [sg_37, hop, if_neg (by decide), if_neg (by decide), if_neg (by decide), if_neg (by decide), if_neg (by decide), if_neg (by decide), if_neg (by decide), if_pos rfl]
  try rw [ls_eq]
  rw [xs_567, xk_ok (j := 1) (v := 1) rfl h0 h1 hL (by decide) (by decide)]
  try rw [ls_eq]
  rw [xs_573, xk_ok (j := 2) (v := 2) rfl h0 h1 hL (by decide) (by decide)]
  try rw [ls_eq]
  rw [xs_579, xk_ok (j := 3) (v := 3) rfl h0 h1 hL (by decide) (by decide)]
  try rw [ls_eq]
  rw [xs_585, xk_ok (j := 4) (v := 4) rfl h0 h1 hL (by decide) (by decide)]
  try rw [ls_eq]
  rw [xs_591, xk_ok (j := 5) (v := 5) rfl h0 h1 hL (by decide) (by decide)]
  try rw [ls_eq]
  rw [xs_597, xk_ok (j := 6) (v := 6) rfl h0 h1 hL (by decide) (by decide)]
  rw [xr_604]
  try unfold lsX
  rw [sg_604]
  rw [xs_605, xw_pin, e1, Option.bind_some]
  rw [xr_608]
  try unfold lsX
  rw [sg_608]
  try rw [ls_eq]
  rw [xs_611, xk_ok (j := 1) (v := 1) rfl h0 h1 hL (by decide) (by decide)]
  try rw [ls_eq]
  rw [xs_617, xk_ok (j := 2) (v := 2) rfl h0 h1 hL (by decide) (by decide)]
  try rw [ls_eq]
  rw [xs_623, xk_ok (j := 3) (v := 3) rfl h0 h1 hL (by decide) (by decide)]
  try rw [ls_eq]
  rw [xs_629, xk_ok (j := 4) (v := 4) rfl h0 h1 hL (by decide) (by decide)]
  try rw [ls_eq]
  rw [xs_635, xk_ok (j := 5) (v := 5) rfl h0 h1 hL (by decide) (by decide)]
  try rw [ls_eq]
  rw [xs_641, xk_ok (j := 6) (v := 6) rfl h0 h1 hL (by decide) (by decide)]
  rw [xr_648]
  try unfold lsX
  rw [sg_648]
  rw [e2, Option.bind_some, e3, Option.bind_some, if_pos rfl]
  by_cases hc : c = 0
  · obtain ⟨x, e5, e6⟩ := e4 hc
    rw [if_pos hc, e5, Option.bind_some]
    rw [if_pos e6, ← hr, wr_q, wr_i]
  · rw [if_neg hc, ← hr, wr_q, wr_i]
theorem xs_685 {F b L : Nat} {xs : Nat → Int32} {N n : Nat} {vs : List (Option Value)} {st : List Value} {M : cM} : runX PI_RL T_L_law na_L_law (ca_L_law F) sw_L_law (sp_L_law F b L xs) cut_L_law N (n + 1) 685 vs st M = xReadK b L xs 1 691 vs st M (runX PI_RL T_L_law na_L_law (ca_L_law F) sw_L_law (sp_L_law F b L xs) cut_L_law N n) := X_sp rfl
theorem xr_691 {F b L : Nat} {xs : Nat → Int32} {N n : Nat} {vs : List (Option Value)} {st : List Value} {M : cM} : runX PI_RL T_L_law na_L_law (ca_L_law F) sw_L_law (sp_L_law F b L xs) cut_L_law N (n + 1) 691 vs st M = run T_L_law PI_RL false 1 (naL na_L_law) (caL (ca_L_law F)) (lkN []) (lkN sw_L_law) krX kxN (spL cut_L_law) (runX PI_RL T_L_law na_L_law (ca_L_law F) sw_L_law (sp_L_law F b L xs) cut_L_law N n) N 691 vs st M := X_run rfl
set_option maxRecDepth 100000 in
theorem sg_691 {F b : Nat} {K : xK} {i : Int32} {v6 : Option Value} {v5 : Option Value} {s0 : Int32} {M : cM} : run T_L_law PI_RL false 1 (naL na_L_law) (caL (ca_L_law F)) (lkN []) (lkN sw_L_law) krX kxN (spL cut_L_law) K 60 691 [some (.retAddr b), some (.ref 0), some (.ref 570), some (.ref 632), some (.int i), v5, v6] [.int s0, .ref 0] M = (K 692 [some (.retAddr b), some (.ref 0), some (.ref 570), some (.ref 632), some (.int i), v5, v6] [.ref 632, .int s0, .ref 0] M) := rfl
theorem xs_692 {F b L : Nat} {xs : Nat → Int32} {N n : Nat} {vs : List (Option Value)} {st : List Value} {M : cM} : runX PI_RL T_L_law na_L_law (ca_L_law F) sw_L_law (sp_L_law F b L xs) cut_L_law N (n + 1) 692 vs st M = xWrap 3 (v_L_learn F) 695 vs st M (runX PI_RL T_L_law na_L_law (ca_L_law F) sw_L_law (sp_L_law F b L xs) cut_L_law N n) := X_sp rfl
theorem xw_learn {F : Nat} {K : xK} {vs : List (Option Value)} {a0 : Nat} {a1 : Int32} {a2 : Nat} {M : cM} : xWrap 3 (v_L_learn F) 695 vs [.ref a2, .int a1, .ref a0] M K = (f_L_learn F a0 a1 a2 M).bind fun r => K 695 vs [.int r.1] r.2 := rfl
theorem xr_695 {F b L : Nat} {xs : Nat → Int32} {N n : Nat} {vs : List (Option Value)} {st : List Value} {M : cM} : runX PI_RL T_L_law na_L_law (ca_L_law F) sw_L_law (sp_L_law F b L xs) cut_L_law N (n + 1) 695 vs st M = run T_L_law PI_RL false 1 (naL na_L_law) (caL (ca_L_law F)) (lkN []) (lkN sw_L_law) krX kxN (spL cut_L_law) (runX PI_RL T_L_law na_L_law (ca_L_law F) sw_L_law (sp_L_law F b L xs) cut_L_law N n) N 695 vs st M := X_run rfl
set_option maxRecDepth 100000 in
theorem sg_695 {F b : Nat} {K : xK} {i : Int32} {v6 : Option Value} {v5 : Option Value} {s0 : Int32} {M : cM} : run T_L_law PI_RL false 1 (naL na_L_law) (caL (ca_L_law F)) (lkN []) (lkN sw_L_law) krX kxN (spL cut_L_law) K 60 695 [some (.retAddr b), some (.ref 0), some (.ref 570), some (.ref 632), some (.int i), v5, v6] [.int s0] M = (K 698 [some (.retAddr b), some (.ref 0), some (.ref 570), some (.ref 632), some (.int i), some (.int s0), v6] [.ref 570] M) := rfl
theorem xs_698 {F b L : Nat} {xs : Nat → Int32} {N n : Nat} {vs : List (Option Value)} {st : List Value} {M : cM} : runX PI_RL T_L_law na_L_law (ca_L_law F) sw_L_law (sp_L_law F b L xs) cut_L_law N (n + 1) 698 vs st M = xReadK b L xs 1 704 vs st M (runX PI_RL T_L_law na_L_law (ca_L_law F) sw_L_law (sp_L_law F b L xs) cut_L_law N n) := X_sp rfl
theorem xr_704 {F b L : Nat} {xs : Nat → Int32} {N n : Nat} {vs : List (Option Value)} {st : List Value} {M : cM} : runX PI_RL T_L_law na_L_law (ca_L_law F) sw_L_law (sp_L_law F b L xs) cut_L_law N (n + 1) 704 vs st M = run T_L_law PI_RL false 1 (naL na_L_law) (caL (ca_L_law F)) (lkN []) (lkN sw_L_law) krX kxN (spL cut_L_law) (runX PI_RL T_L_law na_L_law (ca_L_law F) sw_L_law (sp_L_law F b L xs) cut_L_law N n) N 704 vs st M := X_run rfl
set_option maxRecDepth 100000 in
theorem sg_704 {F b : Nat} {K : xK} {i : Int32} {v6 : Option Value} {w5 : Int32} {s0 : Int32} {M : cM} : run T_L_law PI_RL false 1 (naL na_L_law) (caL (ca_L_law F)) (lkN []) (lkN sw_L_law) krX kxN (spL cut_L_law) K 60 704 [some (.retAddr b), some (.ref 0), some (.ref 570), some (.ref 632), some (.int i), some (.int w5), v6] [.int s0, .ref 570] M = ((f_X12_learn F 570 s0 M).bind fun r1 =>
  (f_X12_thrown F 570 r1.2).bind fun r2 =>
  if r2.1 = w5 then (if w5 = 0 then ((aJ r2.2 632 (0)).bind fun v3 =>
  if (lg_cmp v3 (r1.1).toInt64) = 0 then (K 25 [some (.retAddr b), some (.ref 0), some (.ref 570), some (.ref 632), some (.int (i + 7)), some (.int w5), some (.int r1.1)] [.int (i + 7)] r2.2) else (none)) else (K 25 [some (.retAddr b), some (.ref 0), some (.ref 570), some (.ref 632), some (.int (i + 7)), some (.int w5), some (.int r1.1)] [.int (i + 7)] r2.2)) else (none)) := rfl
-- learn: (f_X12_learn F 570 (xs (q + 1).toNat) M1).bind fun r1 =>   (f_X12_thrown F 570 r1.2).bind fun r2 =>   if r2.1 = c then (if c = 0 then ((aJ r2.2 632 (0)).bind fun v3 =>   if (lg_cmp v3 (r1.1).toInt64) = 0 then (K 25 [some (.retAddr b), some (.ref 0), some (.ref 570), some (.ref 632), some (.int ((I q) + 7)), some (.int c), some (.int r1.1)] [.int ((I q) + 7)] r2.2) else (none)) else (K 25 [some (.retAddr b), some (.ref 0), some (.ref 570), some (.ref 632), some (.int ((I q) + 7)), some (.int c), some (.int r1.1)] [.int ((I q) + 7)] r2.2)) else (none)
theorem ends_learn {F b L : Nat} {xs : Nat → Int32} {k : Nat} {q : Int} {M : cM} (h0 : 0 ≤ q) (h1 : q + 7 ≤ L) (hL : L ≤ 3584) {c v : Int32} {M1 M2 M3 : cM} (hop : xs q.toNat &&& 31 = 8) (e1 : f_L_learn F 0 (((xs (q + 1).toNat))) 632 M = some (c, M1)) (e2 : f_X12_learn F 570 (xs (q + 1).toNat) M1 = some (v, M2)) (e3 : f_X12_thrown F 570 M2 = some (c, M3)) (e4 : (c = 0 → ∃ x, aJ M3 632 0 = some x ∧ lg_cmp x v.toInt64 = 0)) (h : Ends F b L xs k (q + 7) M3) : Ends F b L xs (k + 1) q M := by
  intro v5 v6
  obtain ⟨n, hn, r, hr⟩ := h (some (.int c)) (some (.int v))
  refine ⟨n + 10, by omega, r, ?_⟩
  rw [xs_25, xl_ok, xr_27]
  unfold lsX
  rw [sg_27, if_neg (h_cont h0 h1 hL)]
  rw [ls_eq, xs_33, x0_ok h0 h1 hL, xr_37]
  unfold lsX
  rw [sg_37, hop, if_neg (by decide), if_neg (by decide), if_neg (by decide), if_neg (by decide), if_neg (by decide), if_neg (by decide), if_neg (by decide), if_neg (by decide), if_pos rfl]
  try rw [ls_eq]
  rw [xs_685, xk_ok (j := 1) (v := 1) rfl h0 h1 hL (by decide) (by decide)]
  rw [xr_691]
  try unfold lsX
  rw [sg_691]
  rw [xs_692, xw_learn, e1, Option.bind_some]
  rw [xr_695]
  try unfold lsX
  rw [sg_695]
  try rw [ls_eq]
  rw [xs_698, xk_ok (j := 1) (v := 1) rfl h0 h1 hL (by decide) (by decide)]
  rw [xr_704]
  try unfold lsX
  rw [sg_704]
  rw [e2, Option.bind_some, e3, Option.bind_some, if_pos rfl]
  by_cases hc : c = 0
  · obtain ⟨x, e5, e6⟩ := e4 hc
    rw [if_pos hc, e5, Option.bind_some]
    rw [if_pos e6, ← hr, wr_q, wr_i]
  · rw [if_neg hc, ← hr, wr_q, wr_i]
theorem xs_741 {F b L : Nat} {xs : Nat → Int32} {N n : Nat} {vs : List (Option Value)} {st : List Value} {M : cM} : runX PI_RL T_L_law na_L_law (ca_L_law F) sw_L_law (sp_L_law F b L xs) cut_L_law N (n + 1) 741 vs st M = xReadK b L xs 1 747 vs st M (runX PI_RL T_L_law na_L_law (ca_L_law F) sw_L_law (sp_L_law F b L xs) cut_L_law N n) := X_sp rfl
theorem xr_747 {F b L : Nat} {xs : Nat → Int32} {N n : Nat} {vs : List (Option Value)} {st : List Value} {M : cM} : runX PI_RL T_L_law na_L_law (ca_L_law F) sw_L_law (sp_L_law F b L xs) cut_L_law N (n + 1) 747 vs st M = run T_L_law PI_RL false 1 (naL na_L_law) (caL (ca_L_law F)) (lkN []) (lkN sw_L_law) krX kxN (spL cut_L_law) (runX PI_RL T_L_law na_L_law (ca_L_law F) sw_L_law (sp_L_law F b L xs) cut_L_law N n) N 747 vs st M := X_run rfl
set_option maxRecDepth 100000 in
theorem sg_747 {F b : Nat} {K : xK} {i : Int32} {v6 : Option Value} {v5 : Option Value} {s0 : Int32} {M : cM} : run T_L_law PI_RL false 1 (naL na_L_law) (caL (ca_L_law F)) (lkN []) (lkN sw_L_law) krX kxN (spL cut_L_law) K 60 747 [some (.retAddr b), some (.ref 0), some (.ref 570), some (.ref 632), some (.int i), v5, v6] [.int s0, .ref 0] M = (K 748 [some (.retAddr b), some (.ref 0), some (.ref 570), some (.ref 632), some (.int i), v5, v6] [.ref 632, .int s0, .ref 0] M) := rfl
theorem xs_748 {F b L : Nat} {xs : Nat → Int32} {N n : Nat} {vs : List (Option Value)} {st : List Value} {M : cM} : runX PI_RL T_L_law na_L_law (ca_L_law F) sw_L_law (sp_L_law F b L xs) cut_L_law N (n + 1) 748 vs st M = xWrap 3 (v_L_count F) 751 vs st M (runX PI_RL T_L_law na_L_law (ca_L_law F) sw_L_law (sp_L_law F b L xs) cut_L_law N n) := X_sp rfl
theorem xw_count {F : Nat} {K : xK} {vs : List (Option Value)} {a0 : Nat} {a1 : Int32} {a2 : Nat} {M : cM} : xWrap 3 (v_L_count F) 751 vs [.ref a2, .int a1, .ref a0] M K = (f_L_count F a0 a1 a2 M).bind fun r => K 751 vs [.int r.1] r.2 := rfl
theorem xr_751 {F b L : Nat} {xs : Nat → Int32} {N n : Nat} {vs : List (Option Value)} {st : List Value} {M : cM} : runX PI_RL T_L_law na_L_law (ca_L_law F) sw_L_law (sp_L_law F b L xs) cut_L_law N (n + 1) 751 vs st M = run T_L_law PI_RL false 1 (naL na_L_law) (caL (ca_L_law F)) (lkN []) (lkN sw_L_law) krX kxN (spL cut_L_law) (runX PI_RL T_L_law na_L_law (ca_L_law F) sw_L_law (sp_L_law F b L xs) cut_L_law N n) N 751 vs st M := X_run rfl
set_option maxRecDepth 100000 in
theorem sg_751 {F b : Nat} {K : xK} {i : Int32} {v6 : Option Value} {v5 : Option Value} {s0 : Int32} {M : cM} : run T_L_law PI_RL false 1 (naL na_L_law) (caL (ca_L_law F)) (lkN []) (lkN sw_L_law) krX kxN (spL cut_L_law) K 60 751 [some (.retAddr b), some (.ref 0), some (.ref 570), some (.ref 632), some (.int i), v5, v6] [.int s0] M = (K 754 [some (.retAddr b), some (.ref 0), some (.ref 570), some (.ref 632), some (.int i), some (.int s0), v6] [.ref 570] M) := rfl
theorem xs_754 {F b L : Nat} {xs : Nat → Int32} {N n : Nat} {vs : List (Option Value)} {st : List Value} {M : cM} : runX PI_RL T_L_law na_L_law (ca_L_law F) sw_L_law (sp_L_law F b L xs) cut_L_law N (n + 1) 754 vs st M = xReadK b L xs 1 760 vs st M (runX PI_RL T_L_law na_L_law (ca_L_law F) sw_L_law (sp_L_law F b L xs) cut_L_law N n) := X_sp rfl
theorem xr_760 {F b L : Nat} {xs : Nat → Int32} {N n : Nat} {vs : List (Option Value)} {st : List Value} {M : cM} : runX PI_RL T_L_law na_L_law (ca_L_law F) sw_L_law (sp_L_law F b L xs) cut_L_law N (n + 1) 760 vs st M = run T_L_law PI_RL false 1 (naL na_L_law) (caL (ca_L_law F)) (lkN []) (lkN sw_L_law) krX kxN (spL cut_L_law) (runX PI_RL T_L_law na_L_law (ca_L_law F) sw_L_law (sp_L_law F b L xs) cut_L_law N n) N 760 vs st M := X_run rfl
set_option maxRecDepth 100000 in
theorem sg_760 {F b : Nat} {K : xK} {i : Int32} {v6 : Option Value} {w5 : Int32} {s0 : Int32} {M : cM} : run T_L_law PI_RL false 1 (naL na_L_law) (caL (ca_L_law F)) (lkN []) (lkN sw_L_law) krX kxN (spL cut_L_law) K 60 760 [some (.retAddr b), some (.ref 0), some (.ref 570), some (.ref 632), some (.int i), some (.int w5), v6] [.int s0, .ref 570] M = ((f_X12_count F 570 s0 M).bind fun r1 =>
  (f_X12_thrown F 570 r1.2).bind fun r2 =>
  if r2.1 = w5 then (if w5 = 0 then ((aJ r2.2 632 (0)).bind fun v3 =>
  if (lg_cmp v3 (r1.1).toInt64) = 0 then (K 25 [some (.retAddr b), some (.ref 0), some (.ref 570), some (.ref 632), some (.int (i + 7)), some (.int w5), some (.int r1.1)] [.int (i + 7)] r2.2) else (none)) else (K 25 [some (.retAddr b), some (.ref 0), some (.ref 570), some (.ref 632), some (.int (i + 7)), some (.int w5), some (.int r1.1)] [.int (i + 7)] r2.2)) else (none)) := rfl
-- count: (f_X12_count F 570 (xs (q + 1).toNat) M1).bind fun r1 =>   (f_X12_thrown F 570 r1.2).bind fun r2 =>   if r2.1 = c then (if c = 0 then ((aJ r2.2 632 (0)).bind fun v3 =>   if (lg_cmp v3 (r1.1).toInt64) = 0 then (K 25 [some (.retAddr b), some (.ref 0), some (.ref 570), some (.ref 632), some (.int ((I q) + 7)), some (.int c), some (.int r1.1)] [.int ((I q) + 7)] r2.2) else (none)) else (K 25 [some (.retAddr b), some (.ref 0), some (.ref 570), some (.ref 632), some (.int ((I q) + 7)), some (.int c), some (.int r1.1)] [.int ((I q) + 7)] r2.2)) else (none)
theorem ends_count {F b L : Nat} {xs : Nat → Int32} {k : Nat} {q : Int} {M : cM} (h0 : 0 ≤ q) (h1 : q + 7 ≤ L) (hL : L ≤ 3584) {c v : Int32} {M1 M2 M3 : cM} (hop : xs q.toNat &&& 31 = 9) (e1 : f_L_count F 0 (((xs (q + 1).toNat))) 632 M = some (c, M1)) (e2 : f_X12_count F 570 (xs (q + 1).toNat) M1 = some (v, M2)) (e3 : f_X12_thrown F 570 M2 = some (c, M3)) (e4 : (c = 0 → ∃ x, aJ M3 632 0 = some x ∧ lg_cmp x v.toInt64 = 0)) (h : Ends F b L xs k (q + 7) M3) : Ends F b L xs (k + 1) q M := by
  intro v5 v6
  obtain ⟨n, hn, r, hr⟩ := h (some (.int c)) (some (.int v))
  refine ⟨n + 10, by omega, r, ?_⟩
  rw [xs_25, xl_ok, xr_27]
  unfold lsX
  rw [sg_27, if_neg (h_cont h0 h1 hL)]
  rw [ls_eq, xs_33, x0_ok h0 h1 hL, xr_37]
  unfold lsX
  rw [sg_37, hop, if_neg (by decide), if_neg (by decide), if_neg (by decide), if_neg (by decide), if_neg (by decide), if_neg (by decide), if_neg (by decide), if_neg (by decide), if_neg (by decide), if_pos rfl]
  try rw [ls_eq]
  rw [xs_741, xk_ok (j := 1) (v := 1) rfl h0 h1 hL (by decide) (by decide)]
  rw [xr_747]
  try unfold lsX
  rw [sg_747]
  rw [xs_748, xw_count, e1, Option.bind_some]
  rw [xr_751]
  try unfold lsX
  rw [sg_751]
  try rw [ls_eq]
  rw [xs_754, xk_ok (j := 1) (v := 1) rfl h0 h1 hL (by decide) (by decide)]
  rw [xr_760]
  try unfold lsX
  rw [sg_760]
  rw [e2, Option.bind_some, e3, Option.bind_some, if_pos rfl]
  by_cases hc : c = 0
  · obtain ⟨x, e5, e6⟩ := e4 hc
    rw [if_pos hc, e5, Option.bind_some]
    rw [if_pos e6, ← hr, wr_q, wr_i]
  · rw [if_neg hc, ← hr, wr_q, wr_i]
theorem xs_797 {F b L : Nat} {xs : Nat → Int32} {N n : Nat} {vs : List (Option Value)} {st : List Value} {M : cM} : runX PI_RL T_L_law na_L_law (ca_L_law F) sw_L_law (sp_L_law F b L xs) cut_L_law N (n + 1) 797 vs st M = xReadK b L xs 1 803 vs st M (runX PI_RL T_L_law na_L_law (ca_L_law F) sw_L_law (sp_L_law F b L xs) cut_L_law N n) := X_sp rfl
theorem xs_803 {F b L : Nat} {xs : Nat → Int32} {N n : Nat} {vs : List (Option Value)} {st : List Value} {M : cM} : runX PI_RL T_L_law na_L_law (ca_L_law F) sw_L_law (sp_L_law F b L xs) cut_L_law N (n + 1) 803 vs st M = xReadK b L xs 2 809 vs st M (runX PI_RL T_L_law na_L_law (ca_L_law F) sw_L_law (sp_L_law F b L xs) cut_L_law N n) := X_sp rfl
theorem xr_809 {F b L : Nat} {xs : Nat → Int32} {N n : Nat} {vs : List (Option Value)} {st : List Value} {M : cM} : runX PI_RL T_L_law na_L_law (ca_L_law F) sw_L_law (sp_L_law F b L xs) cut_L_law N (n + 1) 809 vs st M = run T_L_law PI_RL false 1 (naL na_L_law) (caL (ca_L_law F)) (lkN []) (lkN sw_L_law) krX kxN (spL cut_L_law) (runX PI_RL T_L_law na_L_law (ca_L_law F) sw_L_law (sp_L_law F b L xs) cut_L_law N n) N 809 vs st M := X_run rfl
set_option maxRecDepth 100000 in
theorem sg_809 {F b : Nat} {K : xK} {i : Int32} {v6 : Option Value} {v5 : Option Value} {s0 : Int32} {s1 : Int32} {M : cM} : run T_L_law PI_RL false 1 (naL na_L_law) (caL (ca_L_law F)) (lkN []) (lkN sw_L_law) krX kxN (spL cut_L_law) K 60 809 [some (.retAddr b), some (.ref 0), some (.ref 570), some (.ref 632), some (.int i), v5, v6] [.int s0, .int s1, .ref 0] M = (K 810 [some (.retAddr b), some (.ref 0), some (.ref 570), some (.ref 632), some (.int i), v5, v6] [.ref 632, .int s0, .int s1, .ref 0] M) := rfl
theorem xs_810 {F b L : Nat} {xs : Nat → Int32} {N n : Nat} {vs : List (Option Value)} {st : List Value} {M : cM} : runX PI_RL T_L_law na_L_law (ca_L_law F) sw_L_law (sp_L_law F b L xs) cut_L_law N (n + 1) 810 vs st M = xWrap 4 (v_L_weight F) 813 vs st M (runX PI_RL T_L_law na_L_law (ca_L_law F) sw_L_law (sp_L_law F b L xs) cut_L_law N n) := X_sp rfl
theorem xw_weight {F : Nat} {K : xK} {vs : List (Option Value)} {a0 : Nat} {a1 : Int32} {a2 : Int32} {a3 : Nat} {M : cM} : xWrap 4 (v_L_weight F) 813 vs [.ref a3, .int a2, .int a1, .ref a0] M K = (f_L_weight F a0 a1 a2 a3 M).bind fun r => K 813 vs [.int r.1] r.2 := rfl
theorem xr_813 {F b L : Nat} {xs : Nat → Int32} {N n : Nat} {vs : List (Option Value)} {st : List Value} {M : cM} : runX PI_RL T_L_law na_L_law (ca_L_law F) sw_L_law (sp_L_law F b L xs) cut_L_law N (n + 1) 813 vs st M = run T_L_law PI_RL false 1 (naL na_L_law) (caL (ca_L_law F)) (lkN []) (lkN sw_L_law) krX kxN (spL cut_L_law) (runX PI_RL T_L_law na_L_law (ca_L_law F) sw_L_law (sp_L_law F b L xs) cut_L_law N n) N 813 vs st M := X_run rfl
set_option maxRecDepth 100000 in
theorem sg_813 {F b : Nat} {K : xK} {i : Int32} {v6 : Option Value} {v5 : Option Value} {s0 : Int32} {M : cM} : run T_L_law PI_RL false 1 (naL na_L_law) (caL (ca_L_law F)) (lkN []) (lkN sw_L_law) krX kxN (spL cut_L_law) K 60 813 [some (.retAddr b), some (.ref 0), some (.ref 570), some (.ref 632), some (.int i), v5, v6] [.int s0] M = (K 816 [some (.retAddr b), some (.ref 0), some (.ref 570), some (.ref 632), some (.int i), some (.int s0), v6] [.ref 570] M) := rfl
theorem xs_816 {F b L : Nat} {xs : Nat → Int32} {N n : Nat} {vs : List (Option Value)} {st : List Value} {M : cM} : runX PI_RL T_L_law na_L_law (ca_L_law F) sw_L_law (sp_L_law F b L xs) cut_L_law N (n + 1) 816 vs st M = xReadK b L xs 1 822 vs st M (runX PI_RL T_L_law na_L_law (ca_L_law F) sw_L_law (sp_L_law F b L xs) cut_L_law N n) := X_sp rfl
theorem xs_822 {F b L : Nat} {xs : Nat → Int32} {N n : Nat} {vs : List (Option Value)} {st : List Value} {M : cM} : runX PI_RL T_L_law na_L_law (ca_L_law F) sw_L_law (sp_L_law F b L xs) cut_L_law N (n + 1) 822 vs st M = xReadK b L xs 2 828 vs st M (runX PI_RL T_L_law na_L_law (ca_L_law F) sw_L_law (sp_L_law F b L xs) cut_L_law N n) := X_sp rfl
theorem xr_828 {F b L : Nat} {xs : Nat → Int32} {N n : Nat} {vs : List (Option Value)} {st : List Value} {M : cM} : runX PI_RL T_L_law na_L_law (ca_L_law F) sw_L_law (sp_L_law F b L xs) cut_L_law N (n + 1) 828 vs st M = run T_L_law PI_RL false 1 (naL na_L_law) (caL (ca_L_law F)) (lkN []) (lkN sw_L_law) krX kxN (spL cut_L_law) (runX PI_RL T_L_law na_L_law (ca_L_law F) sw_L_law (sp_L_law F b L xs) cut_L_law N n) N 828 vs st M := X_run rfl
set_option maxRecDepth 100000 in
theorem sg_828 {F b : Nat} {K : xK} {i : Int32} {v6 : Option Value} {w5 : Int32} {s0 : Int32} {s1 : Int32} {M : cM} : run T_L_law PI_RL false 1 (naL na_L_law) (caL (ca_L_law F)) (lkN []) (lkN sw_L_law) krX kxN (spL cut_L_law) K 60 828 [some (.retAddr b), some (.ref 0), some (.ref 570), some (.ref 632), some (.int i), some (.int w5), v6] [.int s0, .int s1, .ref 570] M = ((f_X12_weight F 570 s1 s0 M).bind fun r1 =>
  (f_X12_thrown F 570 r1.2).bind fun r2 =>
  if r2.1 = w5 then (if w5 = 0 then ((aJ r2.2 632 (0)).bind fun v3 =>
  if (lg_cmp v3 (r1.1).toInt64) = 0 then (K 25 [some (.retAddr b), some (.ref 0), some (.ref 570), some (.ref 632), some (.int (i + 7)), some (.int w5), some (.int r1.1)] [.int (i + 7)] r2.2) else (none)) else (K 25 [some (.retAddr b), some (.ref 0), some (.ref 570), some (.ref 632), some (.int (i + 7)), some (.int w5), some (.int r1.1)] [.int (i + 7)] r2.2)) else (none)) := rfl
-- weight: (f_X12_weight F 570 (xs (q + 1).toNat) (xs (q + 2).toNat) M1).bind fun r1 =>   (f_X12_thrown F 570 r1.2).bind fun r2 =>   if r2.1 = c then (if c = 0 then ((aJ r2.2 632 (0)).bind fun v3 =>   if (lg_cmp v3 (r1.1).toInt64) = 0 then (K 25 [some (.retAddr b), some (.ref 0), some (.ref 570), some (.ref 632), some (.int ((I q) + 7)), some (.int c), some (.int r1.1)] [.int ((I q) + 7)] r2.2) else (none)) else (K 25 [some (.retAddr b), some (.ref 0), some (.ref 570), some (.ref 632), some (.int ((I q) + 7)), some (.int c), some (.int r1.1)] [.int ((I q) + 7)] r2.2)) else (none)
theorem ends_weight {F b L : Nat} {xs : Nat → Int32} {k : Nat} {q : Int} {M : cM} (h0 : 0 ≤ q) (h1 : q + 7 ≤ L) (hL : L ≤ 3584) {c v : Int32} {M1 M2 M3 : cM} (hop : xs q.toNat &&& 31 = 10) (e1 : f_L_weight F 0 (((xs (q + 1).toNat))) (((xs (q + 2).toNat))) 632 M = some (c, M1)) (e2 : f_X12_weight F 570 (xs (q + 1).toNat) (xs (q + 2).toNat) M1 = some (v, M2)) (e3 : f_X12_thrown F 570 M2 = some (c, M3)) (e4 : (c = 0 → ∃ x, aJ M3 632 0 = some x ∧ lg_cmp x v.toInt64 = 0)) (h : Ends F b L xs k (q + 7) M3) : Ends F b L xs (k + 1) q M := by
  intro v5 v6
  obtain ⟨n, hn, r, hr⟩ := h (some (.int c)) (some (.int v))
  refine ⟨n + 12, by omega, r, ?_⟩
  rw [xs_25, xl_ok, xr_27]
  unfold lsX
  rw [sg_27, if_neg (h_cont h0 h1 hL)]
  rw [ls_eq, xs_33, x0_ok h0 h1 hL, xr_37]
  unfold lsX
  rw [sg_37, hop, if_neg (by decide), if_neg (by decide), if_neg (by decide), if_neg (by decide), if_neg (by decide), if_neg (by decide), if_neg (by decide), if_neg (by decide), if_neg (by decide), if_neg (by decide), if_pos rfl]
  try rw [ls_eq]
  rw [xs_797, xk_ok (j := 1) (v := 1) rfl h0 h1 hL (by decide) (by decide)]
  try rw [ls_eq]
  rw [xs_803, xk_ok (j := 2) (v := 2) rfl h0 h1 hL (by decide) (by decide)]
  rw [xr_809]
  try unfold lsX
  rw [sg_809]
  rw [xs_810, xw_weight, e1, Option.bind_some]
  rw [xr_813]
  try unfold lsX
  rw [sg_813]
  try rw [ls_eq]
  rw [xs_816, xk_ok (j := 1) (v := 1) rfl h0 h1 hL (by decide) (by decide)]
  try rw [ls_eq]
  rw [xs_822, xk_ok (j := 2) (v := 2) rfl h0 h1 hL (by decide) (by decide)]
  rw [xr_828]
  try unfold lsX
  rw [sg_828]
  rw [e2, Option.bind_some, e3, Option.bind_some, if_pos rfl]
  by_cases hc : c = 0
  · obtain ⟨x, e5, e6⟩ := e4 hc
    rw [if_pos hc, e5, Option.bind_some]
    rw [if_pos e6, ← hr, wr_q, wr_i]
  · rw [if_neg hc, ← hr, wr_q, wr_i]
theorem xs_865 {F b L : Nat} {xs : Nat → Int32} {N n : Nat} {vs : List (Option Value)} {st : List Value} {M : cM} : runX PI_RL T_L_law na_L_law (ca_L_law F) sw_L_law (sp_L_law F b L xs) cut_L_law N (n + 1) 865 vs st M = xReadK b L xs 1 871 vs st M (runX PI_RL T_L_law na_L_law (ca_L_law F) sw_L_law (sp_L_law F b L xs) cut_L_law N n) := X_sp rfl
theorem xr_871 {F b L : Nat} {xs : Nat → Int32} {N n : Nat} {vs : List (Option Value)} {st : List Value} {M : cM} : runX PI_RL T_L_law na_L_law (ca_L_law F) sw_L_law (sp_L_law F b L xs) cut_L_law N (n + 1) 871 vs st M = run T_L_law PI_RL false 1 (naL na_L_law) (caL (ca_L_law F)) (lkN []) (lkN sw_L_law) krX kxN (spL cut_L_law) (runX PI_RL T_L_law na_L_law (ca_L_law F) sw_L_law (sp_L_law F b L xs) cut_L_law N n) N 871 vs st M := X_run rfl
set_option maxRecDepth 100000 in
theorem sg_871 {F b : Nat} {K : xK} {i : Int32} {v6 : Option Value} {v5 : Option Value} {s0 : Int32} {M : cM} : run T_L_law PI_RL false 1 (naL na_L_law) (caL (ca_L_law F)) (lkN []) (lkN sw_L_law) krX kxN (spL cut_L_law) K 60 871 [some (.retAddr b), some (.ref 0), some (.ref 570), some (.ref 632), some (.int i), v5, v6] [.int s0, .ref 0] M = (K 872 [some (.retAddr b), some (.ref 0), some (.ref 570), some (.ref 632), some (.int i), v5, v6] [.ref 632, .int s0, .ref 0] M) := rfl
theorem xs_872 {F b L : Nat} {xs : Nat → Int32} {N n : Nat} {vs : List (Option Value)} {st : List Value} {M : cM} : runX PI_RL T_L_law na_L_law (ca_L_law F) sw_L_law (sp_L_law F b L xs) cut_L_law N (n + 1) 872 vs st M = xWrap 3 (v_L_question F) 875 vs st M (runX PI_RL T_L_law na_L_law (ca_L_law F) sw_L_law (sp_L_law F b L xs) cut_L_law N n) := X_sp rfl
theorem xw_question {F : Nat} {K : xK} {vs : List (Option Value)} {a0 : Nat} {a1 : Int32} {a2 : Nat} {M : cM} : xWrap 3 (v_L_question F) 875 vs [.ref a2, .int a1, .ref a0] M K = (f_L_question F a0 a1 a2 M).bind fun r => K 875 vs [.int r.1] r.2 := rfl
theorem xr_875 {F b L : Nat} {xs : Nat → Int32} {N n : Nat} {vs : List (Option Value)} {st : List Value} {M : cM} : runX PI_RL T_L_law na_L_law (ca_L_law F) sw_L_law (sp_L_law F b L xs) cut_L_law N (n + 1) 875 vs st M = run T_L_law PI_RL false 1 (naL na_L_law) (caL (ca_L_law F)) (lkN []) (lkN sw_L_law) krX kxN (spL cut_L_law) (runX PI_RL T_L_law na_L_law (ca_L_law F) sw_L_law (sp_L_law F b L xs) cut_L_law N n) N 875 vs st M := X_run rfl
set_option maxRecDepth 100000 in
theorem sg_875 {F b : Nat} {K : xK} {i : Int32} {v6 : Option Value} {v5 : Option Value} {s0 : Int32} {M : cM} : run T_L_law PI_RL false 1 (naL na_L_law) (caL (ca_L_law F)) (lkN []) (lkN sw_L_law) krX kxN (spL cut_L_law) K 60 875 [some (.retAddr b), some (.ref 0), some (.ref 570), some (.ref 632), some (.int i), v5, v6] [.int s0] M = (K 878 [some (.retAddr b), some (.ref 0), some (.ref 570), some (.ref 632), some (.int i), some (.int s0), v6] [.ref 570] M) := rfl
theorem xs_878 {F b L : Nat} {xs : Nat → Int32} {N n : Nat} {vs : List (Option Value)} {st : List Value} {M : cM} : runX PI_RL T_L_law na_L_law (ca_L_law F) sw_L_law (sp_L_law F b L xs) cut_L_law N (n + 1) 878 vs st M = xReadK b L xs 1 884 vs st M (runX PI_RL T_L_law na_L_law (ca_L_law F) sw_L_law (sp_L_law F b L xs) cut_L_law N n) := X_sp rfl
theorem xr_884 {F b L : Nat} {xs : Nat → Int32} {N n : Nat} {vs : List (Option Value)} {st : List Value} {M : cM} : runX PI_RL T_L_law na_L_law (ca_L_law F) sw_L_law (sp_L_law F b L xs) cut_L_law N (n + 1) 884 vs st M = run T_L_law PI_RL false 1 (naL na_L_law) (caL (ca_L_law F)) (lkN []) (lkN sw_L_law) krX kxN (spL cut_L_law) (runX PI_RL T_L_law na_L_law (ca_L_law F) sw_L_law (sp_L_law F b L xs) cut_L_law N n) N 884 vs st M := X_run rfl
set_option maxRecDepth 100000 in
theorem sg_884 {F b : Nat} {K : xK} {i : Int32} {v6 : Option Value} {w5 : Int32} {s0 : Int32} {M : cM} : run T_L_law PI_RL false 1 (naL na_L_law) (caL (ca_L_law F)) (lkN []) (lkN sw_L_law) krX kxN (spL cut_L_law) K 60 884 [some (.retAddr b), some (.ref 0), some (.ref 570), some (.ref 632), some (.int i), some (.int w5), v6] [.int s0, .ref 570] M = ((f_X12_question F 570 s0 M).bind fun r1 =>
  (f_X12_thrown F 570 r1.2).bind fun r2 =>
  if r2.1 = w5 then (if w5 = 0 then ((aJ r2.2 632 (0)).bind fun v3 =>
  if (lg_cmp v3 (r1.1).toInt64) = 0 then (K 25 [some (.retAddr b), some (.ref 0), some (.ref 570), some (.ref 632), some (.int (i + 7)), some (.int w5), some (.int r1.1)] [.int (i + 7)] r2.2) else (none)) else (K 25 [some (.retAddr b), some (.ref 0), some (.ref 570), some (.ref 632), some (.int (i + 7)), some (.int w5), some (.int r1.1)] [.int (i + 7)] r2.2)) else (none)) := rfl
-- question: (f_X12_question F 570 (xs (q + 1).toNat) M1).bind fun r1 =>   (f_X12_thrown F 570 r1.2).bind fun r2 =>   if r2.1 = c then (if c = 0 then ((aJ r2.2 632 (0)).bind fun v3 =>   if (lg_cmp v3 (r1.1).toInt64) = 0 then (K 25 [some (.retAddr b), some (.ref 0), some (.ref 570), some (.ref 632), some (.int ((I q) + 7)), some (.int c), some (.int r1.1)] [.int ((I q) + 7)] r2.2) else (none)) else (K 25 [some (.retAddr b), some (.ref 0), some (.ref 570), some (.ref 632), some (.int ((I q) + 7)), some (.int c), some (.int r1.1)] [.int ((I q) + 7)] r2.2)) else (none)
theorem ends_question {F b L : Nat} {xs : Nat → Int32} {k : Nat} {q : Int} {M : cM} (h0 : 0 ≤ q) (h1 : q + 7 ≤ L) (hL : L ≤ 3584) {c v : Int32} {M1 M2 M3 : cM} (hop : xs q.toNat &&& 31 = 11) (e1 : f_L_question F 0 (((xs (q + 1).toNat))) 632 M = some (c, M1)) (e2 : f_X12_question F 570 (xs (q + 1).toNat) M1 = some (v, M2)) (e3 : f_X12_thrown F 570 M2 = some (c, M3)) (e4 : (c = 0 → ∃ x, aJ M3 632 0 = some x ∧ lg_cmp x v.toInt64 = 0)) (h : Ends F b L xs k (q + 7) M3) : Ends F b L xs (k + 1) q M := by
  intro v5 v6
  obtain ⟨n, hn, r, hr⟩ := h (some (.int c)) (some (.int v))
  refine ⟨n + 10, by omega, r, ?_⟩
  rw [xs_25, xl_ok, xr_27]
  unfold lsX
  rw [sg_27, if_neg (h_cont h0 h1 hL)]
  rw [ls_eq, xs_33, x0_ok h0 h1 hL, xr_37]
  unfold lsX
  rw [sg_37, hop, if_neg (by decide), if_neg (by decide), if_neg (by decide), if_neg (by decide), if_neg (by decide), if_neg (by decide), if_neg (by decide), if_neg (by decide), if_neg (by decide), if_neg (by decide), if_neg (by decide), if_pos rfl]
  try rw [ls_eq]
  rw [xs_865, xk_ok (j := 1) (v := 1) rfl h0 h1 hL (by decide) (by decide)]
  rw [xr_871]
  try unfold lsX
  rw [sg_871]
  rw [xs_872, xw_question, e1, Option.bind_some]
  rw [xr_875]
  try unfold lsX
  rw [sg_875]
  try rw [ls_eq]
  rw [xs_878, xk_ok (j := 1) (v := 1) rfl h0 h1 hL (by decide) (by decide)]
  rw [xr_884]
  try unfold lsX
  rw [sg_884]
  rw [e2, Option.bind_some, e3, Option.bind_some, if_pos rfl]
  by_cases hc : c = 0
  · obtain ⟨x, e5, e6⟩ := e4 hc
    rw [if_pos hc, e5, Option.bind_some]
    rw [if_pos e6, ← hr, wr_q, wr_i]
  · rw [if_neg hc, ← hr, wr_q, wr_i]
theorem xs_921 {F b L : Nat} {xs : Nat → Int32} {N n : Nat} {vs : List (Option Value)} {st : List Value} {M : cM} : runX PI_RL T_L_law na_L_law (ca_L_law F) sw_L_law (sp_L_law F b L xs) cut_L_law N (n + 1) 921 vs st M = xReadK b L xs 1 927 vs st M (runX PI_RL T_L_law na_L_law (ca_L_law F) sw_L_law (sp_L_law F b L xs) cut_L_law N n) := X_sp rfl
theorem xr_927 {F b L : Nat} {xs : Nat → Int32} {N n : Nat} {vs : List (Option Value)} {st : List Value} {M : cM} : runX PI_RL T_L_law na_L_law (ca_L_law F) sw_L_law (sp_L_law F b L xs) cut_L_law N (n + 1) 927 vs st M = run T_L_law PI_RL false 1 (naL na_L_law) (caL (ca_L_law F)) (lkN []) (lkN sw_L_law) krX kxN (spL cut_L_law) (runX PI_RL T_L_law na_L_law (ca_L_law F) sw_L_law (sp_L_law F b L xs) cut_L_law N n) N 927 vs st M := X_run rfl
set_option maxRecDepth 100000 in
theorem sg_927 {F b : Nat} {K : xK} {i : Int32} {v6 : Option Value} {v5 : Option Value} {s0 : Int32} {M : cM} : run T_L_law PI_RL false 1 (naL na_L_law) (caL (ca_L_law F)) (lkN []) (lkN sw_L_law) krX kxN (spL cut_L_law) K 60 927 [some (.retAddr b), some (.ref 0), some (.ref 570), some (.ref 632), some (.int i), v5, v6] [.int s0, .ref 0] M = (K 928 [some (.retAddr b), some (.ref 0), some (.ref 570), some (.ref 632), some (.int i), v5, v6] [.ref 632, .int s0, .ref 0] M) := rfl
theorem xs_928 {F b L : Nat} {xs : Nat → Int32} {N n : Nat} {vs : List (Option Value)} {st : List Value} {M : cM} : runX PI_RL T_L_law na_L_law (ca_L_law F) sw_L_law (sp_L_law F b L xs) cut_L_law N (n + 1) 928 vs st M = xWrap 3 (v_L_condition F) 931 vs st M (runX PI_RL T_L_law na_L_law (ca_L_law F) sw_L_law (sp_L_law F b L xs) cut_L_law N n) := X_sp rfl
theorem xw_condition {F : Nat} {K : xK} {vs : List (Option Value)} {a0 : Nat} {a1 : Int32} {a2 : Nat} {M : cM} : xWrap 3 (v_L_condition F) 931 vs [.ref a2, .int a1, .ref a0] M K = (f_L_condition F a0 a1 a2 M).bind fun r => K 931 vs [.int r.1] r.2 := rfl
theorem xr_931 {F b L : Nat} {xs : Nat → Int32} {N n : Nat} {vs : List (Option Value)} {st : List Value} {M : cM} : runX PI_RL T_L_law na_L_law (ca_L_law F) sw_L_law (sp_L_law F b L xs) cut_L_law N (n + 1) 931 vs st M = run T_L_law PI_RL false 1 (naL na_L_law) (caL (ca_L_law F)) (lkN []) (lkN sw_L_law) krX kxN (spL cut_L_law) (runX PI_RL T_L_law na_L_law (ca_L_law F) sw_L_law (sp_L_law F b L xs) cut_L_law N n) N 931 vs st M := X_run rfl
set_option maxRecDepth 100000 in
theorem sg_931 {F b : Nat} {K : xK} {i : Int32} {v6 : Option Value} {v5 : Option Value} {s0 : Int32} {M : cM} : run T_L_law PI_RL false 1 (naL na_L_law) (caL (ca_L_law F)) (lkN []) (lkN sw_L_law) krX kxN (spL cut_L_law) K 60 931 [some (.retAddr b), some (.ref 0), some (.ref 570), some (.ref 632), some (.int i), v5, v6] [.int s0] M = (K 934 [some (.retAddr b), some (.ref 0), some (.ref 570), some (.ref 632), some (.int i), some (.int s0), v6] [.ref 570] M) := rfl
theorem xs_934 {F b L : Nat} {xs : Nat → Int32} {N n : Nat} {vs : List (Option Value)} {st : List Value} {M : cM} : runX PI_RL T_L_law na_L_law (ca_L_law F) sw_L_law (sp_L_law F b L xs) cut_L_law N (n + 1) 934 vs st M = xReadK b L xs 1 940 vs st M (runX PI_RL T_L_law na_L_law (ca_L_law F) sw_L_law (sp_L_law F b L xs) cut_L_law N n) := X_sp rfl
theorem xr_940 {F b L : Nat} {xs : Nat → Int32} {N n : Nat} {vs : List (Option Value)} {st : List Value} {M : cM} : runX PI_RL T_L_law na_L_law (ca_L_law F) sw_L_law (sp_L_law F b L xs) cut_L_law N (n + 1) 940 vs st M = run T_L_law PI_RL false 1 (naL na_L_law) (caL (ca_L_law F)) (lkN []) (lkN sw_L_law) krX kxN (spL cut_L_law) (runX PI_RL T_L_law na_L_law (ca_L_law F) sw_L_law (sp_L_law F b L xs) cut_L_law N n) N 940 vs st M := X_run rfl
set_option maxRecDepth 100000 in
theorem sg_940 {F b : Nat} {K : xK} {i : Int32} {v6 : Option Value} {w5 : Int32} {s0 : Int32} {M : cM} : run T_L_law PI_RL false 1 (naL na_L_law) (caL (ca_L_law F)) (lkN []) (lkN sw_L_law) krX kxN (spL cut_L_law) K 60 940 [some (.retAddr b), some (.ref 0), some (.ref 570), some (.ref 632), some (.int i), some (.int w5), v6] [.int s0, .ref 570] M = ((f_X12_condition F 570 s0 M).bind fun r1 =>
  (f_X12_thrown F 570 r1.2).bind fun r2 =>
  if r2.1 = w5 then (if w5 = 0 then ((aJ r2.2 632 (0)).bind fun v3 =>
  if (lg_cmp v3 (r1.1).toInt64) = 0 then (K 25 [some (.retAddr b), some (.ref 0), some (.ref 570), some (.ref 632), some (.int (i + 7)), some (.int w5), some (.int r1.1)] [.int (i + 7)] r2.2) else (none)) else (K 25 [some (.retAddr b), some (.ref 0), some (.ref 570), some (.ref 632), some (.int (i + 7)), some (.int w5), some (.int r1.1)] [.int (i + 7)] r2.2)) else (none)) := rfl
-- condition: (f_X12_condition F 570 (xs (q + 1).toNat) M1).bind fun r1 =>   (f_X12_thrown F 570 r1.2).bind fun r2 =>   if r2.1 = c then (if c = 0 then ((aJ r2.2 632 (0)).bind fun v3 =>   if (lg_cmp v3 (r1.1).toInt64) = 0 then (K 25 [some (.retAddr b), some (.ref 0), some (.ref 570), some (.ref 632), some (.int ((I q) + 7)), some (.int c), some (.int r1.1)] [.int ((I q) + 7)] r2.2) else (none)) else (K 25 [some (.retAddr b), some (.ref 0), some (.ref 570), some (.ref 632), some (.int ((I q) + 7)), some (.int c), some (.int r1.1)] [.int ((I q) + 7)] r2.2)) else (none)
theorem ends_condition {F b L : Nat} {xs : Nat → Int32} {k : Nat} {q : Int} {M : cM} (h0 : 0 ≤ q) (h1 : q + 7 ≤ L) (hL : L ≤ 3584) {c v : Int32} {M1 M2 M3 : cM} (hop : xs q.toNat &&& 31 = 12) (e1 : f_L_condition F 0 (((xs (q + 1).toNat))) 632 M = some (c, M1)) (e2 : f_X12_condition F 570 (xs (q + 1).toNat) M1 = some (v, M2)) (e3 : f_X12_thrown F 570 M2 = some (c, M3)) (e4 : (c = 0 → ∃ x, aJ M3 632 0 = some x ∧ lg_cmp x v.toInt64 = 0)) (h : Ends F b L xs k (q + 7) M3) : Ends F b L xs (k + 1) q M := by
  intro v5 v6
  obtain ⟨n, hn, r, hr⟩ := h (some (.int c)) (some (.int v))
  refine ⟨n + 10, by omega, r, ?_⟩
  rw [xs_25, xl_ok, xr_27]
  unfold lsX
  rw [sg_27, if_neg (h_cont h0 h1 hL)]
  rw [ls_eq, xs_33, x0_ok h0 h1 hL, xr_37]
  unfold lsX
  rw [sg_37, hop, if_neg (by decide), if_neg (by decide), if_neg (by decide), if_neg (by decide), if_neg (by decide), if_neg (by decide), if_neg (by decide), if_neg (by decide), if_neg (by decide), if_neg (by decide), if_neg (by decide), if_neg (by decide), if_pos rfl]
  try rw [ls_eq]
  rw [xs_921, xk_ok (j := 1) (v := 1) rfl h0 h1 hL (by decide) (by decide)]
  rw [xr_927]
  try unfold lsX
  rw [sg_927]
  rw [xs_928, xw_condition, e1, Option.bind_some]
  rw [xr_931]
  try unfold lsX
  rw [sg_931]
  try rw [ls_eq]
  rw [xs_934, xk_ok (j := 1) (v := 1) rfl h0 h1 hL (by decide) (by decide)]
  rw [xr_940]
  try unfold lsX
  rw [sg_940]
  rw [e2, Option.bind_some, e3, Option.bind_some, if_pos rfl]
  by_cases hc : c = 0
  · obtain ⟨x, e5, e6⟩ := e4 hc
    rw [if_pos hc, e5, Option.bind_some]
    rw [if_pos e6, ← hr, wr_q, wr_i]
  · rw [if_neg hc, ← hr, wr_q, wr_i]
theorem xs_977 {F b L : Nat} {xs : Nat → Int32} {N n : Nat} {vs : List (Option Value)} {st : List Value} {M : cM} : runX PI_RL T_L_law na_L_law (ca_L_law F) sw_L_law (sp_L_law F b L xs) cut_L_law N (n + 1) 977 vs st M = xReadK b L xs 1 983 vs st M (runX PI_RL T_L_law na_L_law (ca_L_law F) sw_L_law (sp_L_law F b L xs) cut_L_law N n) := X_sp rfl
theorem xs_983 {F b L : Nat} {xs : Nat → Int32} {N n : Nat} {vs : List (Option Value)} {st : List Value} {M : cM} : runX PI_RL T_L_law na_L_law (ca_L_law F) sw_L_law (sp_L_law F b L xs) cut_L_law N (n + 1) 983 vs st M = xReadK b L xs 2 989 vs st M (runX PI_RL T_L_law na_L_law (ca_L_law F) sw_L_law (sp_L_law F b L xs) cut_L_law N n) := X_sp rfl
theorem xr_989 {F b L : Nat} {xs : Nat → Int32} {N n : Nat} {vs : List (Option Value)} {st : List Value} {M : cM} : runX PI_RL T_L_law na_L_law (ca_L_law F) sw_L_law (sp_L_law F b L xs) cut_L_law N (n + 1) 989 vs st M = run T_L_law PI_RL false 1 (naL na_L_law) (caL (ca_L_law F)) (lkN []) (lkN sw_L_law) krX kxN (spL cut_L_law) (runX PI_RL T_L_law na_L_law (ca_L_law F) sw_L_law (sp_L_law F b L xs) cut_L_law N n) N 989 vs st M := X_run rfl
set_option maxRecDepth 100000 in
theorem sg_989 {F b : Nat} {K : xK} {i : Int32} {v6 : Option Value} {v5 : Option Value} {s0 : Int32} {s1 : Int32} {M : cM} : run T_L_law PI_RL false 1 (naL na_L_law) (caL (ca_L_law F)) (lkN []) (lkN sw_L_law) krX kxN (spL cut_L_law) K 60 989 [some (.retAddr b), some (.ref 0), some (.ref 570), some (.ref 632), some (.int i), v5, v6] [.int s0, .int s1, .ref 0] M = (if s0 = 0 then (K 997 [some (.retAddr b), some (.ref 0), some (.ref 570), some (.ref 632), some (.int i), v5, v6] [.int (0), .int s1, .ref 0] M) else (K 997 [some (.retAddr b), some (.ref 0), some (.ref 570), some (.ref 632), some (.int i), v5, v6] [.int (1), .int s1, .ref 0] M)) := rfl
theorem sgb_989 {F b : Nat} {K : xK} {i : Int32} {v5 : Option Value} {v6 : Option Value} {s0 : Int32} {s1 : Int32} {M : cM} : run T_L_law PI_RL false 1 (naL na_L_law) (caL (ca_L_law F)) (lkN []) (lkN sw_L_law) krX kxN (spL cut_L_law) K 60 989 [some (.retAddr b), some (.ref 0), some (.ref 570), some (.ref 632), some (.int i), v5, v6] [.int s0, .int s1, .ref 0] M = K 997 [some (.retAddr b), some (.ref 0), some (.ref 570), some (.ref 632), some (.int i), v5, v6] [.int (if s0 = 0 then (0) else (1)), .int s1, .ref 0] M := by
  rw [sg_989]
  split <;> rfl
theorem xs_997 {F b L : Nat} {xs : Nat → Int32} {N n : Nat} {vs : List (Option Value)} {st : List Value} {M : cM} : runX PI_RL T_L_law na_L_law (ca_L_law F) sw_L_law (sp_L_law F b L xs) cut_L_law N (n + 1) 997 vs st M = xReadK b L xs 3 1003 vs st M (runX PI_RL T_L_law na_L_law (ca_L_law F) sw_L_law (sp_L_law F b L xs) cut_L_law N n) := X_sp rfl
theorem xs_1003 {F b L : Nat} {xs : Nat → Int32} {N n : Nat} {vs : List (Option Value)} {st : List Value} {M : cM} : runX PI_RL T_L_law na_L_law (ca_L_law F) sw_L_law (sp_L_law F b L xs) cut_L_law N (n + 1) 1003 vs st M = xReadK b L xs 4 1009 vs st M (runX PI_RL T_L_law na_L_law (ca_L_law F) sw_L_law (sp_L_law F b L xs) cut_L_law N n) := X_sp rfl
theorem xr_1009 {F b L : Nat} {xs : Nat → Int32} {N n : Nat} {vs : List (Option Value)} {st : List Value} {M : cM} : runX PI_RL T_L_law na_L_law (ca_L_law F) sw_L_law (sp_L_law F b L xs) cut_L_law N (n + 1) 1009 vs st M = run T_L_law PI_RL false 1 (naL na_L_law) (caL (ca_L_law F)) (lkN []) (lkN sw_L_law) krX kxN (spL cut_L_law) (runX PI_RL T_L_law na_L_law (ca_L_law F) sw_L_law (sp_L_law F b L xs) cut_L_law N n) N 1009 vs st M := X_run rfl
set_option maxRecDepth 100000 in
theorem sg_1009 {F b : Nat} {K : xK} {i : Int32} {v6 : Option Value} {v5 : Option Value} {s0 : Int32} {s1 : Int32} {s2 : Int32} {s3 : Int32} {M : cM} : run T_L_law PI_RL false 1 (naL na_L_law) (caL (ca_L_law F)) (lkN []) (lkN sw_L_law) krX kxN (spL cut_L_law) K 60 1009 [some (.retAddr b), some (.ref 0), some (.ref 570), some (.ref 632), some (.int i), v5, v6] [.int s0, .int s1, .int s2, .int s3, .ref 0] M = (K 1010 [some (.retAddr b), some (.ref 0), some (.ref 570), some (.ref 632), some (.int i), v5, v6] [.ref 632, .int s0, .int s1, .int s2, .int s3, .ref 0] M) := rfl
theorem xs_1010 {F b L : Nat} {xs : Nat → Int32} {N n : Nat} {vs : List (Option Value)} {st : List Value} {M : cM} : runX PI_RL T_L_law na_L_law (ca_L_law F) sw_L_law (sp_L_law F b L xs) cut_L_law N (n + 1) 1010 vs st M = xWrap 6 (v_L_atomAt F) 1013 vs st M (runX PI_RL T_L_law na_L_law (ca_L_law F) sw_L_law (sp_L_law F b L xs) cut_L_law N n) := X_sp rfl
theorem xw_atomAt {F : Nat} {K : xK} {vs : List (Option Value)} {a0 : Nat} {a1 : Int32} {a2 : Int32} {a3 : Int32} {a4 : Int32} {a5 : Nat} {M : cM} : xWrap 6 (v_L_atomAt F) 1013 vs [.ref a5, .int a4, .int a3, .int a2, .int a1, .ref a0] M K = (f_L_atomAt F a0 a1 a2 a3 a4 a5 M).bind fun r => K 1013 vs [.int r.1] r.2 := rfl
theorem xr_1013 {F b L : Nat} {xs : Nat → Int32} {N n : Nat} {vs : List (Option Value)} {st : List Value} {M : cM} : runX PI_RL T_L_law na_L_law (ca_L_law F) sw_L_law (sp_L_law F b L xs) cut_L_law N (n + 1) 1013 vs st M = run T_L_law PI_RL false 1 (naL na_L_law) (caL (ca_L_law F)) (lkN []) (lkN sw_L_law) krX kxN (spL cut_L_law) (runX PI_RL T_L_law na_L_law (ca_L_law F) sw_L_law (sp_L_law F b L xs) cut_L_law N n) N 1013 vs st M := X_run rfl
set_option maxRecDepth 100000 in
theorem sg_1013 {F b : Nat} {K : xK} {i : Int32} {v6 : Option Value} {v5 : Option Value} {s0 : Int32} {M : cM} : run T_L_law PI_RL false 1 (naL na_L_law) (caL (ca_L_law F)) (lkN []) (lkN sw_L_law) krX kxN (spL cut_L_law) K 60 1013 [some (.retAddr b), some (.ref 0), some (.ref 570), some (.ref 632), some (.int i), v5, v6] [.int s0] M = (K 1016 [some (.retAddr b), some (.ref 0), some (.ref 570), some (.ref 632), some (.int i), some (.int s0), v6] [.ref 570] M) := rfl
theorem xs_1016 {F b L : Nat} {xs : Nat → Int32} {N n : Nat} {vs : List (Option Value)} {st : List Value} {M : cM} : runX PI_RL T_L_law na_L_law (ca_L_law F) sw_L_law (sp_L_law F b L xs) cut_L_law N (n + 1) 1016 vs st M = xReadK b L xs 1 1022 vs st M (runX PI_RL T_L_law na_L_law (ca_L_law F) sw_L_law (sp_L_law F b L xs) cut_L_law N n) := X_sp rfl
theorem xs_1022 {F b L : Nat} {xs : Nat → Int32} {N n : Nat} {vs : List (Option Value)} {st : List Value} {M : cM} : runX PI_RL T_L_law na_L_law (ca_L_law F) sw_L_law (sp_L_law F b L xs) cut_L_law N (n + 1) 1022 vs st M = xReadK b L xs 2 1028 vs st M (runX PI_RL T_L_law na_L_law (ca_L_law F) sw_L_law (sp_L_law F b L xs) cut_L_law N n) := X_sp rfl
theorem xr_1028 {F b L : Nat} {xs : Nat → Int32} {N n : Nat} {vs : List (Option Value)} {st : List Value} {M : cM} : runX PI_RL T_L_law na_L_law (ca_L_law F) sw_L_law (sp_L_law F b L xs) cut_L_law N (n + 1) 1028 vs st M = run T_L_law PI_RL false 1 (naL na_L_law) (caL (ca_L_law F)) (lkN []) (lkN sw_L_law) krX kxN (spL cut_L_law) (runX PI_RL T_L_law na_L_law (ca_L_law F) sw_L_law (sp_L_law F b L xs) cut_L_law N n) N 1028 vs st M := X_run rfl
set_option maxRecDepth 100000 in
theorem sg_1028 {F b : Nat} {K : xK} {i : Int32} {v6 : Option Value} {w5 : Int32} {s0 : Int32} {s1 : Int32} {M : cM} : run T_L_law PI_RL false 1 (naL na_L_law) (caL (ca_L_law F)) (lkN []) (lkN sw_L_law) krX kxN (spL cut_L_law) K 60 1028 [some (.retAddr b), some (.ref 0), some (.ref 570), some (.ref 632), some (.int i), some (.int w5), v6] [.int s0, .int s1, .ref 570] M = (if s0 = 0 then (K 1036 [some (.retAddr b), some (.ref 0), some (.ref 570), some (.ref 632), some (.int i), some (.int w5), v6] [.int (0), .int s1, .ref 570] M) else (K 1036 [some (.retAddr b), some (.ref 0), some (.ref 570), some (.ref 632), some (.int i), some (.int w5), v6] [.int (1), .int s1, .ref 570] M)) := rfl
theorem sgb_1028 {F b : Nat} {K : xK} {i : Int32} {w5 : Int32} {v6 : Option Value} {s0 : Int32} {s1 : Int32} {M : cM} : run T_L_law PI_RL false 1 (naL na_L_law) (caL (ca_L_law F)) (lkN []) (lkN sw_L_law) krX kxN (spL cut_L_law) K 60 1028 [some (.retAddr b), some (.ref 0), some (.ref 570), some (.ref 632), some (.int i), some (.int w5), v6] [.int s0, .int s1, .ref 570] M = K 1036 [some (.retAddr b), some (.ref 0), some (.ref 570), some (.ref 632), some (.int i), some (.int w5), v6] [.int (if s0 = 0 then (0) else (1)), .int s1, .ref 570] M := by
  rw [sg_1028]
  split <;> rfl
theorem xs_1036 {F b L : Nat} {xs : Nat → Int32} {N n : Nat} {vs : List (Option Value)} {st : List Value} {M : cM} : runX PI_RL T_L_law na_L_law (ca_L_law F) sw_L_law (sp_L_law F b L xs) cut_L_law N (n + 1) 1036 vs st M = xReadK b L xs 3 1042 vs st M (runX PI_RL T_L_law na_L_law (ca_L_law F) sw_L_law (sp_L_law F b L xs) cut_L_law N n) := X_sp rfl
theorem xs_1042 {F b L : Nat} {xs : Nat → Int32} {N n : Nat} {vs : List (Option Value)} {st : List Value} {M : cM} : runX PI_RL T_L_law na_L_law (ca_L_law F) sw_L_law (sp_L_law F b L xs) cut_L_law N (n + 1) 1042 vs st M = xReadK b L xs 4 1048 vs st M (runX PI_RL T_L_law na_L_law (ca_L_law F) sw_L_law (sp_L_law F b L xs) cut_L_law N n) := X_sp rfl
theorem xr_1048 {F b L : Nat} {xs : Nat → Int32} {N n : Nat} {vs : List (Option Value)} {st : List Value} {M : cM} : runX PI_RL T_L_law na_L_law (ca_L_law F) sw_L_law (sp_L_law F b L xs) cut_L_law N (n + 1) 1048 vs st M = run T_L_law PI_RL false 1 (naL na_L_law) (caL (ca_L_law F)) (lkN []) (lkN sw_L_law) krX kxN (spL cut_L_law) (runX PI_RL T_L_law na_L_law (ca_L_law F) sw_L_law (sp_L_law F b L xs) cut_L_law N n) N 1048 vs st M := X_run rfl
set_option maxRecDepth 100000 in
theorem sg_1048 {F b : Nat} {K : xK} {i : Int32} {v6 : Option Value} {w5 : Int32} {s0 : Int32} {s1 : Int32} {s2 : Int32} {s3 : Int32} {M : cM} : run T_L_law PI_RL false 1 (naL na_L_law) (caL (ca_L_law F)) (lkN []) (lkN sw_L_law) krX kxN (spL cut_L_law) K 60 1048 [some (.retAddr b), some (.ref 0), some (.ref 570), some (.ref 632), some (.int i), some (.int w5), v6] [.int s0, .int s1, .int s2, .int s3, .ref 570] M = ((f_X12_atomAt F 570 s3 s2 s1 s0 M).bind fun r1 =>
  (f_X12_thrown F 570 r1.2).bind fun r2 =>
  if r2.1 = w5 then (if w5 = 0 then ((aJ r2.2 632 (0)).bind fun v3 =>
  if (lg_cmp v3 (r1.1).toInt64) = 0 then (K 25 [some (.retAddr b), some (.ref 0), some (.ref 570), some (.ref 632), some (.int (i + 7)), some (.int w5), some (.int r1.1)] [.int (i + 7)] r2.2) else (none)) else (K 25 [some (.retAddr b), some (.ref 0), some (.ref 570), some (.ref 632), some (.int (i + 7)), some (.int w5), some (.int r1.1)] [.int (i + 7)] r2.2)) else (none)) := rfl
-- atomAt: (f_X12_atomAt F 570 ((xs (q + 1).toNat)) (if ((xs (q + 2).toNat)) = 0 then (0) else (1)) (xs (q + 3).toNat) (xs (q + 4).toNat) M1).bind fun r1 =>   (f_X12_thrown F 570 r1.2).bind fun r2 =>   if r2.1 = c then (if c = 0 then ((aJ r2.2 632 (0)).bind fun v3 =>   if (lg_cmp v3 (r1.1).toInt64) = 0 then (K 25 [some (.retAddr b), some (.ref 0), some (.ref 570), some (.ref 632), some (.int ((I q) + 7)), some (.int c), some (.int r1.1)] [.int ((I q) + 7)] r2.2) else (none)) else (K 25 [some (.retAddr b), some (.ref 0), some (.ref 570), some (.ref 632), some (.int ((I q) + 7)), some (.int c), some (.int 
theorem ends_atomAt {F b L : Nat} {xs : Nat → Int32} {k : Nat} {q : Int} {M : cM} (h0 : 0 ≤ q) (h1 : q + 7 ≤ L) (hL : L ≤ 3584) {c v : Int32} {M1 M2 M3 : cM} (hop : xs q.toNat &&& 31 = 13) (e1 : f_L_atomAt F 0 ((((xs (q + 1).toNat)))) (((if ((xs (q + 2).toNat)) = 0 then (0) else (1)))) (((xs (q + 3).toNat))) (((xs (q + 4).toNat))) 632 M = some (c, M1)) (e2 : f_X12_atomAt F 570 ((xs (q + 1).toNat)) (if ((xs (q + 2).toNat)) = 0 then (0) else (1)) (xs (q + 3).toNat) (xs (q + 4).toNat) M1 = some (v, M2)) (e3 : f_X12_thrown F 570 M2 = some (c, M3)) (e4 : (c = 0 → ∃ x, aJ M3 632 0 = some x ∧ lg_cmp x v.toInt64 = 0)) (h : Ends F b L xs k (q + 7) M3) : Ends F b L xs (k + 1) q M := by
  intro v5 v6
  obtain ⟨n, hn, r, hr⟩ := h (some (.int c)) (some (.int v))
  refine ⟨n + 18, by omega, r, ?_⟩
  rw [xs_25, xl_ok, xr_27]
  unfold lsX
  rw [sg_27, if_neg (h_cont h0 h1 hL)]
  rw [ls_eq, xs_33, x0_ok h0 h1 hL, xr_37]
  unfold lsX
  rw [sg_37, hop, if_neg (by decide), if_neg (by decide), if_neg (by decide), if_neg (by decide), if_neg (by decide), if_neg (by decide), if_neg (by decide), if_neg (by decide), if_neg (by decide), if_neg (by decide), if_neg (by decide), if_neg (by decide), if_neg (by decide), if_pos rfl]
  try rw [ls_eq]
  rw [xs_977, xk_ok (j := 1) (v := 1) rfl h0 h1 hL (by decide) (by decide)]
  try rw [ls_eq]
  rw [xs_983, xk_ok (j := 2) (v := 2) rfl h0 h1 hL (by decide) (by decide)]
  rw [xr_989]
  try unfold lsX
  rw [sgb_989]
  try rw [ls_eq]
  rw [xs_997, xk_ok (j := 3) (v := 3) rfl h0 h1 hL (by decide) (by decide)]
  try rw [ls_eq]
  rw [xs_1003, xk_ok (j := 4) (v := 4) rfl h0 h1 hL (by decide) (by decide)]
  rw [xr_1009]
  try unfold lsX
  rw [sg_1009]
  rw [xs_1010, xw_atomAt, e1, Option.bind_some]
  rw [xr_1013]
  try unfold lsX
  rw [sg_1013]
  try rw [ls_eq]
  rw [xs_1016, xk_ok (j := 1) (v := 1) rfl h0 h1 hL (by decide) (by decide)]
  try rw [ls_eq]
  rw [xs_1022, xk_ok (j := 2) (v := 2) rfl h0 h1 hL (by decide) (by decide)]
  rw [xr_1028]
  try unfold lsX
  rw [sgb_1028]
  try rw [ls_eq]
  rw [xs_1036, xk_ok (j := 3) (v := 3) rfl h0 h1 hL (by decide) (by decide)]
  try rw [ls_eq]
  rw [xs_1042, xk_ok (j := 4) (v := 4) rfl h0 h1 hL (by decide) (by decide)]
  rw [xr_1048]
  try unfold lsX
  rw [sg_1048]
  rw [e2, Option.bind_some, e3, Option.bind_some, if_pos rfl]
  by_cases hc : c = 0
  · obtain ⟨x, e5, e6⟩ := e4 hc
    rw [if_pos hc, e5, Option.bind_some]
    rw [if_pos e6, ← hr, wr_q, wr_i]
  · rw [if_neg hc, ← hr, wr_q, wr_i]
theorem xs_1085 {F b L : Nat} {xs : Nat → Int32} {N n : Nat} {vs : List (Option Value)} {st : List Value} {M : cM} : runX PI_RL T_L_law na_L_law (ca_L_law F) sw_L_law (sp_L_law F b L xs) cut_L_law N (n + 1) 1085 vs st M = xReadK b L xs 1 1091 vs st M (runX PI_RL T_L_law na_L_law (ca_L_law F) sw_L_law (sp_L_law F b L xs) cut_L_law N n) := X_sp rfl
theorem xs_1091 {F b L : Nat} {xs : Nat → Int32} {N n : Nat} {vs : List (Option Value)} {st : List Value} {M : cM} : runX PI_RL T_L_law na_L_law (ca_L_law F) sw_L_law (sp_L_law F b L xs) cut_L_law N (n + 1) 1091 vs st M = xReadK b L xs 2 1097 vs st M (runX PI_RL T_L_law na_L_law (ca_L_law F) sw_L_law (sp_L_law F b L xs) cut_L_law N n) := X_sp rfl
theorem xs_1097 {F b L : Nat} {xs : Nat → Int32} {N n : Nat} {vs : List (Option Value)} {st : List Value} {M : cM} : runX PI_RL T_L_law na_L_law (ca_L_law F) sw_L_law (sp_L_law F b L xs) cut_L_law N (n + 1) 1097 vs st M = xReadK b L xs 3 1103 vs st M (runX PI_RL T_L_law na_L_law (ca_L_law F) sw_L_law (sp_L_law F b L xs) cut_L_law N n) := X_sp rfl
theorem xr_1103 {F b L : Nat} {xs : Nat → Int32} {N n : Nat} {vs : List (Option Value)} {st : List Value} {M : cM} : runX PI_RL T_L_law na_L_law (ca_L_law F) sw_L_law (sp_L_law F b L xs) cut_L_law N (n + 1) 1103 vs st M = run T_L_law PI_RL false 1 (naL na_L_law) (caL (ca_L_law F)) (lkN []) (lkN sw_L_law) krX kxN (spL cut_L_law) (runX PI_RL T_L_law na_L_law (ca_L_law F) sw_L_law (sp_L_law F b L xs) cut_L_law N n) N 1103 vs st M := X_run rfl
set_option maxRecDepth 100000 in
theorem sg_1103 {F b : Nat} {K : xK} {i : Int32} {v6 : Option Value} {v5 : Option Value} {s0 : Int32} {s1 : Int32} {s2 : Int32} {M : cM} : run T_L_law PI_RL false 1 (naL na_L_law) (caL (ca_L_law F)) (lkN []) (lkN sw_L_law) krX kxN (spL cut_L_law) K 60 1103 [some (.retAddr b), some (.ref 0), some (.ref 570), some (.ref 632), some (.int i), v5, v6] [.int s0, .int s1, .int s2, .ref 0] M = (K 1104 [some (.retAddr b), some (.ref 0), some (.ref 570), some (.ref 632), some (.int i), v5, v6] [.ref 632, .int s0, .int s1, .int s2, .ref 0] M) := rfl
theorem xs_1104 {F b L : Nat} {xs : Nat → Int32} {N n : Nat} {vs : List (Option Value)} {st : List Value} {M : cM} : runX PI_RL T_L_law na_L_law (ca_L_law F) sw_L_law (sp_L_law F b L xs) cut_L_law N (n + 1) 1104 vs st M = xWrap 5 (v_L_preview F) 1107 vs st M (runX PI_RL T_L_law na_L_law (ca_L_law F) sw_L_law (sp_L_law F b L xs) cut_L_law N n) := X_sp rfl
theorem xw_preview {F : Nat} {K : xK} {vs : List (Option Value)} {a0 : Nat} {a1 : Int32} {a2 : Int32} {a3 : Int32} {a4 : Nat} {M : cM} : xWrap 5 (v_L_preview F) 1107 vs [.ref a4, .int a3, .int a2, .int a1, .ref a0] M K = (f_L_preview F a0 a1 a2 a3 a4 M).bind fun r => K 1107 vs [.int r.1] r.2 := rfl
theorem xr_1107 {F b L : Nat} {xs : Nat → Int32} {N n : Nat} {vs : List (Option Value)} {st : List Value} {M : cM} : runX PI_RL T_L_law na_L_law (ca_L_law F) sw_L_law (sp_L_law F b L xs) cut_L_law N (n + 1) 1107 vs st M = run T_L_law PI_RL false 1 (naL na_L_law) (caL (ca_L_law F)) (lkN []) (lkN sw_L_law) krX kxN (spL cut_L_law) (runX PI_RL T_L_law na_L_law (ca_L_law F) sw_L_law (sp_L_law F b L xs) cut_L_law N n) N 1107 vs st M := X_run rfl
set_option maxRecDepth 100000 in
theorem sg_1107 {F b : Nat} {K : xK} {i : Int32} {v6 : Option Value} {v5 : Option Value} {s0 : Int32} {M : cM} : run T_L_law PI_RL false 1 (naL na_L_law) (caL (ca_L_law F)) (lkN []) (lkN sw_L_law) krX kxN (spL cut_L_law) K 60 1107 [some (.retAddr b), some (.ref 0), some (.ref 570), some (.ref 632), some (.int i), v5, v6] [.int s0] M = (K 1110 [some (.retAddr b), some (.ref 0), some (.ref 570), some (.ref 632), some (.int i), some (.int s0), v6] [.ref 570] M) := rfl
theorem xs_1110 {F b L : Nat} {xs : Nat → Int32} {N n : Nat} {vs : List (Option Value)} {st : List Value} {M : cM} : runX PI_RL T_L_law na_L_law (ca_L_law F) sw_L_law (sp_L_law F b L xs) cut_L_law N (n + 1) 1110 vs st M = xReadK b L xs 1 1116 vs st M (runX PI_RL T_L_law na_L_law (ca_L_law F) sw_L_law (sp_L_law F b L xs) cut_L_law N n) := X_sp rfl
theorem xs_1116 {F b L : Nat} {xs : Nat → Int32} {N n : Nat} {vs : List (Option Value)} {st : List Value} {M : cM} : runX PI_RL T_L_law na_L_law (ca_L_law F) sw_L_law (sp_L_law F b L xs) cut_L_law N (n + 1) 1116 vs st M = xReadK b L xs 2 1122 vs st M (runX PI_RL T_L_law na_L_law (ca_L_law F) sw_L_law (sp_L_law F b L xs) cut_L_law N n) := X_sp rfl
theorem xs_1122 {F b L : Nat} {xs : Nat → Int32} {N n : Nat} {vs : List (Option Value)} {st : List Value} {M : cM} : runX PI_RL T_L_law na_L_law (ca_L_law F) sw_L_law (sp_L_law F b L xs) cut_L_law N (n + 1) 1122 vs st M = xReadK b L xs 3 1128 vs st M (runX PI_RL T_L_law na_L_law (ca_L_law F) sw_L_law (sp_L_law F b L xs) cut_L_law N n) := X_sp rfl
theorem xr_1128 {F b L : Nat} {xs : Nat → Int32} {N n : Nat} {vs : List (Option Value)} {st : List Value} {M : cM} : runX PI_RL T_L_law na_L_law (ca_L_law F) sw_L_law (sp_L_law F b L xs) cut_L_law N (n + 1) 1128 vs st M = run T_L_law PI_RL false 1 (naL na_L_law) (caL (ca_L_law F)) (lkN []) (lkN sw_L_law) krX kxN (spL cut_L_law) (runX PI_RL T_L_law na_L_law (ca_L_law F) sw_L_law (sp_L_law F b L xs) cut_L_law N n) N 1128 vs st M := X_run rfl
set_option maxRecDepth 100000 in
theorem sg_1128 {F b : Nat} {K : xK} {i : Int32} {v6 : Option Value} {w5 : Int32} {s0 : Int32} {s1 : Int32} {s2 : Int32} {M : cM} : run T_L_law PI_RL false 1 (naL na_L_law) (caL (ca_L_law F)) (lkN []) (lkN sw_L_law) krX kxN (spL cut_L_law) K 60 1128 [some (.retAddr b), some (.ref 0), some (.ref 570), some (.ref 632), some (.int i), some (.int w5), v6] [.int s0, .int s1, .int s2, .ref 570] M = ((f_X12_preview F 570 s2 s1 s0 M).bind fun r1 =>
  (f_X12_thrown F 570 r1.2).bind fun r2 =>
  if r2.1 = w5 then (if w5 = 0 then ((aJ r2.2 632 (0)).bind fun v3 =>
  if (lg_cmp v3 (r1.1).toInt64) = 0 then (K 25 [some (.retAddr b), some (.ref 0), some (.ref 570), some (.ref 632), some (.int (i + 7)), some (.int w5), some (.int r1.1)] [.int (i + 7)] r2.2) else (none)) else (K 25 [some (.retAddr b), some (.ref 0), some (.ref 570), some (.ref 632), some (.int (i + 7)), some (.int w5), some (.int r1.1)] [.int (i + 7)] r2.2)) else (none)) := rfl
-- preview: (f_X12_preview F 570 (xs (q + 1).toNat) (xs (q + 2).toNat) (xs (q + 3).toNat) M1).bind fun r1 =>   (f_X12_thrown F 570 r1.2).bind fun r2 =>   if r2.1 = c then (if c = 0 then ((aJ r2.2 632 (0)).bind fun v3 =>   if (lg_cmp v3 (r1.1).toInt64) = 0 then (K 25 [some (.retAddr b), some (.ref 0), some (.ref 570), some (.ref 632), some (.int ((I q) + 7)), some (.int c), some (.int r1.1)] [.int ((I q) + 7)] r2.2) else (none)) else (K 25 [some (.retAddr b), some (.ref 0), some (.ref 570), some (.ref 632), some (.int ((I q) + 7)), some (.int c), some (.int r1.1)] [.int ((I q) + 7)] r2.2)) else (none)
theorem ends_preview {F b L : Nat} {xs : Nat → Int32} {k : Nat} {q : Int} {M : cM} (h0 : 0 ≤ q) (h1 : q + 7 ≤ L) (hL : L ≤ 3584) {c v : Int32} {M1 M2 M3 : cM} (hop : xs q.toNat &&& 31 = 14) (e1 : f_L_preview F 0 (((xs (q + 1).toNat))) (((xs (q + 2).toNat))) (((xs (q + 3).toNat))) 632 M = some (c, M1)) (e2 : f_X12_preview F 570 (xs (q + 1).toNat) (xs (q + 2).toNat) (xs (q + 3).toNat) M1 = some (v, M2)) (e3 : f_X12_thrown F 570 M2 = some (c, M3)) (e4 : (c = 0 → ∃ x, aJ M3 632 0 = some x ∧ lg_cmp x v.toInt64 = 0)) (h : Ends F b L xs k (q + 7) M3) : Ends F b L xs (k + 1) q M := by
  intro v5 v6
  obtain ⟨n, hn, r, hr⟩ := h (some (.int c)) (some (.int v))
  refine ⟨n + 14, by omega, r, ?_⟩
  rw [xs_25, xl_ok, xr_27]
  unfold lsX
  rw [sg_27, if_neg (h_cont h0 h1 hL)]
  rw [ls_eq, xs_33, x0_ok h0 h1 hL, xr_37]
  unfold lsX
  rw [sg_37, hop, if_neg (by decide), if_neg (by decide), if_neg (by decide), if_neg (by decide), if_neg (by decide), if_neg (by decide), if_neg (by decide), if_neg (by decide), if_neg (by decide), if_neg (by decide), if_neg (by decide), if_neg (by decide), if_neg (by decide), if_neg (by decide), if_pos rfl]
  try rw [ls_eq]
  rw [xs_1085, xk_ok (j := 1) (v := 1) rfl h0 h1 hL (by decide) (by decide)]
  try rw [ls_eq]
  rw [xs_1091, xk_ok (j := 2) (v := 2) rfl h0 h1 hL (by decide) (by decide)]
  try rw [ls_eq]
  rw [xs_1097, xk_ok (j := 3) (v := 3) rfl h0 h1 hL (by decide) (by decide)]
  rw [xr_1103]
  try unfold lsX
  rw [sg_1103]
  rw [xs_1104, xw_preview, e1, Option.bind_some]
  rw [xr_1107]
  try unfold lsX
  rw [sg_1107]
  try rw [ls_eq]
  rw [xs_1110, xk_ok (j := 1) (v := 1) rfl h0 h1 hL (by decide) (by decide)]
  try rw [ls_eq]
  rw [xs_1116, xk_ok (j := 2) (v := 2) rfl h0 h1 hL (by decide) (by decide)]
  try rw [ls_eq]
  rw [xs_1122, xk_ok (j := 3) (v := 3) rfl h0 h1 hL (by decide) (by decide)]
  rw [xr_1128]
  try unfold lsX
  rw [sg_1128]
  rw [e2, Option.bind_some, e3, Option.bind_some, if_pos rfl]
  by_cases hc : c = 0
  · obtain ⟨x, e5, e6⟩ := e4 hc
    rw [if_pos hc, e5, Option.bind_some]
    rw [if_pos e6, ← hr, wr_q, wr_i]
  · rw [if_neg hc, ← hr, wr_q, wr_i]
theorem xs_1165 {F b L : Nat} {xs : Nat → Int32} {N n : Nat} {vs : List (Option Value)} {st : List Value} {M : cM} : runX PI_RL T_L_law na_L_law (ca_L_law F) sw_L_law (sp_L_law F b L xs) cut_L_law N (n + 1) 1165 vs st M = xReadK b L xs 1 1171 vs st M (runX PI_RL T_L_law na_L_law (ca_L_law F) sw_L_law (sp_L_law F b L xs) cut_L_law N n) := X_sp rfl
theorem xs_1171 {F b L : Nat} {xs : Nat → Int32} {N n : Nat} {vs : List (Option Value)} {st : List Value} {M : cM} : runX PI_RL T_L_law na_L_law (ca_L_law F) sw_L_law (sp_L_law F b L xs) cut_L_law N (n + 1) 1171 vs st M = xReadK b L xs 2 1177 vs st M (runX PI_RL T_L_law na_L_law (ca_L_law F) sw_L_law (sp_L_law F b L xs) cut_L_law N n) := X_sp rfl
theorem xs_1177 {F b L : Nat} {xs : Nat → Int32} {N n : Nat} {vs : List (Option Value)} {st : List Value} {M : cM} : runX PI_RL T_L_law na_L_law (ca_L_law F) sw_L_law (sp_L_law F b L xs) cut_L_law N (n + 1) 1177 vs st M = xReadK b L xs 3 1183 vs st M (runX PI_RL T_L_law na_L_law (ca_L_law F) sw_L_law (sp_L_law F b L xs) cut_L_law N n) := X_sp rfl
theorem xs_1183 {F b L : Nat} {xs : Nat → Int32} {N n : Nat} {vs : List (Option Value)} {st : List Value} {M : cM} : runX PI_RL T_L_law na_L_law (ca_L_law F) sw_L_law (sp_L_law F b L xs) cut_L_law N (n + 1) 1183 vs st M = xReadK b L xs 4 1189 vs st M (runX PI_RL T_L_law na_L_law (ca_L_law F) sw_L_law (sp_L_law F b L xs) cut_L_law N n) := X_sp rfl
theorem xr_1189 {F b L : Nat} {xs : Nat → Int32} {N n : Nat} {vs : List (Option Value)} {st : List Value} {M : cM} : runX PI_RL T_L_law na_L_law (ca_L_law F) sw_L_law (sp_L_law F b L xs) cut_L_law N (n + 1) 1189 vs st M = run T_L_law PI_RL false 1 (naL na_L_law) (caL (ca_L_law F)) (lkN []) (lkN sw_L_law) krX kxN (spL cut_L_law) (runX PI_RL T_L_law na_L_law (ca_L_law F) sw_L_law (sp_L_law F b L xs) cut_L_law N n) N 1189 vs st M := X_run rfl
set_option maxRecDepth 100000 in
theorem sg_1189 {F b : Nat} {K : xK} {i : Int32} {v6 : Option Value} {v5 : Option Value} {s0 : Int32} {s1 : Int32} {s2 : Int32} {s3 : Int32} {M : cM} : run T_L_law PI_RL false 1 (naL na_L_law) (caL (ca_L_law F)) (lkN []) (lkN sw_L_law) krX kxN (spL cut_L_law) K 60 1189 [some (.retAddr b), some (.ref 0), some (.ref 570), some (.ref 632), some (.int i), v5, v6] [.int s0, .int s1, .int s2, .int s3, .ref 0] M = (K 1190 [some (.retAddr b), some (.ref 0), some (.ref 570), some (.ref 632), some (.int i), v5, v6] [.ref 632, .int s0, .int s1, .int s2, .int s3, .ref 0] M) := rfl
theorem xs_1190 {F b L : Nat} {xs : Nat → Int32} {N n : Nat} {vs : List (Option Value)} {st : List Value} {M : cM} : runX PI_RL T_L_law na_L_law (ca_L_law F) sw_L_law (sp_L_law F b L xs) cut_L_law N (n + 1) 1190 vs st M = xWrap 6 (v_L_run F) 1193 vs st M (runX PI_RL T_L_law na_L_law (ca_L_law F) sw_L_law (sp_L_law F b L xs) cut_L_law N n) := X_sp rfl
theorem xw_run {F : Nat} {K : xK} {vs : List (Option Value)} {a0 : Nat} {a1 : Int32} {a2 : Int32} {a3 : Int32} {a4 : Int32} {a5 : Nat} {M : cM} : xWrap 6 (v_L_run F) 1193 vs [.ref a5, .int a4, .int a3, .int a2, .int a1, .ref a0] M K = (f_L_run F a0 a1 a2 a3 a4 a5 M).bind fun r => K 1193 vs [.int r.1] r.2 := rfl
theorem xr_1193 {F b L : Nat} {xs : Nat → Int32} {N n : Nat} {vs : List (Option Value)} {st : List Value} {M : cM} : runX PI_RL T_L_law na_L_law (ca_L_law F) sw_L_law (sp_L_law F b L xs) cut_L_law N (n + 1) 1193 vs st M = run T_L_law PI_RL false 1 (naL na_L_law) (caL (ca_L_law F)) (lkN []) (lkN sw_L_law) krX kxN (spL cut_L_law) (runX PI_RL T_L_law na_L_law (ca_L_law F) sw_L_law (sp_L_law F b L xs) cut_L_law N n) N 1193 vs st M := X_run rfl
set_option maxRecDepth 100000 in
theorem sg_1193 {F b : Nat} {K : xK} {i : Int32} {v6 : Option Value} {v5 : Option Value} {s0 : Int32} {M : cM} : run T_L_law PI_RL false 1 (naL na_L_law) (caL (ca_L_law F)) (lkN []) (lkN sw_L_law) krX kxN (spL cut_L_law) K 60 1193 [some (.retAddr b), some (.ref 0), some (.ref 570), some (.ref 632), some (.int i), v5, v6] [.int s0] M = (K 1196 [some (.retAddr b), some (.ref 0), some (.ref 570), some (.ref 632), some (.int i), some (.int s0), v6] [.ref 570] M) := rfl
theorem xs_1196 {F b L : Nat} {xs : Nat → Int32} {N n : Nat} {vs : List (Option Value)} {st : List Value} {M : cM} : runX PI_RL T_L_law na_L_law (ca_L_law F) sw_L_law (sp_L_law F b L xs) cut_L_law N (n + 1) 1196 vs st M = xReadK b L xs 1 1202 vs st M (runX PI_RL T_L_law na_L_law (ca_L_law F) sw_L_law (sp_L_law F b L xs) cut_L_law N n) := X_sp rfl
theorem xs_1202 {F b L : Nat} {xs : Nat → Int32} {N n : Nat} {vs : List (Option Value)} {st : List Value} {M : cM} : runX PI_RL T_L_law na_L_law (ca_L_law F) sw_L_law (sp_L_law F b L xs) cut_L_law N (n + 1) 1202 vs st M = xReadK b L xs 2 1208 vs st M (runX PI_RL T_L_law na_L_law (ca_L_law F) sw_L_law (sp_L_law F b L xs) cut_L_law N n) := X_sp rfl
theorem xs_1208 {F b L : Nat} {xs : Nat → Int32} {N n : Nat} {vs : List (Option Value)} {st : List Value} {M : cM} : runX PI_RL T_L_law na_L_law (ca_L_law F) sw_L_law (sp_L_law F b L xs) cut_L_law N (n + 1) 1208 vs st M = xReadK b L xs 3 1214 vs st M (runX PI_RL T_L_law na_L_law (ca_L_law F) sw_L_law (sp_L_law F b L xs) cut_L_law N n) := X_sp rfl
theorem xs_1214 {F b L : Nat} {xs : Nat → Int32} {N n : Nat} {vs : List (Option Value)} {st : List Value} {M : cM} : runX PI_RL T_L_law na_L_law (ca_L_law F) sw_L_law (sp_L_law F b L xs) cut_L_law N (n + 1) 1214 vs st M = xReadK b L xs 4 1220 vs st M (runX PI_RL T_L_law na_L_law (ca_L_law F) sw_L_law (sp_L_law F b L xs) cut_L_law N n) := X_sp rfl
theorem xr_1220 {F b L : Nat} {xs : Nat → Int32} {N n : Nat} {vs : List (Option Value)} {st : List Value} {M : cM} : runX PI_RL T_L_law na_L_law (ca_L_law F) sw_L_law (sp_L_law F b L xs) cut_L_law N (n + 1) 1220 vs st M = run T_L_law PI_RL false 1 (naL na_L_law) (caL (ca_L_law F)) (lkN []) (lkN sw_L_law) krX kxN (spL cut_L_law) (runX PI_RL T_L_law na_L_law (ca_L_law F) sw_L_law (sp_L_law F b L xs) cut_L_law N n) N 1220 vs st M := X_run rfl
set_option maxRecDepth 100000 in
theorem sg_1220 {F b : Nat} {K : xK} {i : Int32} {v6 : Option Value} {w5 : Int32} {s0 : Int32} {s1 : Int32} {s2 : Int32} {s3 : Int32} {M : cM} : run T_L_law PI_RL false 1 (naL na_L_law) (caL (ca_L_law F)) (lkN []) (lkN sw_L_law) krX kxN (spL cut_L_law) K 60 1220 [some (.retAddr b), some (.ref 0), some (.ref 570), some (.ref 632), some (.int i), some (.int w5), v6] [.int s0, .int s1, .int s2, .int s3, .ref 570] M = ((f_X12_run F 570 s3 s2 s1 s0 M).bind fun r1 =>
  (f_X12_thrown F 570 r1.2).bind fun r2 =>
  if r2.1 = w5 then (if w5 = 0 then ((aJ r2.2 632 (0)).bind fun v3 =>
  if (lg_cmp v3 (r1.1).toInt64) = 0 then (K 25 [some (.retAddr b), some (.ref 0), some (.ref 570), some (.ref 632), some (.int (i + 7)), some (.int w5), some (.int r1.1)] [.int (i + 7)] r2.2) else (none)) else (K 25 [some (.retAddr b), some (.ref 0), some (.ref 570), some (.ref 632), some (.int (i + 7)), some (.int w5), some (.int r1.1)] [.int (i + 7)] r2.2)) else (none)) := rfl
-- run: (f_X12_run F 570 (xs (q + 1).toNat) (xs (q + 2).toNat) (xs (q + 3).toNat) (xs (q + 4).toNat) M1).bind fun r1 =>   (f_X12_thrown F 570 r1.2).bind fun r2 =>   if r2.1 = c then (if c = 0 then ((aJ r2.2 632 (0)).bind fun v3 =>   if (lg_cmp v3 (r1.1).toInt64) = 0 then (K 25 [some (.retAddr b), some (.ref 0), some (.ref 570), some (.ref 632), some (.int ((I q) + 7)), some (.int c), some (.int r1.1)] [.int ((I q) + 7)] r2.2) else (none)) else (K 25 [some (.retAddr b), some (.ref 0), some (.ref 570), some (.ref 632), some (.int ((I q) + 7)), some (.int c), some (.int r1.1)] [.int ((I q) + 7)] r2.2)) e
theorem ends_run {F b L : Nat} {xs : Nat → Int32} {k : Nat} {q : Int} {M : cM} (h0 : 0 ≤ q) (h1 : q + 7 ≤ L) (hL : L ≤ 3584) {c v : Int32} {M1 M2 M3 : cM} (hop : xs q.toNat &&& 31 = 15) (e1 : f_L_run F 0 (((xs (q + 1).toNat))) (((xs (q + 2).toNat))) (((xs (q + 3).toNat))) (((xs (q + 4).toNat))) 632 M = some (c, M1)) (e2 : f_X12_run F 570 (xs (q + 1).toNat) (xs (q + 2).toNat) (xs (q + 3).toNat) (xs (q + 4).toNat) M1 = some (v, M2)) (e3 : f_X12_thrown F 570 M2 = some (c, M3)) (e4 : (c = 0 → ∃ x, aJ M3 632 0 = some x ∧ lg_cmp x v.toInt64 = 0)) (h : Ends F b L xs k (q + 7) M3) : Ends F b L xs (k + 1) q M := by
  intro v5 v6
  obtain ⟨n, hn, r, hr⟩ := h (some (.int c)) (some (.int v))
  refine ⟨n + 16, by omega, r, ?_⟩
  rw [xs_25, xl_ok, xr_27]
  unfold lsX
  rw [sg_27, if_neg (h_cont h0 h1 hL)]
  rw [ls_eq, xs_33, x0_ok h0 h1 hL, xr_37]
  unfold lsX
  rw [sg_37, hop, if_neg (by decide), if_neg (by decide), if_neg (by decide), if_neg (by decide), if_neg (by decide), if_neg (by decide), if_neg (by decide), if_neg (by decide), if_neg (by decide), if_neg (by decide), if_neg (by decide), if_neg (by decide), if_neg (by decide), if_neg (by decide), if_neg (by decide), if_pos rfl]
  try rw [ls_eq]
  rw [xs_1165, xk_ok (j := 1) (v := 1) rfl h0 h1 hL (by decide) (by decide)]
  try rw [ls_eq]
  rw [xs_1171, xk_ok (j := 2) (v := 2) rfl h0 h1 hL (by decide) (by decide)]
  try rw [ls_eq]
  rw [xs_1177, xk_ok (j := 3) (v := 3) rfl h0 h1 hL (by decide) (by decide)]
  try rw [ls_eq]
  rw [xs_1183, xk_ok (j := 4) (v := 4) rfl h0 h1 hL (by decide) (by decide)]
  rw [xr_1189]
  try unfold lsX
  rw [sg_1189]
  rw [xs_1190, xw_run, e1, Option.bind_some]
  rw [xr_1193]
  try unfold lsX
  rw [sg_1193]
  try rw [ls_eq]
  rw [xs_1196, xk_ok (j := 1) (v := 1) rfl h0 h1 hL (by decide) (by decide)]
  try rw [ls_eq]
  rw [xs_1202, xk_ok (j := 2) (v := 2) rfl h0 h1 hL (by decide) (by decide)]
  try rw [ls_eq]
  rw [xs_1208, xk_ok (j := 3) (v := 3) rfl h0 h1 hL (by decide) (by decide)]
  try rw [ls_eq]
  rw [xs_1214, xk_ok (j := 4) (v := 4) rfl h0 h1 hL (by decide) (by decide)]
  rw [xr_1220]
  try unfold lsX
  rw [sg_1220]
  rw [e2, Option.bind_some, e3, Option.bind_some, if_pos rfl]
  by_cases hc : c = 0
  · obtain ⟨x, e5, e6⟩ := e4 hc
    rw [if_pos hc, e5, Option.bind_some]
    rw [if_pos e6, ← hr, wr_q, wr_i]
  · rw [if_neg hc, ← hr, wr_q, wr_i]
theorem ends_runs {F b L : Nat} {xs : Nat → Int32} {k : Nat} {q : Int} {M : cM} (h0 : 0 ≤ q) (h1 : q + 7 ≤ L) (hL : L ≤ 3584) {v : Int32} {M1 M2 : cM} (hop : xs q.toNat &&& 31 = 16) (e1 : f_X11_runs F 0 M = some (v, M1)) (e2 : f_X12_runs F 570 M1 = some (v, M2)) (h : Ends F b L xs k (q + 7) M2) : Ends F b L xs (k + 1) q M := by
  intro v5 v6
  obtain ⟨n, hn, r, hr⟩ := h v5 v6
  refine ⟨n + 4, by omega, r, ?_⟩
  rw [xs_25, xl_ok, xr_27]
  unfold lsX
  rw [sg_27, if_neg (h_cont h0 h1 hL)]
  rw [ls_eq, xs_33, x0_ok h0 h1 hL, xr_37]
  unfold lsX
  rw [sg_37, hop, if_neg (by decide), if_neg (by decide), if_neg (by decide), if_neg (by decide), if_neg (by decide), if_neg (by decide), if_neg (by decide), if_neg (by decide), if_neg (by decide), if_neg (by decide), if_neg (by decide), if_neg (by decide), if_neg (by decide), if_neg (by decide), if_neg (by decide), if_neg (by decide), if_pos rfl]
  rw [e1, Option.bind_some, e2, Option.bind_some, if_pos rfl, ← hr, wr_q, wr_i]
theorem xs_1270 {F b L : Nat} {xs : Nat → Int32} {N n : Nat} {vs : List (Option Value)} {st : List Value} {M : cM} : runX PI_RL T_L_law na_L_law (ca_L_law F) sw_L_law (sp_L_law F b L xs) cut_L_law N (n + 1) 1270 vs st M = xReadK b L xs 1 1276 vs st M (runX PI_RL T_L_law na_L_law (ca_L_law F) sw_L_law (sp_L_law F b L xs) cut_L_law N n) := X_sp rfl
theorem xr_1276 {F b L : Nat} {xs : Nat → Int32} {N n : Nat} {vs : List (Option Value)} {st : List Value} {M : cM} : runX PI_RL T_L_law na_L_law (ca_L_law F) sw_L_law (sp_L_law F b L xs) cut_L_law N (n + 1) 1276 vs st M = run T_L_law PI_RL false 1 (naL na_L_law) (caL (ca_L_law F)) (lkN []) (lkN sw_L_law) krX kxN (spL cut_L_law) (runX PI_RL T_L_law na_L_law (ca_L_law F) sw_L_law (sp_L_law F b L xs) cut_L_law N n) N 1276 vs st M := X_run rfl
set_option maxRecDepth 100000 in
theorem sg_1276 {F b : Nat} {K : xK} {i : Int32} {v6 : Option Value} {v5 : Option Value} {s0 : Int32} {M : cM} : run T_L_law PI_RL false 1 (naL na_L_law) (caL (ca_L_law F)) (lkN []) (lkN sw_L_law) krX kxN (spL cut_L_law) K 60 1276 [some (.retAddr b), some (.ref 0), some (.ref 570), some (.ref 632), some (.int i), v5, v6] [.int s0, .ref 0] M = (K 1277 [some (.retAddr b), some (.ref 0), some (.ref 570), some (.ref 632), some (.int i), v5, v6] [.ref 632, .int s0, .ref 0] M) := rfl
theorem xs_1277 {F b L : Nat} {xs : Nat → Int32} {N n : Nat} {vs : List (Option Value)} {st : List Value} {M : cM} : runX PI_RL T_L_law na_L_law (ca_L_law F) sw_L_law (sp_L_law F b L xs) cut_L_law N (n + 1) 1277 vs st M = xWrap 3 (v_L_undo F) 1280 vs st M (runX PI_RL T_L_law na_L_law (ca_L_law F) sw_L_law (sp_L_law F b L xs) cut_L_law N n) := X_sp rfl
theorem xw_undo {F : Nat} {K : xK} {vs : List (Option Value)} {a0 : Nat} {a1 : Int32} {a2 : Nat} {M : cM} : xWrap 3 (v_L_undo F) 1280 vs [.ref a2, .int a1, .ref a0] M K = (f_L_undo F a0 a1 a2 M).bind fun r => K 1280 vs [.int r.1] r.2 := rfl
theorem xr_1280 {F b L : Nat} {xs : Nat → Int32} {N n : Nat} {vs : List (Option Value)} {st : List Value} {M : cM} : runX PI_RL T_L_law na_L_law (ca_L_law F) sw_L_law (sp_L_law F b L xs) cut_L_law N (n + 1) 1280 vs st M = run T_L_law PI_RL false 1 (naL na_L_law) (caL (ca_L_law F)) (lkN []) (lkN sw_L_law) krX kxN (spL cut_L_law) (runX PI_RL T_L_law na_L_law (ca_L_law F) sw_L_law (sp_L_law F b L xs) cut_L_law N n) N 1280 vs st M := X_run rfl
set_option maxRecDepth 100000 in
theorem sg_1280 {F b : Nat} {K : xK} {i : Int32} {v6 : Option Value} {v5 : Option Value} {s0 : Int32} {M : cM} : run T_L_law PI_RL false 1 (naL na_L_law) (caL (ca_L_law F)) (lkN []) (lkN sw_L_law) krX kxN (spL cut_L_law) K 60 1280 [some (.retAddr b), some (.ref 0), some (.ref 570), some (.ref 632), some (.int i), v5, v6] [.int s0] M = (K 1283 [some (.retAddr b), some (.ref 0), some (.ref 570), some (.ref 632), some (.int i), some (.int s0), v6] [.ref 570] M) := rfl
theorem xs_1283 {F b L : Nat} {xs : Nat → Int32} {N n : Nat} {vs : List (Option Value)} {st : List Value} {M : cM} : runX PI_RL T_L_law na_L_law (ca_L_law F) sw_L_law (sp_L_law F b L xs) cut_L_law N (n + 1) 1283 vs st M = xReadK b L xs 1 1289 vs st M (runX PI_RL T_L_law na_L_law (ca_L_law F) sw_L_law (sp_L_law F b L xs) cut_L_law N n) := X_sp rfl
theorem xr_1289 {F b L : Nat} {xs : Nat → Int32} {N n : Nat} {vs : List (Option Value)} {st : List Value} {M : cM} : runX PI_RL T_L_law na_L_law (ca_L_law F) sw_L_law (sp_L_law F b L xs) cut_L_law N (n + 1) 1289 vs st M = run T_L_law PI_RL false 1 (naL na_L_law) (caL (ca_L_law F)) (lkN []) (lkN sw_L_law) krX kxN (spL cut_L_law) (runX PI_RL T_L_law na_L_law (ca_L_law F) sw_L_law (sp_L_law F b L xs) cut_L_law N n) N 1289 vs st M := X_run rfl
set_option maxRecDepth 100000 in
theorem sg_1289 {F b : Nat} {K : xK} {i : Int32} {v6 : Option Value} {w5 : Int32} {s0 : Int32} {M : cM} : run T_L_law PI_RL false 1 (naL na_L_law) (caL (ca_L_law F)) (lkN []) (lkN sw_L_law) krX kxN (spL cut_L_law) K 60 1289 [some (.retAddr b), some (.ref 0), some (.ref 570), some (.ref 632), some (.int i), some (.int w5), v6] [.int s0, .ref 570] M = ((f_X12_undo F 570 s0 M).bind fun r1 =>
  (f_X12_thrown F 570 r1.2).bind fun r2 =>
  if r2.1 = w5 then (if w5 = 0 then ((aJ r2.2 632 (0)).bind fun v3 =>
  if r1.1 = 0 then (if (lg_cmp v3 (0)) = 0 then (K 25 [some (.retAddr b), some (.ref 0), some (.ref 570), some (.ref 632), some (.int (i + 7)), some (.int w5), some (.int r1.1)] [.int (i + 7)] r2.2) else (none)) else (if (lg_cmp v3 (1)) = 0 then (K 25 [some (.retAddr b), some (.ref 0), some (.ref 570), some (.ref 632), some (.int (i + 7)), some (.int w5), some (.int r1.1)] [.int (i + 7)] r2.2) else (none))) else (K 25 [some (.retAddr b), some (.ref 0), some (.ref 570), some (.ref 632), some (.int (i + 7)), some (.int w5), some (.int r1.1)] [.int (i + 7)] r2.2)) else (none)) := rfl
-- undo: (f_X12_undo F 570 (xs (q + 1).toNat) M1).bind fun r1 =>   (f_X12_thrown F 570 r1.2).bind fun r2 =>   if r2.1 = c then (if c = 0 then ((aJ r2.2 632 (0)).bind fun v3 =>   if r1.1 = 0 then (if (lg_cmp v3 (0)) = 0 then (K 25 [some (.retAddr b), some (.ref 0), some (.ref 570), some (.ref 632), some (.int ((I q) + 7)), some (.int c), some (.int r1.1)] [.int ((I q) + 7)] r2.2) else (none)) else (if (lg_cmp v3 (1)) = 0 then (K 25 [some (.retAddr b), some (.ref 0), some (.ref 570), some (.ref 632), some (.int ((I q) + 7)), some (.int c), some (.int r1.1)] [.int ((I q) + 7)] r2.2) else (none))) else (K 
theorem ends_undo {F b L : Nat} {xs : Nat → Int32} {k : Nat} {q : Int} {M : cM} (h0 : 0 ≤ q) (h1 : q + 7 ≤ L) (hL : L ≤ 3584) {c v : Int32} {M1 M2 M3 : cM} (hop : xs q.toNat &&& 31 = 17) (e1 : f_L_undo F 0 (((xs (q + 1).toNat))) 632 M = some (c, M1)) (e2 : f_X12_undo F 570 (xs (q + 1).toNat) M1 = some (v, M2)) (e3 : f_X12_thrown F 570 M2 = some (c, M3)) (e4 : (c = 0 → ∃ x, aJ M3 632 0 = some x ∧ lg_cmp x (if v = 0 then 0 else 1) = 0)) (h : Ends F b L xs k (q + 7) M3) : Ends F b L xs (k + 1) q M := by
  intro v5 v6
  obtain ⟨n, hn, r, hr⟩ := h (some (.int c)) (some (.int v))
  refine ⟨n + 10, by omega, r, ?_⟩
  rw [xs_25, xl_ok, xr_27]
  unfold lsX
  rw [sg_27, if_neg (h_cont h0 h1 hL)]
  rw [ls_eq, xs_33, x0_ok h0 h1 hL, xr_37]
  unfold lsX
  rw [sg_37, hop, if_neg (by decide), if_neg (by decide), if_neg (by decide), if_neg (by decide), if_neg (by decide), if_neg (by decide), if_neg (by decide), if_neg (by decide), if_neg (by decide), if_neg (by decide), if_neg (by decide), if_neg (by decide), if_neg (by decide), if_neg (by decide), if_neg (by decide), if_neg (by decide), if_neg (by decide), if_pos rfl]
  try rw [ls_eq]
  rw [xs_1270, xk_ok (j := 1) (v := 1) rfl h0 h1 hL (by decide) (by decide)]
  rw [xr_1276]
  try unfold lsX
  rw [sg_1276]
  rw [xs_1277, xw_undo, e1, Option.bind_some]
  rw [xr_1280]
  try unfold lsX
  rw [sg_1280]
  try rw [ls_eq]
  rw [xs_1283, xk_ok (j := 1) (v := 1) rfl h0 h1 hL (by decide) (by decide)]
  rw [xr_1289]
  try unfold lsX
  rw [sg_1289]
  rw [e2, Option.bind_some, e3, Option.bind_some, if_pos rfl]
  by_cases hc : c = 0
  · obtain ⟨x, e5, e6⟩ := e4 hc
    rw [if_pos hc, e5, Option.bind_some]
    by_cases hv : v = 0
    · rw [if_pos hv] at e6 ⊢
      rw [if_pos e6, ← hr, wr_q, wr_i]
    · rw [if_neg hv] at e6 ⊢
      rw [if_pos e6, ← hr, wr_q, wr_i]
  · rw [if_neg hc, ← hr, wr_q, wr_i]
theorem xs_1333 {F b L : Nat} {xs : Nat → Int32} {N n : Nat} {vs : List (Option Value)} {st : List Value} {M : cM} : runX PI_RL T_L_law na_L_law (ca_L_law F) sw_L_law (sp_L_law F b L xs) cut_L_law N (n + 1) 1333 vs st M = xReadK b L xs 1 1339 vs st M (runX PI_RL T_L_law na_L_law (ca_L_law F) sw_L_law (sp_L_law F b L xs) cut_L_law N n) := X_sp rfl
theorem xs_1339 {F b L : Nat} {xs : Nat → Int32} {N n : Nat} {vs : List (Option Value)} {st : List Value} {M : cM} : runX PI_RL T_L_law na_L_law (ca_L_law F) sw_L_law (sp_L_law F b L xs) cut_L_law N (n + 1) 1339 vs st M = xReadK b L xs 2 1345 vs st M (runX PI_RL T_L_law na_L_law (ca_L_law F) sw_L_law (sp_L_law F b L xs) cut_L_law N n) := X_sp rfl
theorem xr_1345 {F b L : Nat} {xs : Nat → Int32} {N n : Nat} {vs : List (Option Value)} {st : List Value} {M : cM} : runX PI_RL T_L_law na_L_law (ca_L_law F) sw_L_law (sp_L_law F b L xs) cut_L_law N (n + 1) 1345 vs st M = run T_L_law PI_RL false 1 (naL na_L_law) (caL (ca_L_law F)) (lkN []) (lkN sw_L_law) krX kxN (spL cut_L_law) (runX PI_RL T_L_law na_L_law (ca_L_law F) sw_L_law (sp_L_law F b L xs) cut_L_law N n) N 1345 vs st M := X_run rfl
set_option maxRecDepth 100000 in
theorem sg_1345 {F b : Nat} {K : xK} {i : Int32} {v6 : Option Value} {v5 : Option Value} {s0 : Int32} {s1 : Int32} {M : cM} : run T_L_law PI_RL false 1 (naL na_L_law) (caL (ca_L_law F)) (lkN []) (lkN sw_L_law) krX kxN (spL cut_L_law) K 60 1345 [some (.retAddr b), some (.ref 0), some (.ref 570), some (.ref 632), some (.int i), v5, v6] [.int s0, .int s1, .ref 0] M = (if s0 = 0 then (K 1354 [some (.retAddr b), some (.ref 0), some (.ref 570), some (.ref 632), some (.int i), v5, v6] [.ref 632, .int (0), .int s1, .ref 0] M) else (K 1354 [some (.retAddr b), some (.ref 0), some (.ref 570), some (.ref 632), some (.int i), v5, v6] [.ref 632, .int (1), .int s1, .ref 0] M)) := rfl
theorem sgb_1345 {F b : Nat} {K : xK} {i : Int32} {v5 : Option Value} {v6 : Option Value} {s0 : Int32} {s1 : Int32} {M : cM} : run T_L_law PI_RL false 1 (naL na_L_law) (caL (ca_L_law F)) (lkN []) (lkN sw_L_law) krX kxN (spL cut_L_law) K 60 1345 [some (.retAddr b), some (.ref 0), some (.ref 570), some (.ref 632), some (.int i), v5, v6] [.int s0, .int s1, .ref 0] M = K 1354 [some (.retAddr b), some (.ref 0), some (.ref 570), some (.ref 632), some (.int i), v5, v6] [.ref 632, .int (if s0 = 0 then (0) else (1)), .int s1, .ref 0] M := by
  rw [sg_1345]
  split <;> rfl
theorem xs_1354 {F b L : Nat} {xs : Nat → Int32} {N n : Nat} {vs : List (Option Value)} {st : List Value} {M : cM} : runX PI_RL T_L_law na_L_law (ca_L_law F) sw_L_law (sp_L_law F b L xs) cut_L_law N (n + 1) 1354 vs st M = xWrap 4 (v_L_stand F) 1357 vs st M (runX PI_RL T_L_law na_L_law (ca_L_law F) sw_L_law (sp_L_law F b L xs) cut_L_law N n) := X_sp rfl
theorem xw_stand {F : Nat} {K : xK} {vs : List (Option Value)} {a0 : Nat} {a1 : Int32} {a2 : Int32} {a3 : Nat} {M : cM} : xWrap 4 (v_L_stand F) 1357 vs [.ref a3, .int a2, .int a1, .ref a0] M K = (f_L_stand F a0 a1 a2 a3 M).bind fun r => K 1357 vs [.int r.1] r.2 := rfl
theorem xr_1357 {F b L : Nat} {xs : Nat → Int32} {N n : Nat} {vs : List (Option Value)} {st : List Value} {M : cM} : runX PI_RL T_L_law na_L_law (ca_L_law F) sw_L_law (sp_L_law F b L xs) cut_L_law N (n + 1) 1357 vs st M = run T_L_law PI_RL false 1 (naL na_L_law) (caL (ca_L_law F)) (lkN []) (lkN sw_L_law) krX kxN (spL cut_L_law) (runX PI_RL T_L_law na_L_law (ca_L_law F) sw_L_law (sp_L_law F b L xs) cut_L_law N n) N 1357 vs st M := X_run rfl
set_option maxRecDepth 100000 in
theorem sg_1357 {F b : Nat} {K : xK} {i : Int32} {v6 : Option Value} {v5 : Option Value} {s0 : Int32} {M : cM} : run T_L_law PI_RL false 1 (naL na_L_law) (caL (ca_L_law F)) (lkN []) (lkN sw_L_law) krX kxN (spL cut_L_law) K 60 1357 [some (.retAddr b), some (.ref 0), some (.ref 570), some (.ref 632), some (.int i), v5, v6] [.int s0] M = (K 1360 [some (.retAddr b), some (.ref 0), some (.ref 570), some (.ref 632), some (.int i), some (.int s0), v6] [.ref 570] M) := rfl
theorem xs_1360 {F b L : Nat} {xs : Nat → Int32} {N n : Nat} {vs : List (Option Value)} {st : List Value} {M : cM} : runX PI_RL T_L_law na_L_law (ca_L_law F) sw_L_law (sp_L_law F b L xs) cut_L_law N (n + 1) 1360 vs st M = xReadK b L xs 1 1366 vs st M (runX PI_RL T_L_law na_L_law (ca_L_law F) sw_L_law (sp_L_law F b L xs) cut_L_law N n) := X_sp rfl
theorem xs_1366 {F b L : Nat} {xs : Nat → Int32} {N n : Nat} {vs : List (Option Value)} {st : List Value} {M : cM} : runX PI_RL T_L_law na_L_law (ca_L_law F) sw_L_law (sp_L_law F b L xs) cut_L_law N (n + 1) 1366 vs st M = xReadK b L xs 2 1372 vs st M (runX PI_RL T_L_law na_L_law (ca_L_law F) sw_L_law (sp_L_law F b L xs) cut_L_law N n) := X_sp rfl
theorem xr_1372 {F b L : Nat} {xs : Nat → Int32} {N n : Nat} {vs : List (Option Value)} {st : List Value} {M : cM} : runX PI_RL T_L_law na_L_law (ca_L_law F) sw_L_law (sp_L_law F b L xs) cut_L_law N (n + 1) 1372 vs st M = run T_L_law PI_RL false 1 (naL na_L_law) (caL (ca_L_law F)) (lkN []) (lkN sw_L_law) krX kxN (spL cut_L_law) (runX PI_RL T_L_law na_L_law (ca_L_law F) sw_L_law (sp_L_law F b L xs) cut_L_law N n) N 1372 vs st M := X_run rfl
set_option maxRecDepth 100000 in
theorem sg_1372 {F b : Nat} {K : xK} {i : Int32} {v6 : Option Value} {w5 : Int32} {s0 : Int32} {s1 : Int32} {M : cM} : run T_L_law PI_RL false 1 (naL na_L_law) (caL (ca_L_law F)) (lkN []) (lkN sw_L_law) krX kxN (spL cut_L_law) K 60 1372 [some (.retAddr b), some (.ref 0), some (.ref 570), some (.ref 632), some (.int i), some (.int w5), v6] [.int s0, .int s1, .ref 570] M = (if s0 = 0 then ((f_X12_stand F 570 s1 (0) M).bind fun r1 =>
  (f_X12_thrown F 570 r1.2).bind fun r2 =>
  if r2.1 = w5 then (if w5 = 0 then ((aJ r2.2 632 (0)).bind fun v3 =>
  if r1.1 = 0 then (if (lg_cmp v3 (0)) = 0 then (K 25 [some (.retAddr b), some (.ref 0), some (.ref 570), some (.ref 632), some (.int (i + 7)), some (.int w5), some (.int r1.1)] [.int (i + 7)] r2.2) else (none)) else (if (lg_cmp v3 (1)) = 0 then (K 25 [some (.retAddr b), some (.ref 0), some (.ref 570), some (.ref 632), some (.int (i + 7)), some (.int w5), some (.int r1.1)] [.int (i + 7)] r2.2) else (none))) else (K 25 [some (.retAddr b), some (.ref 0), some (.ref 570), some (.ref 632), some (.int (i + 7)), some (.int w5), some (.int r1.1)] [.int (i + 7)] r2.2)) else (none)) else ((f_X12_stand F 570 s1 (1) M).bind fun r4 =>
  (f_X12_thrown F 570 r4.2).bind fun r5 =>
  if r5.1 = w5 then (if w5 = 0 then ((aJ r5.2 632 (0)).bind fun v6 =>
  if r4.1 = 0 then (if (lg_cmp v6 (0)) = 0 then (K 25 [some (.retAddr b), some (.ref 0), some (.ref 570), some (.ref 632), some (.int (i + 7)), some (.int w5), some (.int r4.1)] [.int (i + 7)] r5.2) else (none)) else (if (lg_cmp v6 (1)) = 0 then (K 25 [some (.retAddr b), some (.ref 0), some (.ref 570), some (.ref 632), some (.int (i + 7)), some (.int w5), some (.int r4.1)] [.int (i + 7)] r5.2) else (none))) else (K 25 [some (.retAddr b), some (.ref 0), some (.ref 570), some (.ref 632), some (.int (i + 7)), some (.int w5), some (.int r4.1)] [.int (i + 7)] r5.2)) else (none))) := rfl
-- stand: if (xs (q + 2).toNat) = 0 then ((f_X12_stand F 570 (xs (q + 1).toNat) (0) M1).bind fun r1 =>   (f_X12_thrown F 570 r1.2).bind fun r2 =>   if r2.1 = c then (if c = 0 then ((aJ r2.2 632 (0)).bind fun v3 =>   if r1.1 = 0 then (if (lg_cmp v3 (0)) = 0 then (K 25 [some (.retAddr b), some (.ref 0), some (.ref 570), some (.ref 632), some (.int ((I q) + 7)), some (.int c), some (.int r1.1)] [.int ((I q) + 7)] r2.2) else (none)) else (if (lg_cmp v3 (1)) = 0 then (K 25 [some (.retAddr b), some (.ref 0), some (.ref 570), some (.ref 632), some (.int ((I q) + 7)), some (.int c), some (.int r1.1)] [.int ((I 
theorem ends_stand {F b L : Nat} {xs : Nat → Int32} {k : Nat} {q : Int} {M : cM} (h0 : 0 ≤ q) (h1 : q + 7 ≤ L) (hL : L ≤ 3584) {c v : Int32} {M1 M2 M3 : cM} (hop : xs q.toNat &&& 31 = 18) (e1 : f_L_stand F 0 (((xs (q + 1).toNat))) ((if ((xs (q + 2).toNat)) = 0 then (0) else (1))) 632 M = some (c, M1)) (e2 : f_X12_stand F 570 (xs (q + 1).toNat) (if (xs (q + 2).toNat) = 0 then 0 else 1) M1 = some (v, M2)) (e3 : f_X12_thrown F 570 M2 = some (c, M3)) (e4 : (c = 0 → ∃ x, aJ M3 632 0 = some x ∧ lg_cmp x (if v = 0 then 0 else 1) = 0)) (h : Ends F b L xs k (q + 7) M3) : Ends F b L xs (k + 1) q M := by
  intro v5 v6
  obtain ⟨n, hn, r, hr⟩ := h (some (.int c)) (some (.int v))
  refine ⟨n + 12, by omega, r, ?_⟩
  rw [xs_25, xl_ok, xr_27]
  unfold lsX
  rw [sg_27, if_neg (h_cont h0 h1 hL)]
  rw [ls_eq, xs_33, x0_ok h0 h1 hL, xr_37]
  unfold lsX
  rw [sg_37, hop, if_neg (by decide), if_neg (by decide), if_neg (by decide), if_neg (by decide), if_neg (by decide), if_neg (by decide), if_neg (by decide), if_neg (by decide), if_neg (by decide), if_neg (by decide), if_neg (by decide), if_neg (by decide), if_neg (by decide), if_neg (by decide), if_neg (by decide), if_neg (by decide), if_neg (by decide), if_neg (by decide), if_pos rfl]
  try rw [ls_eq]
  rw [xs_1333, xk_ok (j := 1) (v := 1) rfl h0 h1 hL (by decide) (by decide)]
  try rw [ls_eq]
  rw [xs_1339, xk_ok (j := 2) (v := 2) rfl h0 h1 hL (by decide) (by decide)]
  rw [xr_1345]
  try unfold lsX
  rw [sgb_1345]
  rw [xs_1354, xw_stand, e1, Option.bind_some]
  rw [xr_1357]
  try unfold lsX
  rw [sg_1357]
  try rw [ls_eq]
  rw [xs_1360, xk_ok (j := 1) (v := 1) rfl h0 h1 hL (by decide) (by decide)]
  try rw [ls_eq]
  rw [xs_1366, xk_ok (j := 2) (v := 2) rfl h0 h1 hL (by decide) (by decide)]
  rw [xr_1372]
  try unfold lsX
  rw [sg_1372]
  by_cases hC : (xs (q + 2).toNat) = 0
  · rw [if_pos hC] at e2 ⊢
    rw [e2, Option.bind_some, e3, Option.bind_some, if_pos rfl]
    by_cases hc : c = 0
    · obtain ⟨x, e5, e6⟩ := e4 hc
      rw [if_pos hc, e5, Option.bind_some]
      by_cases hv : v = 0
      · rw [if_pos hv] at e6 ⊢
        rw [if_pos e6, ← hr, wr_q, wr_i]
      · rw [if_neg hv] at e6 ⊢
        rw [if_pos e6, ← hr, wr_q, wr_i]
    · rw [if_neg hc, ← hr, wr_q, wr_i]
  · rw [if_neg hC] at e2 ⊢
    rw [e2, Option.bind_some, e3, Option.bind_some, if_pos rfl]
    by_cases hc : c = 0
    · obtain ⟨x, e5, e6⟩ := e4 hc
      rw [if_pos hc, e5, Option.bind_some]
      by_cases hv : v = 0
      · rw [if_pos hv] at e6 ⊢
        rw [if_pos e6, ← hr, wr_q, wr_i]
      · rw [if_neg hv] at e6 ⊢
        rw [if_pos e6, ← hr, wr_q, wr_i]
    · rw [if_neg hc, ← hr, wr_q, wr_i]
theorem ends_asked {F b L : Nat} {xs : Nat → Int32} {k : Nat} {q : Int} {M : cM} (h0 : 0 ≤ q) (h1 : q + 7 ≤ L) (hL : L ≤ 3584) {v : Int32} {M1 M2 : cM} (hop : xs q.toNat &&& 31 = 19) (e1 : f_X11_asked F 0 M = some (v, M1)) (e2 : f_X12_asked F 570 M1 = some (v, M2)) (h : Ends F b L xs k (q + 7) M2) : Ends F b L xs (k + 1) q M := by
  intro v5 v6
  obtain ⟨n, hn, r, hr⟩ := h v5 v6
  refine ⟨n + 4, by omega, r, ?_⟩
  rw [xs_25, xl_ok, xr_27]
  unfold lsX
  rw [sg_27, if_neg (h_cont h0 h1 hL)]
  rw [ls_eq, xs_33, x0_ok h0 h1 hL, xr_37]
  unfold lsX
  rw [sg_37, hop, if_neg (by decide), if_neg (by decide), if_neg (by decide), if_neg (by decide), if_neg (by decide), if_neg (by decide), if_neg (by decide), if_neg (by decide), if_neg (by decide), if_neg (by decide), if_neg (by decide), if_neg (by decide), if_neg (by decide), if_neg (by decide), if_neg (by decide), if_neg (by decide), if_neg (by decide), if_neg (by decide), if_neg (by decide), if_pos rfl]
  rw [e1, Option.bind_some, e2, Option.bind_some, if_pos rfl, ← hr, wr_q, wr_i]
theorem wq_atomAt (F : Nat) (a0 : Nat) (a1 : Int32) (a2 : Int32) (a3 : Int32) (a4 : Int32) (a5 : Nat) (M : cM) : f_L_atomAt F a0 a1 a2 a3 a4 a5 M = (f_X11_atomAt F a0 a1 a2 a3 a4 M).bind fun p => if p.1 = 0 then ((sJ p.2.2 a5 0 p.2.1.toInt64).bind fun M1 => some (0, M1)) else kxW x_L_atomAt p.1 p.2.2 := rfl
theorem wq_condition (F : Nat) (a0 : Nat) (a1 : Int32) (a2 : Nat) (M : cM) : f_L_condition F a0 a1 a2 M = (f_X11_condition F a0 a1 M).bind fun p => if p.1 = 0 then ((sJ p.2.2 a2 0 p.2.1.toInt64).bind fun M1 => some (0, M1)) else kxW x_L_condition p.1 p.2.2 := rfl
theorem wq_count (F : Nat) (a0 : Nat) (a1 : Int32) (a2 : Nat) (M : cM) : f_L_count F a0 a1 a2 M = (f_X11_count F a0 a1 M).bind fun p => if p.1 = 0 then ((sJ p.2.2 a2 0 p.2.1.toInt64).bind fun M1 => some (0, M1)) else kxW x_L_count p.1 p.2.2 := rfl
theorem wq_learn (F : Nat) (a0 : Nat) (a1 : Int32) (a2 : Nat) (M : cM) : f_L_learn F a0 a1 a2 M = (f_X11_learn F a0 a1 M).bind fun p => if p.1 = 0 then ((sJ p.2.2 a2 0 p.2.1.toInt64).bind fun M1 => some (0, M1)) else kxW x_L_learn p.1 p.2.2 := rfl
theorem wq_length (F : Nat) (a0 : Nat) (a1 : Int32) (a2 : Nat) (M : cM) : f_L_length F a0 a1 a2 M = (f_X11_length F a0 a1 M).bind fun p => if p.1 = 0 then ((sJ p.2.2 a2 0 p.2.1.toInt64).bind fun M1 => some (0, M1)) else kxW x_L_length p.1 p.2.2 := rfl
theorem wq_line (F : Nat) (a0 : Nat) (a1 : Nat) (M : cM) : f_L_line F a0 a1 M = (f_X11_line F a0 M).bind fun p => if p.1 = 0 then ((sJ p.2.2 a1 0 p.2.1.toInt64).bind fun M1 => some (0, M1)) else kxW x_L_line p.1 p.2.2 := rfl
theorem wq_pin (F : Nat) (a0 : Nat) (a1 : Int32) (a2 : Int32) (a3 : Int32) (a4 : Int32) (a5 : Int32) (a6 : Int32) (a7 : Nat) (M : cM) : f_L_pin F a0 a1 a2 a3 a4 a5 a6 a7 M = (f_X11_pin F a0 a1 a2 a3 a4 a5 a6 M).bind fun p => if p.1 = 0 then ((sJ p.2.2 a7 0 p.2.1.toInt64).bind fun M1 => some (0, M1)) else kxW x_L_pin p.1 p.2.2 := rfl
theorem wq_placeOf (F : Nat) (a0 : Nat) (a1 : Int32) (a2 : Int32) (a3 : Nat) (M : cM) : f_L_placeOf F a0 a1 a2 a3 M = (f_X11_placeOf F a0 a1 a2 M).bind fun p => if p.1 = 0 then ((sJ p.2.2 a3 0 p.2.1.toInt64).bind fun M1 => some (0, M1)) else kxW x_L_placeOf p.1 p.2.2 := rfl
theorem wq_preview (F : Nat) (a0 : Nat) (a1 : Int32) (a2 : Int32) (a3 : Int32) (a4 : Nat) (M : cM) : f_L_preview F a0 a1 a2 a3 a4 M = (f_X11_preview F a0 a1 a2 a3 M).bind fun p => if p.1 = 0 then ((sJ p.2.2 a4 0 p.2.1.toInt64).bind fun M1 => some (0, M1)) else kxW x_L_preview p.1 p.2.2 := rfl
theorem wq_question (F : Nat) (a0 : Nat) (a1 : Int32) (a2 : Nat) (M : cM) : f_L_question F a0 a1 a2 M = (f_X11_question F a0 a1 M).bind fun p => if p.1 = 0 then ((sJ p.2.2 a2 0 p.2.1.toInt64).bind fun M1 => some (0, M1)) else kxW x_L_question p.1 p.2.2 := rfl
theorem wq_refuse (F : Nat) (a0 : Nat) (a1 : Int32) (a2 : Int32) (a3 : Nat) (M : cM) : f_L_refuse F a0 a1 a2 a3 M = (f_X11_refuse F a0 a1 a2 M).bind fun p => if p.1 = 0 then ((sJ p.2.2 a3 0 p.2.1.toInt64).bind fun M1 => some (0, M1)) else kxW x_L_refuse p.1 p.2.2 := rfl
theorem wq_run (F : Nat) (a0 : Nat) (a1 : Int32) (a2 : Int32) (a3 : Int32) (a4 : Int32) (a5 : Nat) (M : cM) : f_L_run F a0 a1 a2 a3 a4 a5 M = (f_X11_run F a0 a1 a2 a3 a4 M).bind fun p => if p.1 = 0 then ((sJ p.2.2 a5 0 p.2.1.toInt64).bind fun M1 => some (0, M1)) else kxW x_L_run p.1 p.2.2 := rfl
theorem wq_show (F : Nat) (a0 : Nat) (a1 : Int32) (a2 : Int32) (a3 : Nat) (M : cM) : f_L_show F a0 a1 a2 a3 M = (f_X11_show F a0 a1 a2 M).bind fun p => if p.1 = 0 then ((sJ p.2.2 a3 0 p.2.1.toInt64).bind fun M1 => some (0, M1)) else kxW x_L_show p.1 p.2.2 := rfl
theorem wq_signAt (F : Nat) (a0 : Nat) (a1 : Int32) (a2 : Int32) (a3 : Nat) (M : cM) : f_L_signAt F a0 a1 a2 a3 M = (f_X11_signAt F a0 a1 a2 M).bind fun p => if p.1 = 0 then ((sJ p.2.2 a3 0 p.2.1.toInt64).bind fun M1 => some (0, M1)) else kxW x_L_signAt p.1 p.2.2 := rfl
theorem wq_stand (F : Nat) (a0 : Nat) (a1 : Int32) (a2 : Int32) (a3 : Nat) (M : cM) : f_L_stand F a0 a1 a2 a3 M = (f_X11_stand F a0 a1 a2 M).bind fun p => if p.1 = 0 then (if p.2.1 = 0 then ((sJ p.2.2 a3 0 0).bind fun M1 => some (0, M1)) else ((sJ p.2.2 a3 0 1).bind fun M1 => some (0, M1))) else kxW x_L_stand p.1 p.2.2 := rfl
theorem wq_type (F : Nat) (a0 : Nat) (a1 : Int32) (a2 : Nat) (M : cM) : f_L_type F a0 a1 a2 M = (f_X11_type F a0 a1 M).bind fun p => if p.1 = 0 then ((sJ p.2.2 a2 0 p.2.1.toInt64).bind fun M1 => some (0, M1)) else kxW x_L_type p.1 p.2.2 := rfl
theorem wq_undo (F : Nat) (a0 : Nat) (a1 : Int32) (a2 : Nat) (M : cM) : f_L_undo F a0 a1 a2 M = (f_X11_undo F a0 a1 M).bind fun p => if p.1 = 0 then (if p.2.1 = 0 then ((sJ p.2.2 a2 0 0).bind fun M1 => some (0, M1)) else ((sJ p.2.2 a2 0 1).bind fun M1 => some (0, M1))) else kxW x_L_undo p.1 p.2.2 := rfl
theorem wq_weight (F : Nat) (a0 : Nat) (a1 : Int32) (a2 : Int32) (a3 : Nat) (M : cM) : f_L_weight F a0 a1 a2 a3 M = (f_X11_weight F a0 a1 a2 M).bind fun p => if p.1 = 0 then ((sJ p.2.2 a3 0 p.2.1.toInt64).bind fun M1 => some (0, M1)) else kxW x_L_weight p.1 p.2.2 := rfl
