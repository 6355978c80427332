/-! THE STATE BEHIND THE TWO CONSTRUCTORS (laid by wip/whole/tools/gen_z0.py) -/
def neg4 : Nat → Int32 := upd (upd (upd (upd (fun _ => 0) 0 (-1)) 1 (-1)) 2 (-1)) 3 (-1)
def neg3 : Nat → Int32 := upd (upd (upd (fun _ => 0) 0 (-1)) 1 (-1)) 2 (-1)
def neg12 : Nat → Int32 := upd (upd (upd (upd (upd (upd (upd (upd neg4 4 (-1)) 5 (-1)) 6 (-1)) 7 (-1)) 8 (-1)) 9 (-1)) 10 (-1)) 11 (-1)
def z0 : Z := (fun _ => (fun _ => 0, fun _ => 0, 0), fun _ => (fun _ => 0, 0), fun _ => (0, -1), fun _ => (fun _ => 0, 0), fun _ => (fun _ => 0, 0, 0, neg4, 0, 0, 0), fun _ => (fun _ => 0, fun _ => 0, fun _ => 0, fun _ => 0, fun _ => 0), fun _ => 0, up (up (fun _ _ => 0) 587 neg12) 593 neg3, fun _ _ => 0, 0, none, rch eStock_boards 4)
def aR_ (t n : Nat) (f : Nat → Option Nat) : cE := .inl (t, n, .inr (.inr (.inr (.inr f))))
def scr (k : Nat) : cE := .inr (9, (([.ref 1, .ref 4, .ref 7, .ref 221, .ref 286, .ref 437, .ref 438] : List Value).take k) ++ List.replicate (7 - k) .null ++ [.int 0, .int 0, .int 0])
def stT (t : Nat) : cM := ((((mk z0).take (8 + 71 * t)).set 0 (scr 3)).set 7 (aR_ 8 3 (rch eScript_tasks t)))
def stL (t : Nat) : cM := ((((mk z0).take (222 + 8 * t)).set 0 (scr 4)).set 221 (aR_ 6 8 (rch eScript_lines t)))
def stR (t : Nat) : cM := ((((mk z0).take (287 + 5 * t)).set 0 (scr 5)).set 286 (aR_ 5 30 (rch eScript_ranBy t)))
def n_Task : cE := .inr (7, [.null, .null, .null, .int 0, .null, .null, .int 0, .null, .null, .int 0, .null, .int 0, .int 0])
def n_Line : cE := .inr (4, [.null, .null, .null, .int 0])
def n_Learnt : cE := .inr (3, [.null, .null, .int 0, .int 0])
def n_Learner : cE := .inr (2, [.null, .null, .null, .null, .null])
theorem st_36 {F n a q : Nat} {M M' M'' : cM} {t t' : Int32} (ht : ¬ (3 : Int32) ≤ t) (ht' : t + 1 = t') (ha : M.length = a) (hq : fR M 0 9 2 = some q) (h1 : f_X9_init F a (M ++ [n_Task]) = some M') (h2 : (M ++ [n_Task]).length ≤ M'.length ∧ msz (M ++ [n_Task]) ≤ msz M') (h3 : sR M' q t a = some M'') : f_X11_init_36 F (n + 1) 0 t M = f_X11_init_36 F n 0 t' M'' := by
  subst ht'
  subst ha
  show b_X11_init_36 F _ _ 0 t M = _
  unfold b_X11_init_36
  rw [if_neg ht, hq]
  show ((f_X9_init F M.length (M ++ [n_Task])).bind fun M7 => ckm (M ++ [n_Task]) M7 ((sR M7 q t M.length).bind fun M8 => f_X11_init_36 F n 0 (t + 1) M8)) = _
  rw [h1]
  show ckm (M ++ [n_Task]) M' ((sR M' q t M.length).bind fun M8 => f_X11_init_36 F n 0 (t + 1) M8) = _
  unfold ckm
  rw [if_pos h2, h3]
  rfl
theorem st_71 {F n a q : Nat} {M M' M'' : cM} {t t' : Int32} (ht : ¬ (8 : Int32) ≤ t) (ht' : t + 1 = t') (ha : M.length = a) (hq : fR M 0 9 3 = some q) (h1 : f_X5_init F a (M ++ [n_Line]) = some M') (h2 : (M ++ [n_Line]).length ≤ M'.length ∧ msz (M ++ [n_Line]) ≤ msz M') (h3 : sR M' q t a = some M'') : f_X11_init_71 F (n + 1) 0 t M = f_X11_init_71 F n 0 t' M'' := by
  subst ht'
  subst ha
  show b_X11_init_71 F _ _ 0 t M = _
  unfold b_X11_init_71
  rw [if_neg ht, hq]
  show ((f_X5_init F M.length (M ++ [n_Line])).bind fun M7 => ckm (M ++ [n_Line]) M7 ((sR M7 q t M.length).bind fun M8 => f_X11_init_71 F n 0 (t + 1) M8)) = _
  rw [h1]
  show ckm (M ++ [n_Line]) M' ((sR M' q t M.length).bind fun M8 => f_X11_init_71 F n 0 (t + 1) M8) = _
  unfold ckm
  rw [if_pos h2, h3]
  rfl
theorem st_107 {F n a q : Nat} {M M' M'' : cM} {t t' : Int32} (ht : ¬ (30 : Int32) ≤ t) (ht' : t + 1 = t') (ha : M.length = a) (hq : fR M 0 9 4 = some q) (h1 : f_X4_init F a (M ++ [n_Learnt]) = some M') (h2 : (M ++ [n_Learnt]).length ≤ M'.length ∧ msz (M ++ [n_Learnt]) ≤ msz M') (h3 : sR M' q t a = some M'') : f_X11_init_107 F (n + 1) 0 t M = f_X11_init_107 F n 0 t' M'' := by
  subst ht'
  subst ha
  show b_X11_init_107 F _ 0 t M = _
  unfold b_X11_init_107
  rw [if_neg ht, hq]
  show ((f_X4_init F M.length (M ++ [n_Learnt])).bind fun M7 => ckm (M ++ [n_Learnt]) M7 ((sR M7 q t M.length).bind fun M8 => f_X11_init_107 F n 0 (t + 1) M8)) = _
  rw [h1]
  show ckm (M ++ [n_Learnt]) M' ((sR M' q t M.length).bind fun M8 => f_X11_init_107 F n 0 (t + 1) M8) = _
  unfold ckm
  rw [if_pos h2, h3]
  rfl
set_option maxRecDepth 100000
set_option maxHeartbeats 4000000
theorem sT_0 : f_X11_init_36 300000 300000 0 0 (stT 0) = f_X11_init_36 300000 299999 0 1 (stT 1) := st_36 (n := 299999) (by decide) (by decide) rfl rfl rfl ⟨Nat.le_of_ble_eq_true rfl, Nat.le_of_ble_eq_true rfl⟩ rfl
theorem sT_1 : f_X11_init_36 300000 299999 0 1 (stT 1) = f_X11_init_36 300000 299998 0 2 (stT 2) := st_36 (n := 299998) (by decide) (by decide) rfl rfl rfl ⟨Nat.le_of_ble_eq_true rfl, Nat.le_of_ble_eq_true rfl⟩ rfl
theorem sT_2 : f_X11_init_36 300000 299998 0 2 (stT 2) = f_X11_init_36 300000 299997 0 3 (stT 3) := st_36 (n := 299997) (by decide) (by decide) rfl rfl rfl ⟨Nat.le_of_ble_eq_true rfl, Nat.le_of_ble_eq_true rfl⟩ rfl
theorem sL_0 : f_X11_init_71 300000 300000 0 0 (stL 0) = f_X11_init_71 300000 299999 0 1 (stL 1) := st_71 (n := 299999) (by decide) (by decide) rfl rfl rfl ⟨Nat.le_of_ble_eq_true rfl, Nat.le_of_ble_eq_true rfl⟩ rfl
theorem sL_1 : f_X11_init_71 300000 299999 0 1 (stL 1) = f_X11_init_71 300000 299998 0 2 (stL 2) := st_71 (n := 299998) (by decide) (by decide) rfl rfl rfl ⟨Nat.le_of_ble_eq_true rfl, Nat.le_of_ble_eq_true rfl⟩ rfl
theorem sL_2 : f_X11_init_71 300000 299998 0 2 (stL 2) = f_X11_init_71 300000 299997 0 3 (stL 3) := st_71 (n := 299997) (by decide) (by decide) rfl rfl rfl ⟨Nat.le_of_ble_eq_true rfl, Nat.le_of_ble_eq_true rfl⟩ rfl
theorem sL_3 : f_X11_init_71 300000 299997 0 3 (stL 3) = f_X11_init_71 300000 299996 0 4 (stL 4) := st_71 (n := 299996) (by decide) (by decide) rfl rfl rfl ⟨Nat.le_of_ble_eq_true rfl, Nat.le_of_ble_eq_true rfl⟩ rfl
theorem sL_4 : f_X11_init_71 300000 299996 0 4 (stL 4) = f_X11_init_71 300000 299995 0 5 (stL 5) := st_71 (n := 299995) (by decide) (by decide) rfl rfl rfl ⟨Nat.le_of_ble_eq_true rfl, Nat.le_of_ble_eq_true rfl⟩ rfl
theorem sL_5 : f_X11_init_71 300000 299995 0 5 (stL 5) = f_X11_init_71 300000 299994 0 6 (stL 6) := st_71 (n := 299994) (by decide) (by decide) rfl rfl rfl ⟨Nat.le_of_ble_eq_true rfl, Nat.le_of_ble_eq_true rfl⟩ rfl
theorem sL_6 : f_X11_init_71 300000 299994 0 6 (stL 6) = f_X11_init_71 300000 299993 0 7 (stL 7) := st_71 (n := 299993) (by decide) (by decide) rfl rfl rfl ⟨Nat.le_of_ble_eq_true rfl, Nat.le_of_ble_eq_true rfl⟩ rfl
theorem sL_7 : f_X11_init_71 300000 299993 0 7 (stL 7) = f_X11_init_71 300000 299992 0 8 (stL 8) := st_71 (n := 299992) (by decide) (by decide) rfl rfl rfl ⟨Nat.le_of_ble_eq_true rfl, Nat.le_of_ble_eq_true rfl⟩ rfl
theorem sR_0 : f_X11_init_107 300000 300000 0 0 (stR 0) = f_X11_init_107 300000 299999 0 1 (stR 1) := st_107 (n := 299999) (by decide) (by decide) rfl rfl rfl ⟨Nat.le_of_ble_eq_true rfl, Nat.le_of_ble_eq_true rfl⟩ rfl
theorem sR_1 : f_X11_init_107 300000 299999 0 1 (stR 1) = f_X11_init_107 300000 299998 0 2 (stR 2) := st_107 (n := 299998) (by decide) (by decide) rfl rfl rfl ⟨Nat.le_of_ble_eq_true rfl, Nat.le_of_ble_eq_true rfl⟩ rfl
theorem sR_2 : f_X11_init_107 300000 299998 0 2 (stR 2) = f_X11_init_107 300000 299997 0 3 (stR 3) := st_107 (n := 299997) (by decide) (by decide) rfl rfl rfl ⟨Nat.le_of_ble_eq_true rfl, Nat.le_of_ble_eq_true rfl⟩ rfl
theorem sR_3 : f_X11_init_107 300000 299997 0 3 (stR 3) = f_X11_init_107 300000 299996 0 4 (stR 4) := st_107 (n := 299996) (by decide) (by decide) rfl rfl rfl ⟨Nat.le_of_ble_eq_true rfl, Nat.le_of_ble_eq_true rfl⟩ rfl
theorem sR_4 : f_X11_init_107 300000 299996 0 4 (stR 4) = f_X11_init_107 300000 299995 0 5 (stR 5) := st_107 (n := 299995) (by decide) (by decide) rfl rfl rfl ⟨Nat.le_of_ble_eq_true rfl, Nat.le_of_ble_eq_true rfl⟩ rfl
theorem sR_5 : f_X11_init_107 300000 299995 0 5 (stR 5) = f_X11_init_107 300000 299994 0 6 (stR 6) := st_107 (n := 299994) (by decide) (by decide) rfl rfl rfl ⟨Nat.le_of_ble_eq_true rfl, Nat.le_of_ble_eq_true rfl⟩ rfl
theorem sR_6 : f_X11_init_107 300000 299994 0 6 (stR 6) = f_X11_init_107 300000 299993 0 7 (stR 7) := st_107 (n := 299993) (by decide) (by decide) rfl rfl rfl ⟨Nat.le_of_ble_eq_true rfl, Nat.le_of_ble_eq_true rfl⟩ rfl
theorem sR_7 : f_X11_init_107 300000 299993 0 7 (stR 7) = f_X11_init_107 300000 299992 0 8 (stR 8) := st_107 (n := 299992) (by decide) (by decide) rfl rfl rfl ⟨Nat.le_of_ble_eq_true rfl, Nat.le_of_ble_eq_true rfl⟩ rfl
theorem sR_8 : f_X11_init_107 300000 299992 0 8 (stR 8) = f_X11_init_107 300000 299991 0 9 (stR 9) := st_107 (n := 299991) (by decide) (by decide) rfl rfl rfl ⟨Nat.le_of_ble_eq_true rfl, Nat.le_of_ble_eq_true rfl⟩ rfl
theorem sR_9 : f_X11_init_107 300000 299991 0 9 (stR 9) = f_X11_init_107 300000 299990 0 10 (stR 10) := st_107 (n := 299990) (by decide) (by decide) rfl rfl rfl ⟨Nat.le_of_ble_eq_true rfl, Nat.le_of_ble_eq_true rfl⟩ rfl
theorem sR_10 : f_X11_init_107 300000 299990 0 10 (stR 10) = f_X11_init_107 300000 299989 0 11 (stR 11) := st_107 (n := 299989) (by decide) (by decide) rfl rfl rfl ⟨Nat.le_of_ble_eq_true rfl, Nat.le_of_ble_eq_true rfl⟩ rfl
theorem sR_11 : f_X11_init_107 300000 299989 0 11 (stR 11) = f_X11_init_107 300000 299988 0 12 (stR 12) := st_107 (n := 299988) (by decide) (by decide) rfl rfl rfl ⟨Nat.le_of_ble_eq_true rfl, Nat.le_of_ble_eq_true rfl⟩ rfl
theorem sR_12 : f_X11_init_107 300000 299988 0 12 (stR 12) = f_X11_init_107 300000 299987 0 13 (stR 13) := st_107 (n := 299987) (by decide) (by decide) rfl rfl rfl ⟨Nat.le_of_ble_eq_true rfl, Nat.le_of_ble_eq_true rfl⟩ rfl
theorem sR_13 : f_X11_init_107 300000 299987 0 13 (stR 13) = f_X11_init_107 300000 299986 0 14 (stR 14) := st_107 (n := 299986) (by decide) (by decide) rfl rfl rfl ⟨Nat.le_of_ble_eq_true rfl, Nat.le_of_ble_eq_true rfl⟩ rfl
theorem sR_14 : f_X11_init_107 300000 299986 0 14 (stR 14) = f_X11_init_107 300000 299985 0 15 (stR 15) := st_107 (n := 299985) (by decide) (by decide) rfl rfl rfl ⟨Nat.le_of_ble_eq_true rfl, Nat.le_of_ble_eq_true rfl⟩ rfl
theorem sR_15 : f_X11_init_107 300000 299985 0 15 (stR 15) = f_X11_init_107 300000 299984 0 16 (stR 16) := st_107 (n := 299984) (by decide) (by decide) rfl rfl rfl ⟨Nat.le_of_ble_eq_true rfl, Nat.le_of_ble_eq_true rfl⟩ rfl
theorem sR_16 : f_X11_init_107 300000 299984 0 16 (stR 16) = f_X11_init_107 300000 299983 0 17 (stR 17) := st_107 (n := 299983) (by decide) (by decide) rfl rfl rfl ⟨Nat.le_of_ble_eq_true rfl, Nat.le_of_ble_eq_true rfl⟩ rfl
theorem sR_17 : f_X11_init_107 300000 299983 0 17 (stR 17) = f_X11_init_107 300000 299982 0 18 (stR 18) := st_107 (n := 299982) (by decide) (by decide) rfl rfl rfl ⟨Nat.le_of_ble_eq_true rfl, Nat.le_of_ble_eq_true rfl⟩ rfl
theorem sR_18 : f_X11_init_107 300000 299982 0 18 (stR 18) = f_X11_init_107 300000 299981 0 19 (stR 19) := st_107 (n := 299981) (by decide) (by decide) rfl rfl rfl ⟨Nat.le_of_ble_eq_true rfl, Nat.le_of_ble_eq_true rfl⟩ rfl
theorem sR_19 : f_X11_init_107 300000 299981 0 19 (stR 19) = f_X11_init_107 300000 299980 0 20 (stR 20) := st_107 (n := 299980) (by decide) (by decide) rfl rfl rfl ⟨Nat.le_of_ble_eq_true rfl, Nat.le_of_ble_eq_true rfl⟩ rfl
theorem sR_20 : f_X11_init_107 300000 299980 0 20 (stR 20) = f_X11_init_107 300000 299979 0 21 (stR 21) := st_107 (n := 299979) (by decide) (by decide) rfl rfl rfl ⟨Nat.le_of_ble_eq_true rfl, Nat.le_of_ble_eq_true rfl⟩ rfl
theorem sR_21 : f_X11_init_107 300000 299979 0 21 (stR 21) = f_X11_init_107 300000 299978 0 22 (stR 22) := st_107 (n := 299978) (by decide) (by decide) rfl rfl rfl ⟨Nat.le_of_ble_eq_true rfl, Nat.le_of_ble_eq_true rfl⟩ rfl
theorem sR_22 : f_X11_init_107 300000 299978 0 22 (stR 22) = f_X11_init_107 300000 299977 0 23 (stR 23) := st_107 (n := 299977) (by decide) (by decide) rfl rfl rfl ⟨Nat.le_of_ble_eq_true rfl, Nat.le_of_ble_eq_true rfl⟩ rfl
theorem sR_23 : f_X11_init_107 300000 299977 0 23 (stR 23) = f_X11_init_107 300000 299976 0 24 (stR 24) := st_107 (n := 299976) (by decide) (by decide) rfl rfl rfl ⟨Nat.le_of_ble_eq_true rfl, Nat.le_of_ble_eq_true rfl⟩ rfl
theorem sR_24 : f_X11_init_107 300000 299976 0 24 (stR 24) = f_X11_init_107 300000 299975 0 25 (stR 25) := st_107 (n := 299975) (by decide) (by decide) rfl rfl rfl ⟨Nat.le_of_ble_eq_true rfl, Nat.le_of_ble_eq_true rfl⟩ rfl
theorem sR_25 : f_X11_init_107 300000 299975 0 25 (stR 25) = f_X11_init_107 300000 299974 0 26 (stR 26) := st_107 (n := 299974) (by decide) (by decide) rfl rfl rfl ⟨Nat.le_of_ble_eq_true rfl, Nat.le_of_ble_eq_true rfl⟩ rfl
theorem sR_26 : f_X11_init_107 300000 299974 0 26 (stR 26) = f_X11_init_107 300000 299973 0 27 (stR 27) := st_107 (n := 299973) (by decide) (by decide) rfl rfl rfl ⟨Nat.le_of_ble_eq_true rfl, Nat.le_of_ble_eq_true rfl⟩ rfl
theorem sR_27 : f_X11_init_107 300000 299973 0 27 (stR 27) = f_X11_init_107 300000 299972 0 28 (stR 28) := st_107 (n := 299972) (by decide) (by decide) rfl rfl rfl ⟨Nat.le_of_ble_eq_true rfl, Nat.le_of_ble_eq_true rfl⟩ rfl
theorem sR_28 : f_X11_init_107 300000 299972 0 28 (stR 28) = f_X11_init_107 300000 299971 0 29 (stR 29) := st_107 (n := 299971) (by decide) (by decide) rfl rfl rfl ⟨Nat.le_of_ble_eq_true rfl, Nat.le_of_ble_eq_true rfl⟩ rfl
theorem sR_29 : f_X11_init_107 300000 299971 0 29 (stR 29) = f_X11_init_107 300000 299970 0 30 (stR 30) := st_107 (n := 299970) (by decide) (by decide) rfl rfl rfl ⟨Nat.le_of_ble_eq_true rfl, Nat.le_of_ble_eq_true rfl⟩ rfl
theorem en_0 {F q1 q5 q9 : Nat} {M M3 M4 M7 M8 M11 : cM} (e1 : M.length = q1) (h1 : f_X10_init F q1 (M ++ ([.inr (8, [.null, .null, .int 0])] : cM)) = some M3) (h2 : (M ++ ([.inr (8, [.null, .null, .int 0])] : cM)).length ≤ M3.length ∧ msz (M ++ ([.inr (8, [.null, .null, .int 0])] : cM)) ≤ msz M3) (h3 : pF M3 0 9 0 (.ref q1) = some M4) (e5 : M4.length = q5) (h4 : f_X10_init F q5 (M4 ++ ([.inr (8, [.null, .null, .int 0])] : cM)) = some M7) (h5 : (M4 ++ ([.inr (8, [.null, .null, .int 0])] : cM)).length ≤ M7.length ∧ msz (M4 ++ ([.inr (8, [.null, .null, .int 0])] : cM)) ≤ msz M7) (h6 : pF M7 0 9 1 (.ref q5) = some M8) (e9 : M8.length = q9) (h7 : pF (M8 ++ [.inl (8, 3, .inr (.inr (.inr (.inr (fun _ => none)))))]) 0 9 2 (.ref q9) = some M11) : f_X11_init F 0 M = f_X11_init_36 F F 0 0 M11 := by
  subst e1
  subst e5
  subst e9
  show b_X11_init_0 F _ 0 M = _
  unfold b_X11_init_0
  dsimp only
  rw [h1]
  dsimp only [Option.bind_some]
  unfold ckm
  rw [if_pos h2, h3]
  dsimp only [Option.bind_some]
  rw [h4]
  dsimp only [Option.bind_some]
  rw [if_pos h5, h6]
  dsimp only [Option.bind_some]
  rw [if_pos (by decide), show (3 : Int32).toNatClampNeg = 3 by decide, h7]
  rfl
def stA : cM := scr 0 :: ((mk z0).drop 1).take 3
def stB : cM := scr 1 :: ((mk z0).drop 1).take 3
def stC : cM := scr 1 :: ((mk z0).drop 1).take 6
def stD : cM := scr 2 :: ((mk z0).drop 1).take 6
theorem sT_a : f_X11_init 300000 0 [n_X11] = f_X11_init_36 300000 300000 0 0 (stT 0) := en_0 (M3 := stA) (M4 := stB) (M7 := stC) (M8 := stD) rfl rfl ⟨Nat.le_of_ble_eq_true rfl, Nat.le_of_ble_eq_true rfl⟩ rfl rfl rfl ⟨Nat.le_of_ble_eq_true rfl, Nat.le_of_ble_eq_true rfl⟩ rfl rfl rfl
theorem en_36 {F n q : Nat} {M M' : cM} (hq : M.length = q) (h : pF (M ++ [.inl (6, 8, .inr (.inr (.inr (.inr (fun _ => none)))))]) 0 9 3 (.ref q) = some M') : f_X11_init_36 F (n + 1) 0 3 M = f_X11_init_71 F F 0 0 M' := by
  subst hq
  show b_X11_init_36 F _ _ 0 3 M = _
  unfold b_X11_init_36
  rw [if_pos (by decide), if_pos (by decide)]
  show ((pF (M ++ [.inl (6, (8 : Int32).toNatClampNeg, .inr (.inr (.inr (.inr (fun _ => none)))))]) 0 9 3 (.ref M.length)).bind fun M3 => f_X11_init_71 F F 0 0 M3) = _
  rw [show (8 : Int32).toNatClampNeg = 8 by decide, h]
  rfl
theorem en_71 {F n q : Nat} {M M' : cM} (hq : M.length = q) (h : pF (M ++ [.inl (5, 30, .inr (.inr (.inr (.inr (fun _ => none)))))]) 0 9 4 (.ref q) = some M') : f_X11_init_71 F (n + 1) 0 8 M = f_X11_init_107 F F 0 0 M' := by
  subst hq
  show b_X11_init_71 F _ _ 0 8 M = _
  unfold b_X11_init_71
  rw [if_pos (by decide), if_pos (by decide)]
  show ((pF (M ++ [.inl (5, (30 : Int32).toNatClampNeg, .inr (.inr (.inr (.inr (fun _ => none)))))]) 0 9 4 (.ref M.length)).bind fun M3 => f_X11_init_107 F F 0 0 M3) = _
  rw [show (30 : Int32).toNatClampNeg = 30 by decide, h]
  rfl
theorem en_107 {F n q a : Nat} {M M3 M6 M7 : cM} (hq : M.length = q) (h : pF (M ++ [.inl (3, 30, .inl (fun _ => 0))]) 0 9 5 (.ref q) = some M3) (ha : M3.length = a) (h1 : f_X3_init F a (M3 ++ [n_Learner]) = some M6) (h2 : (M3 ++ [n_Learner]).length ≤ M6.length ∧ msz (M3 ++ [n_Learner]) ≤ msz M6) (h3 : pF M6 0 9 6 (.ref a) = some M7) : f_X11_init_107 F (n + 1) 0 30 M = some M7 := by
  subst hq
  subst ha
  show b_X11_init_107 F _ 0 30 M = _
  unfold b_X11_init_107
  rw [if_pos (by decide), if_pos (by decide)]
  show ((pF (M ++ [.inl (3, (30 : Int32).toNatClampNeg, .inl (fun _ => 0))]) 0 9 5 (.ref M.length)).bind fun M3 => (f_X3_init F M3.length (M3 ++ [n_Learner])).bind fun M6 => ckm (M3 ++ [n_Learner]) M6 ((pF M6 0 9 6 (.ref M3.length)).bind fun M7 => some M7)) = _
  rw [show (30 : Int32).toNatClampNeg = 30 by decide, h]
  show ((f_X3_init F M3.length (M3 ++ [n_Learner])).bind fun M6 => ckm (M3 ++ [n_Learner]) M6 ((pF M6 0 9 6 (.ref M3.length)).bind fun M7 => some M7)) = _
  rw [h1]
  show ckm (M3 ++ [n_Learner]) M6 ((pF M6 0 9 6 (.ref M3.length)).bind fun M7 => some M7) = _
  unfold ckm
  rw [if_pos h2, h3]
  rfl
theorem sT_e : f_X11_init_36 300000 299997 0 3 (stT 3) = f_X11_init_71 300000 300000 0 0 (stL 0) := en_36 (n := 299996) rfl rfl
theorem sL_e : f_X11_init_71 300000 299992 0 8 (stL 8) = f_X11_init_107 300000 300000 0 0 (stR 0) := en_71 (n := 299991) rfl rfl
def stX : cM := ((mk z0).take 438).set 0 (scr 6)
def stY : cM := ((mk z0).take 570).set 0 (scr 6)
theorem sX : f_X3_init 300000 438 (stX ++ [n_Learner]) = some stY := rfl
theorem sR_e : f_X11_init_107 300000 299970 0 30 (stR 30) = some ((mk z0).take 570) := en_107 (n := 299969) (M3 := stX) (M6 := stY) rfl rfl rfl sX ⟨Nat.le_of_ble_eq_true rfl, Nat.le_of_ble_eq_true rfl⟩ rfl
theorem z0_11 : f_X11_init 300000 0 [n_X11] = some ((mk z0).take 570) := sT_a.trans <| sT_0.trans <| sT_1.trans <| sT_2.trans <| sT_e.trans <| sL_0.trans <| sL_1.trans <| sL_2.trans <| sL_3.trans <| sL_4.trans <| sL_5.trans <| sL_6.trans <| sL_7.trans <| sL_e.trans <| sR_0.trans <| sR_1.trans <| sR_2.trans <| sR_3.trans <| sR_4.trans <| sR_5.trans <| sR_6.trans <| sR_7.trans <| sR_8.trans <| sR_9.trans <| sR_10.trans <| sR_11.trans <| sR_12.trans <| sR_13.trans <| sR_14.trans <| sR_15.trans <| sR_16.trans <| sR_17.trans <| sR_18.trans <| sR_19.trans <| sR_20.trans <| sR_21.trans <| sR_22.trans <| sR_23.trans <| sR_24.trans <| sR_25.trans <| sR_26.trans <| sR_27.trans <| sR_28.trans <| sR_29.trans <| sR_e
theorem z0_12 : f_X12_init 300000 ((mk z0).take 570).length ((mk z0).take 570 ++ [n_X12]) = some ((mk z0).take 632) := rfl
theorem z0_all : (mk z0).take 632 ++ [M_long] = mk z0 := rfl
theorem z0_len : ((mk z0).take 570).length = 570 ∧ ((mk z0).take 632).length = 632 := ⟨rfl, rfl⟩
theorem z0_msz : msz ((mk z0).take 570) ≤ 60000 ∧ msz ((mk z0).take 632) ≤ 800000 ∧ msz [n_X11] ≤ msz ((mk z0).take 570) ∧ msz ((mk z0).take 570 ++ [n_X12]) ≤ msz ((mk z0).take 632) := ⟨Nat.le_of_ble_eq_true rfl, Nat.le_of_ble_eq_true rfl, Nat.le_of_ble_eq_true rfl, Nat.le_of_ble_eq_true rfl⟩
