/-! THE START: what the Statement gives at the law's entry (laid by wip/whole/tools/gen_env.py) -/
theorem st_inst : ∀ q ∈ vwCl, Cond.instantiable q.1 q.2.2 ∈ lw_good := List.forall_mem_cons.mpr ⟨lw_good_of (tb_ok 210 (by decide +kernel)) rfl, List.forall_mem_cons.mpr ⟨lw_good_of (tb_ok 196 (by decide +kernel)) rfl, List.forall_mem_cons.mpr ⟨lw_good_of (tb_ok 190 (by decide +kernel)) rfl, List.forall_mem_cons.mpr ⟨lw_good_of (tb_ok 63 (by decide +kernel)) rfl, List.forall_mem_cons.mpr ⟨lw_good_of (tb_ok 162 (by decide +kernel)) rfl, List.forall_mem_cons.mpr ⟨lw_good_of (tb_ok 69 (by decide +kernel)) rfl, List.forall_mem_cons.mpr ⟨lw_good_of (tb_ok 203 (by decide +kernel)) rfl, List.forall_mem_cons.mpr ⟨lw_good_of (tb_ok 55 (by decide +kernel)) rfl, List.forall_mem_cons.mpr ⟨lw_good_of (tb_ok 31 (by decide +kernel)) rfl, List.forall_mem_cons.mpr ⟨lw_good_of (tb_ok 23 (by decide +kernel)) rfl, List.forall_mem_cons.mpr ⟨lw_good_of (tb_ok 1092 (by decide +kernel)) rfl, fun _ h => absurd h List.not_mem_nil⟩⟩⟩⟩⟩⟩⟩⟩⟩⟩⟩
theorem st_arr : ∀ t ∈ [FieldType.int, .long, .char, .boolean], Cond.arrayClass t ∈ lw_tbl := List.forall_mem_cons.mpr ⟨tb_ok 52 (by decide +kernel), List.forall_mem_cons.mpr ⟨tb_ok 346 (by decide +kernel), List.forall_mem_cons.mpr ⟨tb_ok 51 (by decide +kernel), List.forall_mem_cons.mpr ⟨tb_ok 244 (by decide +kernel), fun _ h => absurd h List.not_mem_nil⟩⟩⟩⟩
theorem st_obj : ∀ C ∈ [RX1, RX4, RX5, RX6, RX9, RX10], Cond.arrayOver (.object C) ∈ lw_tbl := List.forall_mem_cons.mpr ⟨tb_ok 209 (by decide +kernel), List.forall_mem_cons.mpr ⟨tb_ok 187 (by decide +kernel), List.forall_mem_cons.mpr ⟨tb_ok 161 (by decide +kernel), List.forall_mem_cons.mpr ⟨tb_ok 102 (by decide +kernel), List.forall_mem_cons.mpr ⟨tb_ok 54 (by decide +kernel), List.forall_mem_cons.mpr ⟨tb_ok 61 (by decide +kernel), fun _ h => absurd h List.not_mem_nil⟩⟩⟩⟩⟩⟩
theorem st_str : ∀ q ∈ cStrs, Cond.stringRef q.1 q.2.1 q.2.2 ∈ lw_tbl := List.forall_mem_cons.mpr ⟨tb_ok 465 (by decide +kernel), List.forall_mem_cons.mpr ⟨tb_ok 501 (by decide +kernel), List.forall_mem_cons.mpr ⟨tb_ok 520 (by decide +kernel), List.forall_mem_cons.mpr ⟨tb_ok 525 (by decide +kernel), List.forall_mem_cons.mpr ⟨tb_ok 653 (by decide +kernel), List.forall_mem_cons.mpr ⟨tb_ok 667 (by decide +kernel), List.forall_mem_cons.mpr ⟨tb_ok 676 (by decide +kernel), List.forall_mem_cons.mpr ⟨tb_ok 689 (by decide +kernel), List.forall_mem_cons.mpr ⟨tb_ok 690 (by decide +kernel), List.forall_mem_cons.mpr ⟨tb_ok 691 (by decide +kernel), List.forall_mem_cons.mpr ⟨tb_ok 692 (by decide +kernel), List.forall_mem_cons.mpr ⟨tb_ok 711 (by decide +kernel), List.forall_mem_cons.mpr ⟨tb_ok 712 (by decide +kernel), List.forall_mem_cons.mpr ⟨tb_ok 724 (by decide +kernel), List.forall_mem_cons.mpr ⟨tb_ok 725 (by decide +kernel), List.forall_mem_cons.mpr ⟨tb_ok 732 (by decide +kernel), List.forall_mem_cons.mpr ⟨tb_ok 733 (by decide +kernel), List.forall_mem_cons.mpr ⟨tb_ok 765 (by decide +kernel), List.forall_mem_cons.mpr ⟨tb_ok 1006 (by decide +kernel), List.forall_mem_cons.mpr ⟨tb_ok 1035 (by decide +kernel), List.forall_mem_cons.mpr ⟨tb_ok 1047 (by decide +kernel), List.forall_mem_cons.mpr ⟨tb_ok 1055 (by decide +kernel), List.forall_mem_cons.mpr ⟨tb_ok 1056 (by decide +kernel), List.forall_mem_cons.mpr ⟨tb_ok 1057 (by decide +kernel), fun _ h => absurd h List.not_mem_nil⟩⟩⟩⟩⟩⟩⟩⟩⟩⟩⟩⟩⟩⟩⟩⟩⟩⟩⟩⟩⟩⟩⟩⟩
theorem st_strX : ∀ q ∈ cStrs, Cond.exactly (.string q.1 q.2.1) "java/lang/String" ∈ flatC (Jvm.Cond.and given_1 narrow_1) := by decide +kernel
theorem st_nc : ∀ a ∈ [1, 2, 3], ∀ b ∈ [1, 2, 3], a ≠ b → Cond.not (.castable (eName a) (eName b)) ∈ flatC (Jvm.Cond.and given_1 narrow_1) := by decide +kernel
theorem st_zq : Cond.isRef (.static Bundle.tN "UNASSIGNED_STACK" Bundle.steD) ∈ flatC (Jvm.Cond.and given_1 narrow_1) ∧ Cond.isRef (.static Bundle.tN "SUPPRESSED_SENTINEL" Bundle.listD) ∈ flatC (Jvm.Cond.and given_1 narrow_1) := by decide +kernel
theorem st_zl : Cond.laysStatic Bundle.tN "UNASSIGNED_STACK" Bundle.steD ∈ lw_tbl ∧ Cond.laysStatic Bundle.tN "SUPPRESSED_SENTINEL" Bundle.listD ∈ lw_tbl ∧ Cond.initialized Bundle.tN ∈ lw_tbl := ⟨tb_ok 451 (by decide +kernel), tb_ok 453 (by decide +kernel), tb_ok 13 (by decide +kernel)⟩
theorem st_prim {s : State} {a : Array Value} {ty : FieldType} (hty : ∀ C, ty ≠ .object C) (h : (Cond.arrayClass ty).before a s = true) : ∃ cA : ClassId, ArrOfT s cA ty ∧ va_RA s cA ty := by
  obtain ⟨c, k, comp, h1, h2, h3⟩ := Cond.arrayClass_spec h
  refine ⟨c, fun n z => ⟨fun k h => (by cases h), k, h2, comp, h3⟩, ?_⟩
  cases ty with
  | object C => exact absurd rfl (hty C)
  | _ => exact h1
theorem st_ref {s : State} {a : Array Value} {C : String} (h : (Cond.arrayOver (.object C)).before a s = true) : ∃ cA : ClassId, ArrOfT s cA (.object C) ∧ va_RA s cA (.object C) := by
  obtain ⟨comp, c, k, h1, h2, h3, h4, h5⟩ := Cond.arrayOver_spec h
  exact ⟨c, fun n z => ⟨fun k h => (by cases h), k, h3, comp, h4⟩, k, comp, h3, h4, h1, h5⟩
theorem env_start {p : Program} {s : State} {m : MethodId} {meth : Method} {c : Code} {b L : Nat} {xs : Nat → Int32} (C0 : lw_At p s m meth c b L xs) : ∃ (dC : Nat → ClassId) (dI : Nat → Nat → Nat) (aC : Nat → ClassId), cEnv dC dI aC s.heap.size s ∧ ∀ w ∈ lw_nst, va_Nw w s := by
  obtain ⟨-, -, -, -, -, hts, -, -, -, hgv⟩ := C0
  have hG : ∀ w ∈ lw_good, w.before #[Value.ref b] s = true := fun w hw => hts w (List.mem_filter.mp hw).1
  have hs := flat_of_before _ hgv
  have h1 : ∀ k : Nat, ∃ cC : ClassId, ∃ iS : Nat → Nat, ∀ q : vw_C, vwCl[k]? = some q → u_Kn s q.1 q.2.1 q.2.2 cC iS := by
    intro k
    cases hq : vwCl[k]? with
    | none =>
      obtain ⟨cA, -⟩ := st_prim (by intro C q; cases q) (hts _ (st_arr .int (by simp)))
      exact ⟨cA, fun _ => 0, fun q h => by cases h⟩
    | some q =>
      have hm := List.mem_of_getElem? hq
      obtain ⟨cC, iS, h⟩ := u_known hG (cls_ok q hm).1 (hG _ (st_inst q hm))
      exact ⟨cC, iS, fun q' h' => by cases h'; exact h⟩
  obtain ⟨dC, h2⟩ := Classical.axiomOfChoice h1
  obtain ⟨dI, h3⟩ := Classical.axiomOfChoice h2
  obtain ⟨a0, g0⟩ := st_prim (ty := .int) (by intro C q; cases q) (hts _ (st_arr _ (by simp)))
  obtain ⟨a1, g1⟩ := st_prim (ty := .long) (by intro C q; cases q) (hts _ (st_arr _ (by simp)))
  obtain ⟨a2, g2⟩ := st_prim (ty := .char) (by intro C q; cases q) (hts _ (st_arr _ (by simp)))
  obtain ⟨a3, g3⟩ := st_prim (ty := .boolean) (by intro C q; cases q) (hts _ (st_arr _ (by simp)))
  obtain ⟨a4, g4⟩ := st_ref (hts _ (st_obj RX1 (by simp)))
  obtain ⟨a5, g5⟩ := st_ref (hts _ (st_obj RX4 (by simp)))
  obtain ⟨a6, g6⟩ := st_ref (hts _ (st_obj RX5 (by simp)))
  obtain ⟨a7, g7⟩ := st_ref (hts _ (st_obj RX6 (by simp)))
  obtain ⟨a8, g8⟩ := st_ref (hts _ (st_obj RX9 (by simp)))
  obtain ⟨a9, g9⟩ := st_ref (hts _ (st_obj RX10 (by simp)))
  have hA : ∀ a : Nat, a < s.heap.size → ¬ s.heap.size ≤ a := fun a h => Nat.not_le.mpr h
  refine ⟨dC, dI, fun k => match k with | 0 => a0 | 1 => a1 | 2 => a2 | 3 => a3 | 4 => a4 | 5 => a5 | 6 => a6 | 7 => a7 | 8 => a8 | _ => a9, ⟨⟨h3, fun k q hq => ?_⟩, Nat.le_refl _, fun C hC => va_AO.of (hts _ (st_obj C hC)), fun w hw => ?_, fun q hq => ?_, vx_Zqof (hts _ st_zl.1) (hts _ st_zl.2.2) (hs _ st_zq.1) hA, vx_Zqof (hts _ st_zl.2.1) (hts _ st_zl.2.2) (hs _ st_zq.2) hA, fun a ha b hb hab => va_Nc.of (hs _ (st_nc a ha b hb hab))⟩, fun w hw => ?_⟩
  · have hm := List.mem_of_getElem? hq
    simp only [cTys, List.mem_cons, List.not_mem_nil, or_false] at hm
    rcases hm with rfl | rfl | rfl | rfl | rfl | rfl | rfl | rfl | rfl | rfl
    · exact g0
    · exact g1
    · exact g2
    · exact g3
    · exact g4
    · exact g5
    · exact g6
    · exact g7
    · exact g8
    · exact g9
  · obtain ⟨h8, h9⟩ := List.mem_filter.mp hw
    have h := hts w h8
    split at h9
    · exact va_tabs rfl rfl h
    · exact va_tabs rfl rfl h
    · cases h9
  · obtain ⟨a, c, cell, k, h8, -⟩ := Cond.exactly_spec (hs _ (st_strX q hq))
    exact ⟨a, vk_R.of (hts _ (st_str q hq)) h8⟩
  · obtain ⟨h8, h9⟩ := List.mem_filter.mp hw
    have h := hts w h8
    split at h9
    · exact va_Nw.of rfl h
    · cases h9
