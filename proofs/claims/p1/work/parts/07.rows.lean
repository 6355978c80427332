/-! ROWS OVER THE PURE MACHINE'S WORLD: stores, with the heap's size -/
theorem cls_1 : ∀ w ∈ wsX10, w ∈ lw_good := fun w h => lw_good_of ((by decide +kernel : ∀ w ∈ wsX10, w ∈ lw_tbl) w h) ((by decide +kernel : ∀ w ∈ wsX10, goodWord w = true) w h)
theorem cls_2 : ∀ w ∈ wsX20, w ∈ lw_good := fun w h => lw_good_of ((by decide +kernel : ∀ w ∈ wsX20, w ∈ lw_tbl) w h) ((by decide +kernel : ∀ w ∈ wsX20, goodWord w = true) w h)
theorem cls_3 : ∀ w ∈ wsX30, w ∈ lw_good := fun w h => lw_good_of ((by decide +kernel : ∀ w ∈ wsX30, w ∈ lw_tbl) w h) ((by decide +kernel : ∀ w ∈ wsX30, goodWord w = true) w h)
theorem cls_4 : ∀ w ∈ wsX40, w ∈ lw_good := fun w h => lw_good_of ((by decide +kernel : ∀ w ∈ wsX40, w ∈ lw_tbl) w h) ((by decide +kernel : ∀ w ∈ wsX40, goodWord w = true) w h)
theorem cls_5 : ∀ w ∈ wsX50, w ∈ lw_good := fun w h => lw_good_of ((by decide +kernel : ∀ w ∈ wsX50, w ∈ lw_tbl) w h) ((by decide +kernel : ∀ w ∈ wsX50, goodWord w = true) w h)
theorem cls_6 : ∀ w ∈ wsX60, w ∈ lw_good := fun w h => lw_good_of ((by decide +kernel : ∀ w ∈ wsX60, w ∈ lw_tbl) w h) ((by decide +kernel : ∀ w ∈ wsX60, goodWord w = true) w h)
theorem cls_8 : ∀ w ∈ wsX80, w ∈ lw_good := fun w h => lw_good_of ((by decide +kernel : ∀ w ∈ wsX80, w ∈ lw_tbl) w h) ((by decide +kernel : ∀ w ∈ wsX80, goodWord w = true) w h)
theorem cls_9 : ∀ w ∈ wsX90, w ∈ lw_good := fun w h => lw_good_of ((by decide +kernel : ∀ w ∈ wsX90, w ∈ lw_tbl) w h) ((by decide +kernel : ∀ w ∈ wsX90, goodWord w = true) w h)
theorem cls_10 : ∀ w ∈ wsX100, w ∈ lw_good := fun w h => lw_good_of ((by decide +kernel : ∀ w ∈ wsX100, w ∈ lw_tbl) w h) ((by decide +kernel : ∀ w ∈ wsX100, goodWord w = true) w h)
theorem cls_11 : ∀ w ∈ wsX110, w ∈ lw_good := fun w h => lw_good_of ((by decide +kernel : ∀ w ∈ wsX110, w ∈ lw_tbl) w h) ((by decide +kernel : ∀ w ∈ wsX110, goodWord w = true) w h)
theorem cls_12 : ∀ w ∈ wsX120, w ∈ lw_good := fun w h => lw_good_of ((by decide +kernel : ∀ w ∈ wsX120, w ∈ lw_tbl) w h) ((by decide +kernel : ∀ w ∈ wsX120, goodWord w = true) w h)
/-- what a class of the list brings: its words, its fields' types, its names -/
theorem cls_ok : ∀ q ∈ vwCl, (∀ w ∈ u_ws q.1 q.2.1 q.2.2, w ∈ lw_good) ∧ (∃ ty : Nat → FieldType, ∀ k, k < q.2.2 → parseFieldDescriptor (q.2.1 k).2.2.1 = some (ty k)) ∧ ∀ a, a < q.2.2 → ∀ b, b < q.2.2 → a ≠ b → (q.2.1 a).2.1 ≠ (q.2.1 b).2.1 := by
  intro q hq
  simp only [vwCl, List.mem_cons, List.not_mem_nil, or_false] at hq
  rcases hq with rfl | rfl | rfl | rfl | rfl | rfl | rfl | rfl | rfl | rfl | rfl
  · exact ⟨cls_1, ⟨_, tyX1_ok⟩, nmX1⟩
  · exact ⟨cls_2, ⟨_, tyX2_ok⟩, nmX2⟩
  · exact ⟨cls_3, ⟨_, tyX3_ok⟩, nmX3⟩
  · exact ⟨cls_4, ⟨_, tyX4_ok⟩, nmX4⟩
  · exact ⟨cls_5, ⟨_, tyX5_ok⟩, nmX5⟩
  · exact ⟨cls_6, ⟨_, tyX6_ok⟩, nmX6⟩
  · exact ⟨cls_8, ⟨_, tyX8_ok⟩, nmX8⟩
  · exact ⟨cls_9, ⟨_, tyX9_ok⟩, nmX9⟩
  · exact ⟨cls_10, ⟨_, tyX10_ok⟩, nmX10⟩
  · exact ⟨cls_11, ⟨_, tyX11_ok⟩, nmX11⟩
  · exact ⟨cls_12, ⟨_, tyX12_ok⟩, nmX12⟩
def isRf (ty : FieldType) : Prop := (∃ n, ty = .object n) ∨ ∃ t, ty = .array t
def kOK (own : String) (kd : Nat) (decl : String) (fin : Bool) (ty : FieldType) : Prop := match kd with
  | 0 => fin = false ∧ ty = .int
  | 1 => fin = false ∧ ty = .long
  | 2 => fin = false ∧ isRf ty
  | 3 => fin = false ∧ isRf ty
  | 4 => fin = false ∧ ty = .boolean
  | 22 => fin = true ∧ decl = own ∧ isRf ty
  | _ => True
def fOK (own : String) (k : Nat) (q : Nat × Nat × Nat) : Prop := ∃ (C : String) (T : u_T) (N : Nat) (ty : FieldType), vwCl[q.1]? = some (C, T, N) ∧ q.2.1 < N ∧ Cond.fieldLink own k (T q.2.1).1 (T q.2.1).2.1 (T q.2.1).2.2.1 ∈ lw_good ∧ parseFieldDescriptor (T q.2.1).2.2.1 = some ty ∧ kOK own q.2.2 (T q.2.1).1 (T q.2.1).2.2.2 ty
def fdOK (own : String) (fd : Nat → Option (Nat × Nat × Nat)) : Prop := ∀ k q, fd k = some q → fOK own k q
section
variable {p : Program} {l : Launch} {e : Env} {R : Room} {s : State} {m : MethodId} {args : Array Value} {below : List Frame} {meth : Method} {c : Code} {H : Heap} {locs : List Loc} {cells slots : Nat} {Q : State → Prop}
variable {cc : ByteArray} {pc : Nat} {ls : Array Slot} {rest : List Value} {dC : Nat → ClassId} {dI : Nat → Nat → Nat} {aC : Nat → ClassId} {B : Nat} {M : cM}
theorem c_get (hexec : p.tables.exec = Jvm.exec) (hb : c.code = cc) {own : String} (hts : ∀ w ∈ lw_good, w.before args s = true) (hown : s.vm.findClass own = some m.cls) (hK : va_K (dC, dI) vwCl (cTys aC) s) (hP : va_P (dC, dI) vwCl (cW B aC M) H) {k : Nat} {q : Nat × Nat × Nat} (hf : fOK own k q) {a : Nat} {v : Value} (hv : gF M a q.1 q.2.1 = some v) (hdg : decode cc pc = .ok (.getfield k, 3))
    (kk : W p l e R s m args below meth c H locs cells slots Q (F0 m (pc + 3) ls (cV B v :: rest))) : W p l e R s m args below meth c H locs cells slots Q (F0 m pc ls (.ref (B + a) :: rest)) := by
  obtain ⟨C, T, N, ty, h1, h2, h3, -, -⟩ := hf
  obtain ⟨fs, g1, g2⟩ := gF_of hv
  obtain ⟨j1, -, -⟩ := cls_ok _ (List.mem_of_getElem? h1)
  exact va_get hexec hb hts j1 hown hK hP a (fs := fs.map (cV B)) (cW_get g1) h1 q.2.1 h2 (hts _ h3) (fun _ h => h) (by rw [List.getElem?_map, g2]; rfl) hdg kk
/-- where a cell of the world was written, and nothing else -/
theorem cW_put {A0 : Nat → Prop} {H0 H1 : Heap} {a : Nat} {e0 e1 : cE} (hP : va_P (dC, dI) vwCl (cW B aC M) H) (he : M[a]? = some e0) (h1 : va_at (dC, dI) vwCl (B + a, cT B aC e1) H1) (oq : ∀ q : Nat, q ≠ B + a → H1[q]? = H[q]?) : va_P (dC, dI) vwCl (cW B aC (M.set a e1)) H1 := by
  rw [← cW_set]
  exact hP.set cW_D (cW_get he) h1 oq
theorem c_put (hexec : p.tables.exec = Jvm.exec) (hb : c.code = cc) {own : String} (hts : ∀ w ∈ lw_good, w.before args s = true) (hown : s.vm.findClass own = some m.cls) (hK : va_K (dC, dI) vwCl (cTys aC) s) (hP : va_P (dC, dI) vwCl (cW B aC M) H) (hS : va_S (fun q => B ≤ q) s.heap H locs)
    {k i x N a : Nat} {C : String} {T : u_T} {ty : FieldType} {fs : List Value} {v : Value} (hc : vwCl[i]? = some (C, T, N)) (hx : x < N) (hlink : Cond.fieldLink own k (T x).1 (T x).2.1 (T x).2.2.1 ∈ lw_good) (hd : parseFieldDescriptor (T x).2.2.1 = some ty) (hfin : (T x).2.2.2 = false ∨ ((T x).2.2.2 = true ∧ meth.name = "<init>" ∧ (T x).1 = own)) (hn : narrow ty v = v) (hfit : fits ty v = true) (hl : x < fs.length) (ha : M[a]? = some (.inr (i, fs))) (w : Value) (hw : v = cV B w)
    (hdg : decode cc pc = .ok (.putfield k, 3)) (kk : ∀ (H1 : Heap) (locs1 : List Loc), va_P (dC, dI) vwCl (cW B aC (M.set a (.inr (i, fs.set x w)))) H1 → va_S (fun q => B ≤ q) s.heap H1 locs1 → H1.size = H.size → W p l e R s m args below meth c H1 locs1 cells slots Q (F0 m (pc + 3) ls rest)) : W p l e R s m args below meth c H locs cells slots Q (F0 m pc ls (v :: .ref (B + a) :: rest)) := by
  subst hw
  obtain ⟨hin, ⟨ty0, hty⟩, hnm⟩ := cls_ok _ (List.mem_of_getElem? hc)
  have hap := va_apart (own := own) hts hin ty0 hty hnm hK hc
  obtain ⟨r, h1, cell, q1, q2, q3, q4⟩ := hP a _ (cW_get ha)
  have hr : r = (C, T, N) := Option.some.inj (h1.symm.trans hc)
  subst hr
  obtain ⟨hSl, hfc, kC, hkC, hkind⟩ := hK.1 i _ hc
  obtain ⟨cf, kf, fi, f, hi, hsl⟩ := hSl x hx
  have hlay := hts _ (hin _ (u_in_lay hx))
  unfold u_lay at hlay
  have hst := (u_facts hfc hkC (u_lays hts hin hx) hi).1
  have fin : ∀ (H1 : Heap), H1[B + a]? = some (cell.setSlot f.slot (cV B w)) → H1.size = H.size → (∀ q, q ≠ B + a → H1[q]? = H[q]?) → W p l e R s m args below meth c H1 (locs ++ [⟨B + a, f.slot⟩]) cells slots Q (F0 m (pc + 3) ls rest) := by
    intro H1 e1 e2 e3
    refine kk H1 _ (cW_put (A0 := fun q => B ≤ q) (H0 := s.heap) hP ha ?_ e3) (hS.put e2 e3 (Nat.le_add_right _ _)) e2
    refine ⟨_, hc, t_OB.to (V := updV (vp_V (fs.map (cV B))) x (cV B w)) ⟨_, e1, q2, q3, ?_⟩ (fun j _ => ?_)⟩
    · rw [hsl]
      exact t_set q4 hap hx (cV B w)
    · show updV (vp_V (fs.map (cV B))) x (cV B w) j = vp_V ((fs.set x w).map (cV B)) j
      rw [List.map_set]
      exact vp_updV_set (by rw [List.length_map]; exact hl) (cV B w) j
  rcases hfin with hfin | ⟨hfin, hin2, hdecl⟩
  · rw [if_neg (by rw [hfin]; decide)] at hlay
    have h6 := u_store hfc hkC hkind hlay hi hd hn hfit
    exact W.putK hexec hb (f := f) ⟨hown, hts _ hlink, ⟨_, _, _, hi⟩, hst⟩ (by rw [q2]; exact h6) q1 q3 (by rw [hsl]; exact k2_hasslot (q4 x hx)) rfl rfl hdg fin
  · rw [if_pos hfin] at hlay
    have hcf : m.cls = cf := by
      obtain ⟨_, _, c', _, _, _, -, -, hf', -, -, -, hown2, -⟩ := Cond.laysFinal_spec hlay
      have e1 : c' = cf := by have := hi.symm.trans hf'; simp at this; exact this.1.symm
      rw [hdecl] at hown2
      rw [← e1]; exact Option.some.inj (hown.symm.trans hown2)
    have h6 := u_fits hfc hkC hkind (Or.inr hlay) hi hd hn hfit
    exact W.putFinK hexec hb hown (hts _ hlink) hi hst hcf hin2 (by rw [q2]; exact h6) q1 q3 (by rw [hsl]; exact k2_hasslot (q4 x hx)) rfl rfl hdg fin
theorem c_iast (hexec : p.tables.exec = Jvm.exec) (hb : c.code = cc) (hK : va_K (dC, dI) vwCl (cTys aC) s) (hP : va_P (dC, dI) vwCl (cW B aC M) H) (hS : va_S (fun q => B ≤ q) s.heap H locs) {a n : Nat} {f : Nat → Int32} (ha : M[a]? = some (.inl (0, n, .inl f))) {i x : Int32} (hin : vp_in i n) (hdg : decode cc pc = .ok (.iastore, 1))
    (kk : ∀ (H1 : Heap) (locs1 : List Loc), va_P (dC, dI) vwCl (cW B aC (M.set a (.inl (0, n, .inl (upd f i.toNatClampNeg x))))) H1 → va_S (fun q => B ≤ q) s.heap H1 locs1 → H1.size = H.size → W p l e R s m args below meth c H1 locs1 cells slots Q (F0 m (pc + 1) ls rest)) : W p l e R s m args below meth c H locs cells slots Q (F0 m pc ls (.int x :: .int i :: .ref (B + a) :: rest)) := by
  refine W.iast hexec hb (hP a _ (cW_get ha)) ((hK.2 0 _ rfl).1 n (fun j => .int (f j))) (fun q => by cases q) (by show ¬ (i < 0 ∨ (arrV _ _ _).slots.size ≤ _); rw [arrV_size]; exact hin) rfl rfl hdg fun H1 e z oq => ?_
  refine kk H1 _ (cW_put (A0 := fun q => B ≤ q) (H0 := s.heap) hP ha ?_ oq) (hS.put z oq (Nat.le_add_right _ _)) z
  show H1[B + a]? = some (vp_cell _ _)
  rw [e]
  show some ((vp_cell (aC 0) (n, .inl f)).setSlot i.toNatClampNeg (.int x)) = some (vp_cell (aC 0) (n, .inl (upd f i.toNatClampNeg x)))
  rw [vp_cell_i, vp_cell_i, arrV_store]
  congr 2
  funext q
  by_cases hq : q = i.toNatClampNeg
  · subst hq
    simp [updV, upd]
  · simp [updV, upd, hq]
theorem c_tys {t : Nat} (h4 : 4 ≤ t) (h10 : t < 10) : ∃ r : vw_C, vwCl[tcl t]? = some r ∧ (cTys aC)[t]? = some (aC t, .object r.1) := by
  have : t = 4 ∨ t = 5 ∨ t = 6 ∨ t = 7 ∨ t = 8 ∨ t = 9 := by omega
  rcases this with rfl | rfl | rfl | rfl | rfl | rfl <;> exact ⟨_, rfl, rfl⟩
theorem c_aast (hexec : p.tables.exec = Jvm.exec) (hb : c.code = cc) (hK : va_K (dC, dI) vwCl (cTys aC) s) (hP : va_P (dC, dI) vwCl (cW B aC M) H) (hS : va_S (fun q => B ≤ q) s.heap H locs) {a n t q : Nat} {f : Nat → Option Nat} {fs : List Value} (ha : M[a]? = some (.inl (t, n, .inr (.inr (.inr (.inr f)))))) (hq : M[q]? = some (.inr (tcl t, fs))) (h4 : 4 ≤ t) (h10 : t < 10) {i : Int32} (hin : vp_in i n) (hdg : decode cc pc = .ok (.aastore, 1))
    (kk : ∀ (H1 : Heap) (locs1 : List Loc), va_P (dC, dI) vwCl (cW B aC (M.set a (.inl (t, n, .inr (.inr (.inr (.inr (va_up f i.toNatClampNeg (some q))))))))) H1 → va_S (fun q => B ≤ q) s.heap H1 locs1 → H1.size = H.size → W p l e R s m args below meth c H1 locs1 cells slots Q (F0 m (pc + 1) ls rest)) : W p l e R s m args below meth c H locs cells slots Q (F0 m pc ls (.ref (B + q) :: .int i :: .ref (B + a) :: rest)) := by
  obtain ⟨r, hc, ht⟩ := c_tys (aC := aC) h4 h10
  have hlt : i.toNatClampNeg < n := Nat.not_le.mp fun q => hin (Or.inr q)
  have h0 : ¬ i < 0 := fun q => hin (Or.inl q)
  obtain ⟨r', hr', cellV, g1, g2, g3, -⟩ := hP q _ (cW_get hq)
  have hcls := (hK.1 (tcl t) r hc).2
  obtain ⟨kA, comp, k1, k2, k3, -⟩ := (hK.2 t _ ht).2
  have hcomp : comp = dC (tcl t) := Option.some.inj (k3.symm.trans hcls.1)
  subst hcomp
  obtain ⟨kC, hkC, -⟩ := hcls.2
  refine W.aast hexec hb (hP a _ (cW_get ha)) (fun q h => by cases h) (fun h => by cases h) k1 k2 rfl hkC ⟨h0, by show _ < (arrV _ _ _).slots.size; rw [arrV_size]; exact hlt⟩ g1 (fun q h => by rw [g3] at h; cases h) (by rw [g2]; exact hkC) (by rw [g2]; exact va_assign hcls) rfl rfl hdg fun H1 e z oq => ?_
  refine kk H1 _ (cW_put (A0 := fun q => B ≤ q) (H0 := s.heap) hP ha ?_ oq) (hS.put z oq (Nat.le_add_right _ _)) z
  show H1[B + a]? = some (vp_cell _ _)
  rw [e]
  show some ((vp_cell (aC t) (n, .inr (.inr (.inr (.inr (fun j => (f j).map (fun q => B + q))))))).setSlot i.toNatClampNeg (.ref (B + q))) = some (vp_cell (aC t) (n, .inr (.inr (.inr (.inr (fun j => (va_up f i.toNatClampNeg (some q) j).map (fun q => B + q)))))))
  rw [vp_cell_q, vp_cell_q, arrV_store]
  congr 2
  funext j
  by_cases hj : j = i.toNatClampNeg
  · subst hj
    simp [updV, va_up, va_rf]
  · simp [updV, va_up, hj]
end
