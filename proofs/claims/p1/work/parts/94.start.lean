theorem whole_start {p : Program} {e : Env} {s : State} {m : MethodId} {below : List Frame} {meth : Method} {c : Code} (l : Launch) (hflags : l.flags = flags0) {b L : Nat} {xs : Nat → Int32} (hL : L ≤ 7) (C0 : lw_At p s m meth c b L xs) : W p l e room_1 s m #[Value.ref b] below meth c s.heap [] 0 0 (lw_Z below #[Value.ref b] s) (entryFrame m ([Value.ref b] : List Value).toArray 7) := by
  obtain ⟨k, hk, hE⟩ := z0_ends (b := b) (xs := xs) hL
  obtain ⟨n, hn, r, hr⟩ := go_23 hE
  obtain ⟨l1, l2⟩ := z0_len
  obtain ⟨q1, q2, q3, q4⟩ := z0_msz
  refine start_ok (flags_st hflags) C0 300000 60 n (M1 := (mk z0).take 570) (M3 := (mk z0).take 632) (r := r) z0_11 ⟨?_, q3⟩ z0_12 ⟨?_, q4⟩ (by rw [l2]; omega) (by omega) ?_
  · rw [l1]
    exact Nat.le_of_ble_eq_true rfl
  · rw [List.length_append, l1, l2]
    exact Nat.le_of_ble_eq_true rfl
  · rw [l1, l2, z0_all]
    exact hr
