section LC
variable {p : Program} {e : Env} {s : State} {m : MethodId} {below : List Frame} {meth : Method} {c : Code} {b L : Nat} {xs : Nat → Int32} {g g' : Gt} {i : Nat} {M N : Mem}
theorem lc_0 (C : CL p s m meth c b L xs g g') (hL : L ≤ 2560) (hi : i + 4 < L) (I : Inv M N) (kk : ∀ M' N', Inv M' N' → LJ p e s m below meth c b g g' 1032 [] i M' N') : LJ p e s m below meth c b g g' 176 [] i M N := by
  obtain ⟨P, Q, hc, hm, hz⟩ := op_net I (xs (i + 1)).toInt (rngI _)
  refine l_ald1 C (by decide +kernel) ?_
  refine l_arg (k := 1) C hL (by omega) ⟨by decide +kernel, by decide +kernel, by decide +kernel, by decide +kernel, by decide +kernel⟩ (by decide) ?_
  refine l_callC (As := [vi (xs (i + 1)).toInt]) C (by decide +kernel) clL_13 myX7_net rfl rfl rfl rfl (Nat.le_of_ble_eq_true rfl) (hc g) rfl (fun r M' hr => ?_)
  obtain ⟨z, rfl, hp⟩ := hr
  refine l_ald2 C (by decide +kernel) ?_
  refine l_arg (k := 1) C hL (by omega) ⟨by decide +kernel, by decide +kernel, by decide +kernel, by decide +kernel, by decide +kernel⟩ (by decide) ?_
  refine l_callM (As := [vi (xs (i + 1)).toInt]) (rest := [.int (Int32.ofInt z)]) C (by decide +kernel) clL_17 myX8_net rfl rfl rfl rfl (Nat.le_of_ble_eq_true rfl) (hm g') rfl (fun r N' hr => ?_)
  obtain ⟨z', rfl, hq⟩ := hr
  obtain ⟨e1, J⟩ := hz z z' M' N' hp hq
  subst e1
  exact l_eq (off := 838) (tgt := 1032) (x := Int32.ofInt z) C (by decide +kernel) (by decide) (kk M' N' J)
theorem lc_1 (C : CL p s m meth c b L xs g g') (hL : L ≤ 2560) (hi : i + 4 < L) (I : Inv M N) (kk : ∀ M' N', Inv M' N' → LJ p e s m below meth c b g g' 1032 [] i M' N') : LJ p e s m below meth c b g g' 199 [] i M N := by
  obtain ⟨P, Q, hc, hm, hz⟩ := op_road I (xs (i + 1)).toInt (xs (i + 2)).toInt (xs (i + 3)).toInt (xs (i + 4)).toInt (rngI _) (rngI _) (rngI _) (rngI _)
  refine l_ald1 C (by decide +kernel) ?_
  refine l_arg (k := 1) C hL (by omega) ⟨by decide +kernel, by decide +kernel, by decide +kernel, by decide +kernel, by decide +kernel⟩ (by decide) ?_
  refine l_arg (k := 2) C hL (by omega) ⟨by decide +kernel, by decide +kernel, by decide +kernel, by decide +kernel, by decide +kernel⟩ (by decide) ?_
  refine l_arg (k := 3) C hL (by omega) ⟨by decide +kernel, by decide +kernel, by decide +kernel, by decide +kernel, by decide +kernel⟩ (by decide) ?_
  refine l_arg (k := 4) C hL (by omega) ⟨by decide +kernel, by decide +kernel, by decide +kernel, by decide +kernel, by decide +kernel⟩ (by decide) ?_
  refine l_callC (As := [vi (xs (i + 1)).toInt, vi (xs (i + 2)).toInt, vi (xs (i + 3)).toInt, vi (xs (i + 4)).toInt]) C (by decide +kernel) clL_18 myX7_road rfl rfl rfl rfl (Nat.le_of_ble_eq_true rfl) (hc g) rfl (fun r M' hr => ?_)
  obtain ⟨z, rfl, hp⟩ := hr
  refine l_ald2 C (by decide +kernel) ?_
  refine l_arg (k := 1) C hL (by omega) ⟨by decide +kernel, by decide +kernel, by decide +kernel, by decide +kernel, by decide +kernel⟩ (by decide) ?_
  refine l_arg (k := 2) C hL (by omega) ⟨by decide +kernel, by decide +kernel, by decide +kernel, by decide +kernel, by decide +kernel⟩ (by decide) ?_
  refine l_arg (k := 3) C hL (by omega) ⟨by decide +kernel, by decide +kernel, by decide +kernel, by decide +kernel, by decide +kernel⟩ (by decide) ?_
  refine l_arg (k := 4) C hL (by omega) ⟨by decide +kernel, by decide +kernel, by decide +kernel, by decide +kernel, by decide +kernel⟩ (by decide) ?_
  refine l_callM (As := [vi (xs (i + 1)).toInt, vi (xs (i + 2)).toInt, vi (xs (i + 3)).toInt, vi (xs (i + 4)).toInt]) (rest := [.int (Int32.ofInt z)]) C (by decide +kernel) clL_22 myX8_road rfl rfl rfl rfl (Nat.le_of_ble_eq_true rfl) (hm g') rfl (fun r N' hr => ?_)
  obtain ⟨z', rfl, hq⟩ := hr
  obtain ⟨e1, J⟩ := hz z z' M' N' hp hq
  subst e1
  exact l_eq (off := 785) (tgt := 1032) (x := Int32.ofInt z) C (by decide +kernel) (by decide) (kk M' N' J)
theorem lc_2 (C : CL p s m meth c b L xs g g') (hL : L ≤ 2560) (hi : i + 4 < L) (I : Inv M N) (kk : ∀ M' N', Inv M' N' → LJ p e s m below meth c b g g' 1032 [] i M' N') : LJ p e s m below meth c b g g' 252 [] i M N := by
  obtain ⟨P, Q, hc, hm, hz⟩ := op_room I (xs (i + 1)).toInt (xs (i + 2)).toInt (rngI _) (rngI _)
  refine l_ald1 C (by decide +kernel) ?_
  refine l_arg (k := 1) C hL (by omega) ⟨by decide +kernel, by decide +kernel, by decide +kernel, by decide +kernel, by decide +kernel⟩ (by decide) ?_
  refine l_arg (k := 2) C hL (by omega) ⟨by decide +kernel, by decide +kernel, by decide +kernel, by decide +kernel, by decide +kernel⟩ (by decide) ?_
  refine l_callC (As := [vi (xs (i + 1)).toInt, vi (xs (i + 2)).toInt]) C (by decide +kernel) clL_23 myX7_room rfl rfl rfl rfl (Nat.le_of_ble_eq_true rfl) (hc g) rfl (fun r M' hr => ?_)
  obtain ⟨z, rfl, hp⟩ := hr
  refine l_ald2 C (by decide +kernel) ?_
  refine l_arg (k := 1) C hL (by omega) ⟨by decide +kernel, by decide +kernel, by decide +kernel, by decide +kernel, by decide +kernel⟩ (by decide) ?_
  refine l_arg (k := 2) C hL (by omega) ⟨by decide +kernel, by decide +kernel, by decide +kernel, by decide +kernel, by decide +kernel⟩ (by decide) ?_
  refine l_callM (As := [vi (xs (i + 1)).toInt, vi (xs (i + 2)).toInt]) (rest := [.int (Int32.ofInt z)]) C (by decide +kernel) clL_27 myX8_room rfl rfl rfl rfl (Nat.le_of_ble_eq_true rfl) (hm g') rfl (fun r N' hr => ?_)
  obtain ⟨z', rfl, hq⟩ := hr
  obtain ⟨e1, J⟩ := hz z z' M' N' hp hq
  subst e1
  exact l_eq (off := 752) (tgt := 1032) (x := Int32.ofInt z) C (by decide +kernel) (by decide) (kk M' N' J)
theorem lc_3 (C : CL p s m meth c b L xs g g') (hL : L ≤ 2560) (hi : i + 4 < L) (I : Inv M N) (kk : ∀ M' N', Inv M' N' → LJ p e s m below meth c b g g' 1032 [] i M' N') : LJ p e s m below meth c b g g' 285 [] i M N := by
  obtain ⟨P, Q, hc, hm, hz⟩ := op_of I (xs (i + 1)).toInt (xs (i + 2)).toInt (rngI _) (rngI _)
  refine l_ald1 C (by decide +kernel) ?_
  refine l_arg (k := 1) C hL (by omega) ⟨by decide +kernel, by decide +kernel, by decide +kernel, by decide +kernel, by decide +kernel⟩ (by decide) ?_
  refine l_arg (k := 2) C hL (by omega) ⟨by decide +kernel, by decide +kernel, by decide +kernel, by decide +kernel, by decide +kernel⟩ (by decide) ?_
  refine l_callC (As := [vi (xs (i + 1)).toInt, vi (xs (i + 2)).toInt]) C (by decide +kernel) clL_28 myX7_of rfl rfl rfl rfl (Nat.le_of_ble_eq_true rfl) (hc g) rfl (fun r M' hr => ?_)
  obtain ⟨z, rfl, hp⟩ := hr
  refine l_ald2 C (by decide +kernel) ?_
  refine l_arg (k := 1) C hL (by omega) ⟨by decide +kernel, by decide +kernel, by decide +kernel, by decide +kernel, by decide +kernel⟩ (by decide) ?_
  refine l_arg (k := 2) C hL (by omega) ⟨by decide +kernel, by decide +kernel, by decide +kernel, by decide +kernel, by decide +kernel⟩ (by decide) ?_
  refine l_callM (As := [vi (xs (i + 1)).toInt, vi (xs (i + 2)).toInt]) (rest := [.int (Int32.ofInt z)]) C (by decide +kernel) clL_31 myX8_of rfl rfl rfl rfl (Nat.le_of_ble_eq_true rfl) (hm g') rfl (fun r N' hr => ?_)
  obtain ⟨z', rfl, hq⟩ := hr
  obtain ⟨e1, J⟩ := hz z z' M' N' hp hq
  subst e1
  exact l_eq (off := 719) (tgt := 1032) (x := Int32.ofInt z) C (by decide +kernel) (by decide) (kk M' N' J)
theorem lc_4 (C : CL p s m meth c b L xs g g') (hL : L ≤ 2560) (hi : i + 4 < L) (I : Inv M N) (kk : ∀ M' N', Inv M' N' → LJ p e s m below meth c b g g' 1032 [] i M' N') : LJ p e s m below meth c b g g' 318 [] i M N := by
  obtain ⟨P, Q, hc, hm, hz⟩ := op_load I (xs (i + 1)).toInt (xs (i + 2)).toInt (xs (i + 3)).toInt (xs (i + 4)).toInt (rngI _) (rngI _) (rngI _) (rngI _)
  refine l_ald1 C (by decide +kernel) ?_
  refine l_arg (k := 1) C hL (by omega) ⟨by decide +kernel, by decide +kernel, by decide +kernel, by decide +kernel, by decide +kernel⟩ (by decide) ?_
  refine l_arg (k := 2) C hL (by omega) ⟨by decide +kernel, by decide +kernel, by decide +kernel, by decide +kernel, by decide +kernel⟩ (by decide) ?_
  refine l_arg (k := 3) C hL (by omega) ⟨by decide +kernel, by decide +kernel, by decide +kernel, by decide +kernel, by decide +kernel⟩ (by decide) ?_
  refine l_arg (k := 4) C hL (by omega) ⟨by decide +kernel, by decide +kernel, by decide +kernel, by decide +kernel, by decide +kernel⟩ (by decide) ?_
  refine l_callC (As := [vi (xs (i + 1)).toInt, vi (xs (i + 2)).toInt, vi (xs (i + 3)).toInt, vi (xs (i + 4)).toInt]) C (by decide +kernel) clL_32 myX7_load rfl rfl rfl rfl (Nat.le_of_ble_eq_true rfl) (hc g) rfl (fun r M' hr => ?_)
  obtain ⟨z, rfl, hp⟩ := hr
  refine l_ald2 C (by decide +kernel) ?_
  refine l_arg (k := 1) C hL (by omega) ⟨by decide +kernel, by decide +kernel, by decide +kernel, by decide +kernel, by decide +kernel⟩ (by decide) ?_
  refine l_arg (k := 2) C hL (by omega) ⟨by decide +kernel, by decide +kernel, by decide +kernel, by decide +kernel, by decide +kernel⟩ (by decide) ?_
  refine l_arg (k := 3) C hL (by omega) ⟨by decide +kernel, by decide +kernel, by decide +kernel, by decide +kernel, by decide +kernel⟩ (by decide) ?_
  refine l_arg (k := 4) C hL (by omega) ⟨by decide +kernel, by decide +kernel, by decide +kernel, by decide +kernel, by decide +kernel⟩ (by decide) ?_
  refine l_callM (As := [vi (xs (i + 1)).toInt, vi (xs (i + 2)).toInt, vi (xs (i + 3)).toInt, vi (xs (i + 4)).toInt]) (rest := [.int (Int32.ofInt z)]) C (by decide +kernel) clL_35 myX8_load rfl rfl rfl rfl (Nat.le_of_ble_eq_true rfl) (hm g') rfl (fun r N' hr => ?_)
  obtain ⟨z', rfl, hq⟩ := hr
  obtain ⟨e1, J⟩ := hz z z' M' N' hp hq
  subst e1
  exact l_eq (off := 666) (tgt := 1032) (x := Int32.ofInt z) C (by decide +kernel) (by decide) (kk M' N' J)
theorem lc_5 (C : CL p s m meth c b L xs g g') (hL : L ≤ 2560) (hi : i + 4 < L) (I : Inv M N) (kk : ∀ M' N', Inv M' N' → LJ p e s m below meth c b g g' 1032 [] i M' N') : LJ p e s m below meth c b g g' 371 [] i M N := by
  obtain ⟨P, Q, hc, hm, hz⟩ := op_resize I (xs (i + 1)).toInt (xs (i + 2)).toInt (rngI _) (rngI _)
  refine l_ald1 C (by decide +kernel) ?_
  refine l_arg (k := 1) C hL (by omega) ⟨by decide +kernel, by decide +kernel, by decide +kernel, by decide +kernel, by decide +kernel⟩ (by decide) ?_
  refine l_arg (k := 2) C hL (by omega) ⟨by decide +kernel, by decide +kernel, by decide +kernel, by decide +kernel, by decide +kernel⟩ (by decide) ?_
  refine l_callC (As := [vi (xs (i + 1)).toInt, vi (xs (i + 2)).toInt]) C (by decide +kernel) clL_36 myX7_resize rfl rfl rfl rfl (Nat.le_of_ble_eq_true rfl) (hc g) rfl (fun r M' hr => ?_)
  obtain ⟨z, rfl, hp⟩ := hr
  refine l_ald2 C (by decide +kernel) ?_
  refine l_arg (k := 1) C hL (by omega) ⟨by decide +kernel, by decide +kernel, by decide +kernel, by decide +kernel, by decide +kernel⟩ (by decide) ?_
  refine l_arg (k := 2) C hL (by omega) ⟨by decide +kernel, by decide +kernel, by decide +kernel, by decide +kernel, by decide +kernel⟩ (by decide) ?_
  refine l_callM (As := [vi (xs (i + 1)).toInt, vi (xs (i + 2)).toInt]) (rest := [.int (Int32.ofInt z)]) C (by decide +kernel) clL_39 myX8_resize rfl rfl rfl rfl (Nat.le_of_ble_eq_true rfl) (hm g') rfl (fun r N' hr => ?_)
  obtain ⟨z', rfl, hq⟩ := hr
  obtain ⟨e1, J⟩ := hz z z' M' N' hp hq
  subst e1
  exact l_eq (off := 633) (tgt := 1032) (x := Int32.ofInt z) C (by decide +kernel) (by decide) (kk M' N' J)
theorem lc_6 (C : CL p s m meth c b L xs g g') (hL : L ≤ 2560) (hi : i + 4 < L) (I : Inv M N) (kk : ∀ M' N', Inv M' N' → LJ p e s m below meth c b g g' 1032 [] i M' N') : LJ p e s m below meth c b g g' 404 [] i M N := by
  obtain ⟨P, Q, hc, hm, hz⟩ := op_hold I (xs (i + 1)).toInt (xs (i + 2)).toInt (rngI _) (rngI _)
  refine l_ald1 C (by decide +kernel) ?_
  refine l_arg (k := 1) C hL (by omega) ⟨by decide +kernel, by decide +kernel, by decide +kernel, by decide +kernel, by decide +kernel⟩ (by decide) ?_
  refine l_arg (k := 2) C hL (by omega) ⟨by decide +kernel, by decide +kernel, by decide +kernel, by decide +kernel, by decide +kernel⟩ (by decide) ?_
  refine l_callC (As := [vi (xs (i + 1)).toInt, vi (xs (i + 2)).toInt]) C (by decide +kernel) clL_40 myX7_hold rfl rfl rfl rfl (Nat.le_of_ble_eq_true rfl) (hc g) rfl (fun r M' hr => ?_)
  obtain ⟨z, rfl, hp⟩ := hr
  refine l_ald2 C (by decide +kernel) ?_
  refine l_arg (k := 1) C hL (by omega) ⟨by decide +kernel, by decide +kernel, by decide +kernel, by decide +kernel, by decide +kernel⟩ (by decide) ?_
  refine l_arg (k := 2) C hL (by omega) ⟨by decide +kernel, by decide +kernel, by decide +kernel, by decide +kernel, by decide +kernel⟩ (by decide) ?_
  refine l_callM (As := [vi (xs (i + 1)).toInt, vi (xs (i + 2)).toInt]) (rest := [.int (Int32.ofInt z)]) C (by decide +kernel) clL_43 myX8_hold rfl rfl rfl rfl (Nat.le_of_ble_eq_true rfl) (hm g') rfl (fun r N' hr => ?_)
  obtain ⟨z', rfl, hq⟩ := hr
  obtain ⟨e1, J⟩ := hz z z' M' N' hp hq
  subst e1
  exact l_eq (off := 600) (tgt := 1032) (x := Int32.ofInt z) C (by decide +kernel) (by decide) (kk M' N' J)
theorem lc_7 (C : CL p s m meth c b L xs g g') (hL : L ≤ 2560) (hi : i + 4 < L) (I : Inv M N) (kk : ∀ M' N', Inv M' N' → LJ p e s m below meth c b g g' 1032 [] i M' N') : LJ p e s m below meth c b g g' 437 [] i M N := by
  obtain ⟨P, Q, hc, hm, hz⟩ := op_told I (xs (i + 1)).toInt (xs (i + 2)).toInt (rngI _) (rngI _)
  refine l_ald1 C (by decide +kernel) ?_
  refine l_arg (k := 1) C hL (by omega) ⟨by decide +kernel, by decide +kernel, by decide +kernel, by decide +kernel, by decide +kernel⟩ (by decide) ?_
  refine l_arg (k := 2) C hL (by omega) ⟨by decide +kernel, by decide +kernel, by decide +kernel, by decide +kernel, by decide +kernel⟩ (by decide) ?_
  refine l_callC (As := [vi (xs (i + 1)).toInt, vi (xs (i + 2)).toInt]) C (by decide +kernel) clL_44 myX7_told rfl rfl rfl rfl (Nat.le_of_ble_eq_true rfl) (hc g) rfl (fun r M' hr => ?_)
  obtain ⟨z, rfl, hp⟩ := hr
  refine l_ald2 C (by decide +kernel) ?_
  refine l_arg (k := 1) C hL (by omega) ⟨by decide +kernel, by decide +kernel, by decide +kernel, by decide +kernel, by decide +kernel⟩ (by decide) ?_
  refine l_arg (k := 2) C hL (by omega) ⟨by decide +kernel, by decide +kernel, by decide +kernel, by decide +kernel, by decide +kernel⟩ (by decide) ?_
  refine l_callM (As := [vi (xs (i + 1)).toInt, vi (xs (i + 2)).toInt]) (rest := [.int (Int32.ofInt z)]) C (by decide +kernel) clL_47 myX8_told rfl rfl rfl rfl (Nat.le_of_ble_eq_true rfl) (hm g') rfl (fun r N' hr => ?_)
  obtain ⟨z', rfl, hq⟩ := hr
  obtain ⟨e1, J⟩ := hz z z' M' N' hp hq
  subst e1
  exact l_eq (off := 567) (tgt := 1032) (x := Int32.ofInt z) C (by decide +kernel) (by decide) (kk M' N' J)
theorem lc_8 (C : CL p s m meth c b L xs g g') (hL : L ≤ 2560) (hi : i + 4 < L) (I : Inv M N) (kk : ∀ M' N', Inv M' N' → LJ p e s m below meth c b g g' 1032 [] i M' N') : LJ p e s m below meth c b g g' 470 [] i M N := by
  obtain ⟨P, Q, hc, hm, hz⟩ := op_is I (xs (i + 1)).toInt (xs (i + 2)).toInt (rngI _) (rngI _)
  refine l_ald1 C (by decide +kernel) ?_
  refine l_arg (k := 1) C hL (by omega) ⟨by decide +kernel, by decide +kernel, by decide +kernel, by decide +kernel, by decide +kernel⟩ (by decide) ?_
  refine l_arg (k := 2) C hL (by omega) ⟨by decide +kernel, by decide +kernel, by decide +kernel, by decide +kernel, by decide +kernel⟩ (by decide) ?_
  refine l_callC (As := [vi (xs (i + 1)).toInt, vi (xs (i + 2)).toInt]) C (by decide +kernel) clL_48 myX7_is rfl rfl rfl rfl (Nat.le_of_ble_eq_true rfl) (hc g) rfl (fun r M' hr => ?_)
  obtain ⟨z, rfl, hp⟩ := hr
  refine l_ald2 C (by decide +kernel) ?_
  refine l_arg (k := 1) C hL (by omega) ⟨by decide +kernel, by decide +kernel, by decide +kernel, by decide +kernel, by decide +kernel⟩ (by decide) ?_
  refine l_arg (k := 2) C hL (by omega) ⟨by decide +kernel, by decide +kernel, by decide +kernel, by decide +kernel, by decide +kernel⟩ (by decide) ?_
  refine l_callM (As := [vi (xs (i + 1)).toInt, vi (xs (i + 2)).toInt]) (rest := [.int (Int32.ofInt z)]) C (by decide +kernel) clL_51 myX8_is rfl rfl rfl rfl (Nat.le_of_ble_eq_true rfl) (hm g') rfl (fun r N' hr => ?_)
  obtain ⟨z', rfl, hq⟩ := hr
  obtain ⟨e1, J⟩ := hz z z' M' N' hp hq
  subst e1
  exact l_eq (off := 534) (tgt := 1032) (x := Int32.ofInt z) C (by decide +kernel) (by decide) (kk M' N' J)
theorem lc_9 (C : CL p s m meth c b L xs g g') (hL : L ≤ 2560) (hi : i + 4 < L) (I : Inv M N) (kk : ∀ M' N', Inv M' N' → LJ p e s m below meth c b g g' 1032 [] i M' N') : LJ p e s m below meth c b g g' 503 [] i M N := by
  obtain ⟨P, Q, hc, hm, hz⟩ := op_roads I (xs (i + 1)).toInt (xs (i + 2)).toInt (rngI _) (rngI _)
  refine l_ald1 C (by decide +kernel) ?_
  refine l_arg (k := 1) C hL (by omega) ⟨by decide +kernel, by decide +kernel, by decide +kernel, by decide +kernel, by decide +kernel⟩ (by decide) ?_
  refine l_arg (k := 2) C hL (by omega) ⟨by decide +kernel, by decide +kernel, by decide +kernel, by decide +kernel, by decide +kernel⟩ (by decide) ?_
  refine l_callC (As := [vi (xs (i + 1)).toInt, vi (xs (i + 2)).toInt]) C (by decide +kernel) clL_52 myX7_roads rfl rfl rfl rfl (Nat.le_of_ble_eq_true rfl) (hc g) rfl (fun r M' hr => ?_)
  obtain ⟨z, rfl, hp⟩ := hr
  refine l_ald2 C (by decide +kernel) ?_
  refine l_arg (k := 1) C hL (by omega) ⟨by decide +kernel, by decide +kernel, by decide +kernel, by decide +kernel, by decide +kernel⟩ (by decide) ?_
  refine l_arg (k := 2) C hL (by omega) ⟨by decide +kernel, by decide +kernel, by decide +kernel, by decide +kernel, by decide +kernel⟩ (by decide) ?_
  refine l_callM (As := [vi (xs (i + 1)).toInt, vi (xs (i + 2)).toInt]) (rest := [.int (Int32.ofInt z)]) C (by decide +kernel) clL_55 myX8_roads rfl rfl rfl rfl (Nat.le_of_ble_eq_true rfl) (hm g') rfl (fun r N' hr => ?_)
  obtain ⟨z', rfl, hq⟩ := hr
  obtain ⟨e1, J⟩ := hz z z' M' N' hp hq
  subst e1
  exact l_eq (off := 501) (tgt := 1032) (x := Int32.ofInt z) C (by decide +kernel) (by decide) (kk M' N' J)
theorem lc_10 (C : CL p s m meth c b L xs g g') (hL : L ≤ 2560) (hi : i + 4 < L) (I : Inv M N) (kk : ∀ M' N', Inv M' N' → LJ p e s m below meth c b g g' 1032 [] i M' N') : LJ p e s m below meth c b g g' 536 [] i M N := by
  obtain ⟨P, Q, hc, hm, hz⟩ := op_way I (xs (i + 1)).toInt (xs (i + 2)).toInt (xs (i + 3)).toInt (rngI _) (rngI _) (rngI _)
  refine l_ald1 C (by decide +kernel) ?_
  refine l_arg (k := 1) C hL (by omega) ⟨by decide +kernel, by decide +kernel, by decide +kernel, by decide +kernel, by decide +kernel⟩ (by decide) ?_
  refine l_arg (k := 2) C hL (by omega) ⟨by decide +kernel, by decide +kernel, by decide +kernel, by decide +kernel, by decide +kernel⟩ (by decide) ?_
  refine l_arg (k := 3) C hL (by omega) ⟨by decide +kernel, by decide +kernel, by decide +kernel, by decide +kernel, by decide +kernel⟩ (by decide) ?_
  refine l_callC (As := [vi (xs (i + 1)).toInt, vi (xs (i + 2)).toInt, vi (xs (i + 3)).toInt]) C (by decide +kernel) clL_56 myX7_way rfl rfl rfl rfl (Nat.le_of_ble_eq_true rfl) (hc g) rfl (fun r M' hr => ?_)
  obtain ⟨z, rfl, hp⟩ := hr
  refine l_ald2 C (by decide +kernel) ?_
  refine l_arg (k := 1) C hL (by omega) ⟨by decide +kernel, by decide +kernel, by decide +kernel, by decide +kernel, by decide +kernel⟩ (by decide) ?_
  refine l_arg (k := 2) C hL (by omega) ⟨by decide +kernel, by decide +kernel, by decide +kernel, by decide +kernel, by decide +kernel⟩ (by decide) ?_
  refine l_arg (k := 3) C hL (by omega) ⟨by decide +kernel, by decide +kernel, by decide +kernel, by decide +kernel, by decide +kernel⟩ (by decide) ?_
  refine l_callM (As := [vi (xs (i + 1)).toInt, vi (xs (i + 2)).toInt, vi (xs (i + 3)).toInt]) (rest := [.int (Int32.ofInt z)]) C (by decide +kernel) clL_60 myX8_way rfl rfl rfl rfl (Nat.le_of_ble_eq_true rfl) (hm g') rfl (fun r N' hr => ?_)
  obtain ⟨z', rfl, hq⟩ := hr
  obtain ⟨e1, J⟩ := hz z z' M' N' hp hq
  subst e1
  exact l_eq (off := 458) (tgt := 1032) (x := Int32.ofInt z) C (by decide +kernel) (by decide) (kk M' N' J)
theorem lc_11 (C : CL p s m meth c b L xs g g') (hL : L ≤ 2560) (hi : i + 4 < L) (I : Inv M N) (kk : ∀ M' N', Inv M' N' → LJ p e s m below meth c b g g' 1032 [] i M' N') : LJ p e s m below meth c b g g' 579 [] i M N := by
  obtain ⟨P, Q, hc, hm, hz⟩ := op_price I (xs (i + 1)).toInt (xs (i + 2)).toInt (rngI _) (rngI _)
  refine l_ald1 C (by decide +kernel) ?_
  refine l_arg (k := 1) C hL (by omega) ⟨by decide +kernel, by decide +kernel, by decide +kernel, by decide +kernel, by decide +kernel⟩ (by decide) ?_
  refine l_arg (k := 2) C hL (by omega) ⟨by decide +kernel, by decide +kernel, by decide +kernel, by decide +kernel, by decide +kernel⟩ (by decide) ?_
  refine l_callC (As := [vi (xs (i + 1)).toInt, vi (xs (i + 2)).toInt]) C (by decide +kernel) clL_61 myX7_price rfl rfl rfl rfl (Nat.le_of_ble_eq_true rfl) (hc g) rfl (fun r M' hr => ?_)
  obtain ⟨z, rfl, hp⟩ := hr
  refine l_ald2 C (by decide +kernel) ?_
  refine l_arg (k := 1) C hL (by omega) ⟨by decide +kernel, by decide +kernel, by decide +kernel, by decide +kernel, by decide +kernel⟩ (by decide) ?_
  refine l_arg (k := 2) C hL (by omega) ⟨by decide +kernel, by decide +kernel, by decide +kernel, by decide +kernel, by decide +kernel⟩ (by decide) ?_
  refine l_callM (As := [vi (xs (i + 1)).toInt, vi (xs (i + 2)).toInt]) (rest := [.int (Int32.ofInt z)]) C (by decide +kernel) clL_64 myX8_price rfl rfl rfl rfl (Nat.le_of_ble_eq_true rfl) (hm g') rfl (fun r N' hr => ?_)
  obtain ⟨z', rfl, hq⟩ := hr
  obtain ⟨e1, J⟩ := hz z z' M' N' hp hq
  subst e1
  exact l_eq (off := 425) (tgt := 1032) (x := Int32.ofInt z) C (by decide +kernel) (by decide) (kk M' N' J)
theorem lc_12 (C : CL p s m meth c b L xs g g') (hL : L ≤ 2560) (hi : i + 4 < L) (I : Inv M N) (kk : ∀ M' N', Inv M' N' → LJ p e s m below meth c b g g' 1032 [] i M' N') : LJ p e s m below meth c b g g' 612 [] i M N := by
  obtain ⟨P, Q, hc, hm, hz⟩ := op_cheap I (xs (i + 1)).toInt (rngI _)
  refine l_ald1 C (by decide +kernel) ?_
  refine l_arg (k := 1) C hL (by omega) ⟨by decide +kernel, by decide +kernel, by decide +kernel, by decide +kernel, by decide +kernel⟩ (by decide) ?_
  refine l_callC (As := [vi (xs (i + 1)).toInt]) C (by decide +kernel) clL_65 myX7_cheap rfl rfl rfl rfl (Nat.le_of_ble_eq_true rfl) (hc g) rfl (fun r M' hr => ?_)
  obtain ⟨z, rfl, hp⟩ := hr
  refine l_ald2 C (by decide +kernel) ?_
  refine l_arg (k := 1) C hL (by omega) ⟨by decide +kernel, by decide +kernel, by decide +kernel, by decide +kernel, by decide +kernel⟩ (by decide) ?_
  refine l_callM (As := [vi (xs (i + 1)).toInt]) (rest := [.int (Int32.ofInt z)]) C (by decide +kernel) clL_68 myX8_cheap rfl rfl rfl rfl (Nat.le_of_ble_eq_true rfl) (hm g') rfl (fun r N' hr => ?_)
  obtain ⟨z', rfl, hq⟩ := hr
  obtain ⟨e1, J⟩ := hz z z' M' N' hp hq
  subst e1
  exact l_eq (off := 402) (tgt := 1032) (x := Int32.ofInt z) C (by decide +kernel) (by decide) (kk M' N' J)
theorem lc_13 (C : CL p s m meth c b L xs g g') (hL : L ≤ 2560) (hi : i + 4 < L) (I : Inv M N) (kk : ∀ M' N', Inv M' N' → LJ p e s m below meth c b g g' 1032 [] i M' N') : LJ p e s m below meth c b g g' 635 [] i M N := by
  obtain ⟨P, Q, hc, hm, hz⟩ := op_send I (xs (i + 1)).toInt (xs (i + 2)).toInt (xs (i + 3)).toInt (rngI _) (rngI _) (rngI _)
  refine l_ald1 C (by decide +kernel) ?_
  refine l_arg (k := 1) C hL (by omega) ⟨by decide +kernel, by decide +kernel, by decide +kernel, by decide +kernel, by decide +kernel⟩ (by decide) ?_
  refine l_arg (k := 2) C hL (by omega) ⟨by decide +kernel, by decide +kernel, by decide +kernel, by decide +kernel, by decide +kernel⟩ (by decide) ?_
  refine l_arg (k := 3) C hL (by omega) ⟨by decide +kernel, by decide +kernel, by decide +kernel, by decide +kernel, by decide +kernel⟩ (by decide) ?_
  refine l_callC (As := [vi (xs (i + 1)).toInt, vi (xs (i + 2)).toInt, vi (xs (i + 3)).toInt]) C (by decide +kernel) clL_69 myX7_send rfl rfl rfl rfl (Nat.le_of_ble_eq_true rfl) (hc g) rfl (fun r M' hr => ?_)
  obtain ⟨z, rfl, hp⟩ := hr
  refine l_ald2 C (by decide +kernel) ?_
  refine l_arg (k := 1) C hL (by omega) ⟨by decide +kernel, by decide +kernel, by decide +kernel, by decide +kernel, by decide +kernel⟩ (by decide) ?_
  refine l_arg (k := 2) C hL (by omega) ⟨by decide +kernel, by decide +kernel, by decide +kernel, by decide +kernel, by decide +kernel⟩ (by decide) ?_
  refine l_arg (k := 3) C hL (by omega) ⟨by decide +kernel, by decide +kernel, by decide +kernel, by decide +kernel, by decide +kernel⟩ (by decide) ?_
  refine l_callM (As := [vi (xs (i + 1)).toInt, vi (xs (i + 2)).toInt, vi (xs (i + 3)).toInt]) (rest := [.int (Int32.ofInt z)]) C (by decide +kernel) clL_72 myX8_send rfl rfl rfl rfl (Nat.le_of_ble_eq_true rfl) (hm g') rfl (fun r N' hr => ?_)
  obtain ⟨z', rfl, hq⟩ := hr
  obtain ⟨e1, J⟩ := hz z z' M' N' hp hq
  subst e1
  exact l_eq (off := 359) (tgt := 1032) (x := Int32.ofInt z) C (by decide +kernel) (by decide) (kk M' N' J)
theorem lc_14 (C : CL p s m meth c b L xs g g') (hL : L ≤ 2560) (hi : i + 4 < L) (I : Inv M N) (kk : ∀ M' N', Inv M' N' → LJ p e s m below meth c b g g' 1032 [] i M' N') : LJ p e s m below meth c b g g' 678 [] i M N := by
  obtain ⟨P, Q, hc, hm, hz⟩ := op_sent I (xs (i + 1)).toInt (xs (i + 2)).toInt (rngI _) (rngI _)
  refine l_ald1 C (by decide +kernel) ?_
  refine l_arg (k := 1) C hL (by omega) ⟨by decide +kernel, by decide +kernel, by decide +kernel, by decide +kernel, by decide +kernel⟩ (by decide) ?_
  refine l_arg (k := 2) C hL (by omega) ⟨by decide +kernel, by decide +kernel, by decide +kernel, by decide +kernel, by decide +kernel⟩ (by decide) ?_
  refine l_callC (As := [vi (xs (i + 1)).toInt, vi (xs (i + 2)).toInt]) C (by decide +kernel) clL_73 myX7_sent rfl rfl rfl rfl (Nat.le_of_ble_eq_true rfl) (hc g) rfl (fun r M' hr => ?_)
  obtain ⟨z, rfl, hp⟩ := hr
  refine l_ald2 C (by decide +kernel) ?_
  refine l_arg (k := 1) C hL (by omega) ⟨by decide +kernel, by decide +kernel, by decide +kernel, by decide +kernel, by decide +kernel⟩ (by decide) ?_
  refine l_arg (k := 2) C hL (by omega) ⟨by decide +kernel, by decide +kernel, by decide +kernel, by decide +kernel, by decide +kernel⟩ (by decide) ?_
  refine l_callM (As := [vi (xs (i + 1)).toInt, vi (xs (i + 2)).toInt]) (rest := [.int (Int32.ofInt z)]) C (by decide +kernel) clL_76 myX8_sent rfl rfl rfl rfl (Nat.le_of_ble_eq_true rfl) (hm g') rfl (fun r N' hr => ?_)
  obtain ⟨z', rfl, hq⟩ := hr
  obtain ⟨e1, J⟩ := hz z z' M' N' hp hq
  subst e1
  exact l_eq (off := 326) (tgt := 1032) (x := Int32.ofInt z) C (by decide +kernel) (by decide) (kk M' N' J)
theorem lc_15 (C : CL p s m meth c b L xs g g') (hL : L ≤ 2560) (hi : i + 4 < L) (I : Inv M N) (kk : ∀ M' N', Inv M' N' → LJ p e s m below meth c b g g' 1032 [] i M' N') : LJ p e s m below meth c b g g' 711 [] i M N := by
  obtain ⟨P, Q, hc, hm, hz⟩ := op_fill I (xs (i + 1)).toInt (rngI _)
  refine l_ald1 C (by decide +kernel) ?_
  refine l_arg (k := 1) C hL (by omega) ⟨by decide +kernel, by decide +kernel, by decide +kernel, by decide +kernel, by decide +kernel⟩ (by decide) ?_
  refine l_callC (As := [vi (xs (i + 1)).toInt]) C (by decide +kernel) clL_77 myX7_fill rfl rfl rfl rfl (Nat.le_of_ble_eq_true rfl) (hc g) rfl (fun r M' hr => ?_)
  obtain ⟨z, rfl, hp⟩ := hr
  refine l_ald2 C (by decide +kernel) ?_
  refine l_arg (k := 1) C hL (by omega) ⟨by decide +kernel, by decide +kernel, by decide +kernel, by decide +kernel, by decide +kernel⟩ (by decide) ?_
  refine l_callM (As := [vi (xs (i + 1)).toInt]) (rest := [.int (Int32.ofInt z)]) C (by decide +kernel) clL_80 myX8_fill rfl rfl rfl rfl (Nat.le_of_ble_eq_true rfl) (hm g') rfl (fun r N' hr => ?_)
  obtain ⟨z', rfl, hq⟩ := hr
  obtain ⟨e1, J⟩ := hz z z' M' N' hp hq
  subst e1
  exact l_eq (off := 303) (tgt := 1032) (x := Int32.ofInt z) C (by decide +kernel) (by decide) (kk M' N' J)
theorem lc_16 (C : CL p s m meth c b L xs g g') (hL : L ≤ 2560) (hi : i + 4 < L) (I : Inv M N) (kk : ∀ M' N', Inv M' N' → LJ p e s m below meth c b g g' 1032 [] i M' N') : LJ p e s m below meth c b g g' 734 [] i M N := by
  obtain ⟨P, Q, hc, hm, hz⟩ := op_empty I (xs (i + 1)).toInt (rngI _)
  refine l_ald1 C (by decide +kernel) ?_
  refine l_arg (k := 1) C hL (by omega) ⟨by decide +kernel, by decide +kernel, by decide +kernel, by decide +kernel, by decide +kernel⟩ (by decide) ?_
  refine l_callC (As := [vi (xs (i + 1)).toInt]) C (by decide +kernel) clL_81 myX7_empty rfl rfl rfl rfl (Nat.le_of_ble_eq_true rfl) (hc g) rfl (fun r M' hr => ?_)
  obtain ⟨z, rfl, hp⟩ := hr
  refine l_ald2 C (by decide +kernel) ?_
  refine l_arg (k := 1) C hL (by omega) ⟨by decide +kernel, by decide +kernel, by decide +kernel, by decide +kernel, by decide +kernel⟩ (by decide) ?_
  refine l_callM (As := [vi (xs (i + 1)).toInt]) (rest := [.int (Int32.ofInt z)]) C (by decide +kernel) clL_84 myX8_empty rfl rfl rfl rfl (Nat.le_of_ble_eq_true rfl) (hm g') rfl (fun r N' hr => ?_)
  obtain ⟨z', rfl, hq⟩ := hr
  obtain ⟨e1, J⟩ := hz z z' M' N' hp hq
  subst e1
  exact l_eq (off := 280) (tgt := 1032) (x := Int32.ofInt z) C (by decide +kernel) (by decide) (kk M' N' J)
theorem lc_17 (C : CL p s m meth c b L xs g g') (hL : L ≤ 2560) (hi : i + 4 < L) (I : Inv M N) (kk : ∀ M' N', Inv M' N' → LJ p e s m below meth c b g g' 1032 [] i M' N') : LJ p e s m below meth c b g g' 757 [] i M N := by
  obtain ⟨P, Q, hc, hm, hz⟩ := op_many I (xs (i + 1)).toInt (rngI _)
  refine l_ald1 C (by decide +kernel) ?_
  refine l_arg (k := 1) C hL (by omega) ⟨by decide +kernel, by decide +kernel, by decide +kernel, by decide +kernel, by decide +kernel⟩ (by decide) ?_
  refine l_callC (As := [vi (xs (i + 1)).toInt]) C (by decide +kernel) clL_85 myX7_many rfl rfl rfl rfl (Nat.le_of_ble_eq_true rfl) (hc g) rfl (fun r M' hr => ?_)
  obtain ⟨z, rfl, hp⟩ := hr
  refine l_ald2 C (by decide +kernel) ?_
  refine l_arg (k := 1) C hL (by omega) ⟨by decide +kernel, by decide +kernel, by decide +kernel, by decide +kernel, by decide +kernel⟩ (by decide) ?_
  refine l_callM (As := [vi (xs (i + 1)).toInt]) (rest := [.int (Int32.ofInt z)]) C (by decide +kernel) clL_88 myX8_many rfl rfl rfl rfl (Nat.le_of_ble_eq_true rfl) (hm g') rfl (fun r N' hr => ?_)
  obtain ⟨z', rfl, hq⟩ := hr
  obtain ⟨e1, J⟩ := hz z z' M' N' hp hq
  subst e1
  exact l_eq (off := 257) (tgt := 1032) (x := Int32.ofInt z) C (by decide +kernel) (by decide) (kk M' N' J)
theorem lc_18 (C : CL p s m meth c b L xs g g') (hL : L ≤ 2560) (hi : i + 4 < L) (I : Inv M N) (kk : ∀ M' N', Inv M' N' → LJ p e s m below meth c b g g' 1032 [] i M' N') : LJ p e s m below meth c b g g' 780 [] i M N := by
  obtain ⟨P, Q, hc, hm, hz⟩ := op_over I  
  refine l_ald1 C (by decide +kernel) ?_
  refine l_callC (As := []) C (by decide +kernel) clL_89 myX7_over rfl rfl rfl rfl (Nat.le_of_ble_eq_true rfl) (hc g) rfl (fun r M' hr => ?_)
  obtain ⟨z, rfl, hp⟩ := hr
  refine l_ald2 C (by decide +kernel) ?_
  refine l_callM (As := []) (rest := [.int (Int32.ofInt z)]) C (by decide +kernel) clL_93 myX8_over rfl rfl rfl rfl (Nat.le_of_ble_eq_true rfl) (hm g') rfl (fun r N' hr => ?_)
  obtain ⟨z', rfl, hq⟩ := hr
  obtain ⟨e1, J⟩ := hz z z' M' N' hp hq
  subst e1
  exact l_eq (off := 244) (tgt := 1032) (x := Int32.ofInt z) C (by decide +kernel) (by decide) (kk M' N' J)
theorem lc_19 (C : CL p s m meth c b L xs g g') (hL : L ≤ 2560) (hi : i + 4 < L) (I : Inv M N) (kk : ∀ M' N', Inv M' N' → LJ p e s m below meth c b g g' 1032 [] i M' N') : LJ p e s m below meth c b g g' 793 [] i M N := by
  obtain ⟨P, Q, hc, hm, hz⟩ := op_ones I  
  refine l_ald1 C (by decide +kernel) ?_
  refine l_callC (As := []) C (by decide +kernel) clL_94 myX7_ones rfl rfl rfl rfl (Nat.le_of_ble_eq_true rfl) (hc g) rfl (fun r M' hr => ?_)
  obtain ⟨z, rfl, hp⟩ := hr
  refine l_ald2 C (by decide +kernel) ?_
  refine l_callM (As := []) (rest := [.int (Int32.ofInt z)]) C (by decide +kernel) clL_97 myX8_ones rfl rfl rfl rfl (Nat.le_of_ble_eq_true rfl) (hm g') rfl (fun r N' hr => ?_)
  obtain ⟨z', rfl, hq⟩ := hr
  obtain ⟨e1, J⟩ := hz z z' M' N' hp hq
  subst e1
  exact l_eq (off := 231) (tgt := 1032) (x := Int32.ofInt z) C (by decide +kernel) (by decide) (kk M' N' J)
theorem lc_20 (C : CL p s m meth c b L xs g g') (hL : L ≤ 2560) (hi : i + 4 < L) (I : Inv M N) (kk : ∀ M' N', Inv M' N' → LJ p e s m below meth c b g g' 1032 [] i M' N') : LJ p e s m below meth c b g g' 806 [] i M N := by
  obtain ⟨P, Q, hc, hm, hz⟩ := op_wall I (xs (i + 1)).toInt (rngI _)
  refine l_ald1 C (by decide +kernel) ?_
  refine l_arg (k := 1) C hL (by omega) ⟨by decide +kernel, by decide +kernel, by decide +kernel, by decide +kernel, by decide +kernel⟩ (by decide) ?_
  refine l_callC (As := [vi (xs (i + 1)).toInt]) C (by decide +kernel) clL_98 myX7_wall rfl rfl rfl rfl (Nat.le_of_ble_eq_true rfl) (hc g) rfl (fun r M' hr => ?_)
  obtain ⟨z, rfl, hp⟩ := hr
  refine l_ald2 C (by decide +kernel) ?_
  refine l_arg (k := 1) C hL (by omega) ⟨by decide +kernel, by decide +kernel, by decide +kernel, by decide +kernel, by decide +kernel⟩ (by decide) ?_
  refine l_callM (As := [vi (xs (i + 1)).toInt]) (rest := [.int (Int32.ofInt z)]) C (by decide +kernel) clL_101 myX8_wall rfl rfl rfl rfl (Nat.le_of_ble_eq_true rfl) (hm g') rfl (fun r N' hr => ?_)
  obtain ⟨z', rfl, hq⟩ := hr
  obtain ⟨e1, J⟩ := hz z z' M' N' hp hq
  subst e1
  exact l_eq (off := 208) (tgt := 1032) (x := Int32.ofInt z) C (by decide +kernel) (by decide) (kk M' N' J)
theorem lc_21 (C : CL p s m meth c b L xs g g') (hL : L ≤ 2560) (hi : i + 4 < L) (I : Inv M N) (kk : ∀ M' N', Inv M' N' → LJ p e s m below meth c b g g' 1032 [] i M' N') : LJ p e s m below meth c b g g' 829 [] i M N := by
  obtain ⟨P, Q, hc, hm, hz⟩ := op_call I (xs (i + 1)).toInt (rngI _)
  refine l_ald1 C (by decide +kernel) ?_
  refine l_arg (k := 1) C hL (by omega) ⟨by decide +kernel, by decide +kernel, by decide +kernel, by decide +kernel, by decide +kernel⟩ (by decide) ?_
  refine l_callC (As := [vi (xs (i + 1)).toInt]) C (by decide +kernel) clL_102 myX7_call rfl rfl rfl rfl (Nat.le_of_ble_eq_true rfl) (hc g) rfl (fun r M' hr => ?_)
  obtain ⟨z, rfl, hp⟩ := hr
  refine l_ald2 C (by decide +kernel) ?_
  refine l_arg (k := 1) C hL (by omega) ⟨by decide +kernel, by decide +kernel, by decide +kernel, by decide +kernel, by decide +kernel⟩ (by decide) ?_
  refine l_callM (As := [vi (xs (i + 1)).toInt]) (rest := [.int (Int32.ofInt z)]) C (by decide +kernel) clL_105 myX8_call rfl rfl rfl rfl (Nat.le_of_ble_eq_true rfl) (hm g') rfl (fun r N' hr => ?_)
  obtain ⟨z', rfl, hq⟩ := hr
  obtain ⟨e1, J⟩ := hz z z' M' N' hp hq
  subst e1
  exact l_eq (off := 185) (tgt := 1032) (x := Int32.ofInt z) C (by decide +kernel) (by decide) (kk M' N' J)
theorem lc_22 (C : CL p s m meth c b L xs g g') (hL : L ≤ 2560) (hi : i + 4 < L) (I : Inv M N) (kk : ∀ M' N', Inv M' N' → LJ p e s m below meth c b g g' 1032 [] i M' N') : LJ p e s m below meth c b g g' 852 [] i M N := by
  obtain ⟨P, Q, hc, hm, hz⟩ := op_bars I  
  refine l_ald1 C (by decide +kernel) ?_
  refine l_callC (As := []) C (by decide +kernel) clL_106 myX7_bars rfl rfl rfl rfl (Nat.le_of_ble_eq_true rfl) (hc g) rfl (fun r M' hr => ?_)
  obtain ⟨z, rfl, hp⟩ := hr
  refine l_ald2 C (by decide +kernel) ?_
  refine l_callM (As := []) (rest := [.int (Int32.ofInt z)]) C (by decide +kernel) clL_109 myX8_bars rfl rfl rfl rfl (Nat.le_of_ble_eq_true rfl) (hm g') rfl (fun r N' hr => ?_)
  obtain ⟨z', rfl, hq⟩ := hr
  obtain ⟨e1, J⟩ := hz z z' M' N' hp hq
  subst e1
  exact l_eq (off := 172) (tgt := 1032) (x := Int32.ofInt z) C (by decide +kernel) (by decide) (kk M' N' J)
theorem lc_23 (C : CL p s m meth c b L xs g g') (hL : L ≤ 2560) (hi : i + 4 < L) (I : Inv M N) (kk : ∀ M' N', Inv M' N' → LJ p e s m below meth c b g g' 1032 [] i M' N') : LJ p e s m below meth c b g g' 865 [] i M N := by
  obtain ⟨P, Q, hc, hm, hz⟩ := op_barring I  
  refine l_ald1 C (by decide +kernel) ?_
  refine l_callC (As := []) C (by decide +kernel) clL_110 myX7_barring rfl rfl rfl rfl (Nat.le_of_ble_eq_true rfl) (hc g) rfl (fun r M' hr => ?_)
  obtain ⟨z, rfl, hp⟩ := hr
  refine l_ald2 C (by decide +kernel) ?_
  refine l_callM (As := []) (rest := [.int (Int32.ofInt z)]) C (by decide +kernel) clL_113 myX8_barring rfl rfl rfl rfl (Nat.le_of_ble_eq_true rfl) (hm g') rfl (fun r N' hr => ?_)
  obtain ⟨z', rfl, hq⟩ := hr
  obtain ⟨e1, J⟩ := hz z z' M' N' hp hq
  subst e1
  exact l_eq (off := 159) (tgt := 1032) (x := Int32.ofInt z) C (by decide +kernel) (by decide) (kk M' N' J)
theorem lc_24 (C : CL p s m meth c b L xs g g') (hL : L ≤ 2560) (hi : i + 4 < L) (I : Inv M N) (kk : ∀ M' N', Inv M' N' → LJ p e s m below meth c b g g' 1032 [] i M' N') : LJ p e s m below meth c b g g' 878 [] i M N := by
  obtain ⟨P, Q, hc, hm, hz⟩ := op_meets I (xs (i + 1)).toInt (rngI _)
  refine l_ald1 C (by decide +kernel) ?_
  refine l_arg (k := 1) C hL (by omega) ⟨by decide +kernel, by decide +kernel, by decide +kernel, by decide +kernel, by decide +kernel⟩ (by decide) ?_
  refine l_callC (As := [vi (xs (i + 1)).toInt]) C (by decide +kernel) clL_114 myX7_meets rfl rfl rfl rfl (Nat.le_of_ble_eq_true rfl) (hc g) rfl (fun r M' hr => ?_)
  obtain ⟨z, rfl, hp⟩ := hr
  refine l_ald2 C (by decide +kernel) ?_
  refine l_arg (k := 1) C hL (by omega) ⟨by decide +kernel, by decide +kernel, by decide +kernel, by decide +kernel, by decide +kernel⟩ (by decide) ?_
  refine l_callM (As := [vi (xs (i + 1)).toInt]) (rest := [.int (Int32.ofInt z)]) C (by decide +kernel) clL_117 myX8_meets rfl rfl rfl rfl (Nat.le_of_ble_eq_true rfl) (hm g') rfl (fun r N' hr => ?_)
  obtain ⟨z', rfl, hq⟩ := hr
  obtain ⟨e1, J⟩ := hz z z' M' N' hp hq
  subst e1
  exact l_eq (off := 136) (tgt := 1032) (x := Int32.ofInt z) C (by decide +kernel) (by decide) (kk M' N' J)
theorem lc_25 (C : CL p s m meth c b L xs g g') (hL : L ≤ 2560) (hi : i + 4 < L) (I : Inv M N) (kk : ∀ M' N', Inv M' N' → LJ p e s m below meth c b g g' 1032 [] i M' N') : LJ p e s m below meth c b g g' 901 [] i M N := by
  obtain ⟨P, Q, hc, hm, hz⟩ := op_measure I (xs (i + 1)).toInt (xs (i + 2)).toInt (rngI _) (rngI _)
  refine l_ald1 C (by decide +kernel) ?_
  refine l_arg (k := 1) C hL (by omega) ⟨by decide +kernel, by decide +kernel, by decide +kernel, by decide +kernel, by decide +kernel⟩ (by decide) ?_
  refine l_arg (k := 2) C hL (by omega) ⟨by decide +kernel, by decide +kernel, by decide +kernel, by decide +kernel, by decide +kernel⟩ (by decide) ?_
  refine l_callC (As := [vi (xs (i + 1)).toInt, vi (xs (i + 2)).toInt]) C (by decide +kernel) clL_118 myX7_measure rfl rfl rfl rfl (Nat.le_of_ble_eq_true rfl) (hc g) rfl (fun r M' hr => ?_)
  obtain ⟨z, rfl, hp⟩ := hr
  refine l_ald2 C (by decide +kernel) ?_
  refine l_arg (k := 1) C hL (by omega) ⟨by decide +kernel, by decide +kernel, by decide +kernel, by decide +kernel, by decide +kernel⟩ (by decide) ?_
  refine l_arg (k := 2) C hL (by omega) ⟨by decide +kernel, by decide +kernel, by decide +kernel, by decide +kernel, by decide +kernel⟩ (by decide) ?_
  refine l_callM (As := [vi (xs (i + 1)).toInt, vi (xs (i + 2)).toInt]) (rest := [.int (Int32.ofInt z)]) C (by decide +kernel) clL_121 myX8_measure rfl rfl rfl rfl (Nat.le_of_ble_eq_true rfl) (hm g') rfl (fun r N' hr => ?_)
  obtain ⟨z', rfl, hq⟩ := hr
  obtain ⟨e1, J⟩ := hz z z' M' N' hp hq
  subst e1
  exact l_eq (off := 103) (tgt := 1032) (x := Int32.ofInt z) C (by decide +kernel) (by decide) (kk M' N' J)
theorem lc_26 (C : CL p s m meth c b L xs g g') (hL : L ≤ 2560) (hi : i + 4 < L) (I : Inv M N) (kk : ∀ M' N', Inv M' N' → LJ p e s m below meth c b g g' 1032 [] i M' N') : LJ p e s m below meth c b g g' 934 [] i M N := by
  obtain ⟨P, Q, hc, hm, hz⟩ := op_barred I  
  refine l_ald1 C (by decide +kernel) ?_
  refine l_callC (As := []) C (by decide +kernel) clL_122 myX7_barred rfl rfl rfl rfl (Nat.le_of_ble_eq_true rfl) (hc g) rfl (fun r M' hr => ?_)
  obtain ⟨z, rfl, hp⟩ := hr
  refine l_ald2 C (by decide +kernel) ?_
  refine l_callM (As := []) (rest := [.int (Int32.ofInt z)]) C (by decide +kernel) clL_125 myX8_barred rfl rfl rfl rfl (Nat.le_of_ble_eq_true rfl) (hm g') rfl (fun r N' hr => ?_)
  obtain ⟨z', rfl, hq⟩ := hr
  obtain ⟨e1, J⟩ := hz z z' M' N' hp hq
  subst e1
  exact l_eq (off := 90) (tgt := 1032) (x := Int32.ofInt z) C (by decide +kernel) (by decide) (kk M' N' J)
theorem lc_27 (C : CL p s m meth c b L xs g g') (hL : L ≤ 2560) (hi : i + 4 < L) (I : Inv M N) (kk : ∀ M' N', Inv M' N' → LJ p e s m below meth c b g g' 1032 [] i M' N') : LJ p e s m below meth c b g g' 947 [] i M N := by
  obtain ⟨P, Q, hc, hm, hz⟩ := op_share I (xs (i + 1)).toInt (xs (i + 2)).toInt (rngI _) (rngI _)
  refine l_ald1 C (by decide +kernel) ?_
  refine l_arg (k := 1) C hL (by omega) ⟨by decide +kernel, by decide +kernel, by decide +kernel, by decide +kernel, by decide +kernel⟩ (by decide) ?_
  refine l_arg (k := 2) C hL (by omega) ⟨by decide +kernel, by decide +kernel, by decide +kernel, by decide +kernel, by decide +kernel⟩ (by decide) ?_
  refine l_callC (As := [vi (xs (i + 1)).toInt, vi (xs (i + 2)).toInt]) C (by decide +kernel) clL_126 myX7_share rfl rfl rfl rfl (Nat.le_of_ble_eq_true rfl) (hc g) rfl (fun r M' hr => ?_)
  obtain ⟨z, rfl, hp⟩ := hr
  refine l_ald2 C (by decide +kernel) ?_
  refine l_arg (k := 1) C hL (by omega) ⟨by decide +kernel, by decide +kernel, by decide +kernel, by decide +kernel, by decide +kernel⟩ (by decide) ?_
  refine l_arg (k := 2) C hL (by omega) ⟨by decide +kernel, by decide +kernel, by decide +kernel, by decide +kernel, by decide +kernel⟩ (by decide) ?_
  refine l_callM (As := [vi (xs (i + 1)).toInt, vi (xs (i + 2)).toInt]) (rest := [.int (Int32.ofInt z)]) C (by decide +kernel) clL_129 myX8_share rfl rfl rfl rfl (Nat.le_of_ble_eq_true rfl) (hm g') rfl (fun r N' hr => ?_)
  obtain ⟨z', rfl, hq⟩ := hr
  obtain ⟨e1, J⟩ := hz z z' M' N' hp hq
  subst e1
  exact l_eq (off := 57) (tgt := 1032) (x := Int32.ofInt z) C (by decide +kernel) (by decide) (kk M' N' J)
theorem lc_28 (C : CL p s m meth c b L xs g g') (hL : L ≤ 2560) (hi : i + 4 < L) (I : Inv M N) (kk : ∀ M' N', Inv M' N' → LJ p e s m below meth c b g g' 1032 [] i M' N') : LJ p e s m below meth c b g g' 980 [] i M N := by
  obtain ⟨P, Q, hc, hm, hz⟩ := op_whole I  
  refine l_ald1 C (by decide +kernel) ?_
  refine l_callC (As := []) C (by decide +kernel) clL_130 myX7_whole rfl rfl rfl rfl (Nat.le_of_ble_eq_true rfl) (hc g) rfl (fun r M' hr => ?_)
  obtain ⟨z, rfl, hp⟩ := hr
  refine l_ald2 C (by decide +kernel) ?_
  refine l_callM (As := []) (rest := [.int (Int32.ofInt z)]) C (by decide +kernel) clL_133 myX8_whole rfl rfl rfl rfl (Nat.le_of_ble_eq_true rfl) (hm g') rfl (fun r N' hr => ?_)
  obtain ⟨z', rfl, hq⟩ := hr
  obtain ⟨e1, J⟩ := hz z z' M' N' hp hq
  subst e1
  exact l_eq (off := 44) (tgt := 1032) (x := Int32.ofInt z) C (by decide +kernel) (by decide) (kk M' N' J)
theorem lc_29 (C : CL p s m meth c b L xs g g') (hL : L ≤ 2560) (hi : i + 4 < L) (I : Inv M N) (kk : ∀ M' N', Inv M' N' → LJ p e s m below meth c b g g' 1032 [] i M' N') : LJ p e s m below meth c b g g' 993 [] i M N := by
  obtain ⟨P, Q, hc, hm, hz⟩ := op_buy I  
  refine l_ald1 C (by decide +kernel) ?_
  refine l_callC (As := []) C (by decide +kernel) clL_134 myX7_buy rfl rfl rfl rfl (Nat.le_of_ble_eq_true rfl) (hc g) rfl (fun r M' hr => ?_)
  obtain ⟨z, rfl, hp⟩ := hr
  refine l_ald2 C (by decide +kernel) ?_
  refine l_callM (As := []) (rest := [.int (Int32.ofInt z)]) C (by decide +kernel) clL_137 myX8_buy rfl rfl rfl rfl (Nat.le_of_ble_eq_true rfl) (hm g') rfl (fun r N' hr => ?_)
  obtain ⟨z', rfl, hq⟩ := hr
  obtain ⟨e1, J⟩ := hz z z' M' N' hp hq
  subst e1
  exact l_eq (off := 31) (tgt := 1032) (x := Int32.ofInt z) C (by decide +kernel) (by decide) (kk M' N' J)
theorem lc_30 (C : CL p s m meth c b L xs g g') (hL : L ≤ 2560) (hi : i + 4 < L) (I : Inv M N) (kk : ∀ M' N', Inv M' N' → LJ p e s m below meth c b g g' 1032 [] i M' N') : LJ p e s m below meth c b g g' 1006 [] i M N := by
  obtain ⟨P, Q, hc, hm, hz⟩ := op_keep I  
  refine l_ald1 C (by decide +kernel) ?_
  refine l_callC (As := []) C (by decide +kernel) clL_138 myX7_keep rfl rfl rfl rfl (Nat.le_of_ble_eq_true rfl) (hc g) rfl (fun r M' hr => ?_)
  obtain ⟨z, rfl, hp⟩ := hr
  refine l_ald2 C (by decide +kernel) ?_
  refine l_callM (As := []) (rest := [.int (Int32.ofInt z)]) C (by decide +kernel) clL_141 myX8_keep rfl rfl rfl rfl (Nat.le_of_ble_eq_true rfl) (hm g') rfl (fun r N' hr => ?_)
  obtain ⟨z', rfl, hq⟩ := hr
  obtain ⟨e1, J⟩ := hz z z' M' N' hp hq
  subst e1
  exact l_eq (off := 18) (tgt := 1032) (x := Int32.ofInt z) C (by decide +kernel) (by decide) (kk M' N' J)
theorem lc_31 (C : CL p s m meth c b L xs g g') (hL : L ≤ 2560) (hi : i + 4 < L) (I : Inv M N) (kk : ∀ M' N', Inv M' N' → LJ p e s m below meth c b g g' 1032 [] i M' N') : LJ p e s m below meth c b g g' 1019 [] i M N := by
  obtain ⟨P, Q, hc, hm, hz⟩ := op_back I  
  refine l_ald1 C (by decide +kernel) ?_
  refine l_callC (As := []) C (by decide +kernel) clL_142 myX7_back rfl rfl rfl rfl (Nat.le_of_ble_eq_true rfl) (hc g) rfl (fun r M' hr => ?_)
  obtain ⟨z, rfl, hp⟩ := hr
  refine l_ald2 C (by decide +kernel) ?_
  refine l_callM (As := []) (rest := [.int (Int32.ofInt z)]) C (by decide +kernel) clL_145 myX8_back rfl rfl rfl rfl (Nat.le_of_ble_eq_true rfl) (hm g') rfl (fun r N' hr => ?_)
  obtain ⟨z', rfl, hq⟩ := hr
  obtain ⟨e1, J⟩ := hz z z' M' N' hp hq
  subst e1
  exact l_eq (off := 5) (tgt := 1032) (x := Int32.ofInt z) C (by decide +kernel) (by decide) (kk M' N' J)
end LC
