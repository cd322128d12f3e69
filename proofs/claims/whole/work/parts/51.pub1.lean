/-! the class: the public calls that need no ways -/
section CB
variable {g : Gt} {M : Mem}
theorem sX7_net (d : Nat) (n : Int) (hnr : -2147483648 ≤ n ∧ n ≤ 2147483647) : Ex LyC g (d + 4) mX7_net [vr 0, vi n] M (PI (if 1 ≤ n ∧ n ≤ 9 then n else -1) (if 1 ≤ n ∧ n ≤ 9 then mset (mset (mset (mset M 1 (fset (fset (fset (M 1) 0 n) 1 0) 2 0)) 22 (fillN (M 22) 40 0)) 23 (fillN (M 23) 5 0)) 32 (fillN (M 32) 5 0) else M)) := by
  refine Ex.in [some (vr 0), some (vi n)] (by decide +kernel) rfl (Nat.le_of_ble_eq_true rfl) ?_ rfl
  refine r_ldn iX7_net_0 rfl ?_
  refine r_con iX7_net_1 ?_
  refine r_bip iX7_net_2 (by decide) ?_
  refine call_S3i iX7_net_4 clX7_61 myX7_isWithin rfl (sX7_isWithin _ _ _ _ (by omega)) ?_
  refine r_ifne iX7_net_7 (by split <;> omega) (fun h7 => ?_) (fun h7 => ?_)
  · rw [ne_eq, ite10n] at h7
    refine r_aldn iX7_net_12 rfl ?_
    refine r_getr iX7_net_13 flX7_12 rfl rfl ?_
    refine r_ldn iX7_net_16 rfl ?_
    refine call_V1v iX7_net_17 clX7_65 myX3_clear rfl rfl rfl rfl (sX3_clear _ _) ?_
    refine r_aldn iX7_net_20 rfl ?_
    refine r_getr iX7_net_21 flX7_22 rfl rfl ?_
    refine call_V0v iX7_net_24 clX7_69 myX4_clear rfl rfl rfl rfl (sX4_clear _) ?_
    refine r_aldn iX7_net_27 rfl ?_
    refine r_getr iX7_net_28 flX7_32 rfl rfl ?_
    refine call_V0v iX7_net_31 clX7_71 myX6_forget rfl rfl rfl rfl (sX6_forget _) ?_
    refine r_ldn iX7_net_34 rfl ?_
    refine r_iret iX7_net_35 rfl ?_
    refine ⟨by rw [if_pos (by omega)], ?_⟩
    rw [if_pos (by omega)]
    try simp only [mset_s, mset_n, mset_mset, fset_s, ne_eq, Nat.reduceEqDiff, not_false_eq_true]
  · rw [ite10] at h7
    refine r_con iX7_net_10 ?_
    refine r_iret iX7_net_11 rfl ?_
    exact ⟨by rw [if_neg (by omega)], by rw [if_neg (by omega)]⟩
theorem sX7_room (d : Nat) (r v : Int) (hrr : -2147483648 ≤ r ∧ r ≤ 2147483647) (hvr : -2147483648 ≤ v ∧ v ≤ 2147483647) (hN : NB M) : Ex LyC g (d + 2) mX7_room [vr 0, vi r, vi v] M (PI (if (0 ≤ r ∧ r < M 1 1) ∧ 0 ≤ v ∧ v ≤ 100 then M 4 r else -1) (if (0 ≤ r ∧ r < M 1 1) ∧ 0 ≤ v ∧ v ≤ 100 then mset M 4 (fset (M 4) r v) else M)) := by
  refine Ex.in [some (vr 0), some (vi r), some (vi v), none] (by decide +kernel) rfl (Nat.le_of_ble_eq_true rfl) ?_ rfl
  obtain ⟨hp0, hr, hl, hR, hL⟩ := id hN
  refine r_aldn iX7_room_0 rfl ?_
  refine r_getr iX7_room_1 flX7_12 rfl rfl ?_
  refine r_ldn iX7_room_4 rfl ?_
  refine call_V1i iX7_room_5 clX7_86 myX3_hasRoad rfl rfl rfl rfl (sX3_hasRoad _ _ (by omega) hN) ?_
  refine r_ifeq iX7_room_8 (by split <;> omega) (fun h8 => ?_) (fun h8 => ?_)
  · rw [ite10] at h8
    refine r_con iX7_room_21 ?_
    refine r_iret iX7_room_22 rfl ?_
    exact ⟨by rw [if_neg (by omega)], by rw [if_neg (by omega)]⟩
  · rw [ne_eq, ite10n] at h8
    refine r_ldn iX7_room_11 rfl ?_
    refine r_con iX7_room_12 ?_
    refine r_bip iX7_room_13 (by decide) ?_
    refine call_S3i iX7_room_15 clX7_61 myX7_isWithin rfl (sX7_isWithin _ _ _ _ (by omega)) ?_
    refine r_ifne iX7_room_18 (by split <;> omega) (fun h18 => ?_) (fun h18 => ?_)
    · rw [ne_eq, ite10n] at h18
      refine r_aldn iX7_room_23 rfl ?_
      refine r_getr iX7_room_24 flX7_12 rfl rfl ?_
      refine r_getr iX7_room_27 flX7_90 rfl rfl ?_
      refine r_ldn iX7_room_30 rfl ?_
      refine r_ial iX7_room_31 rfl (by omega) ?_
      refine r_stn iX7_room_32 (by decide) rfl ?_
      refine r_aldn iX7_room_33 rfl ?_
      refine r_getr iX7_room_34 flX7_12 rfl rfl ?_
      refine r_getr iX7_room_37 flX7_90 rfl rfl ?_
      refine r_ldn iX7_room_40 rfl ?_
      refine r_ldn iX7_room_41 rfl ?_
      refine r_ias iX7_room_42 rfl (by omega) ?_
      refine r_ldn iX7_room_43 rfl ?_
      refine r_iret iX7_room_44 rfl ?_
      refine ⟨by rw [if_pos (by omega)], ?_⟩
      rw [if_pos (by omega)]
      try simp only [mset_s, mset_n, mset_mset, fset_s, ne_eq, Nat.reduceEqDiff, not_false_eq_true]
    · rw [ite10] at h18
      refine r_con iX7_room_21 ?_
      refine r_iret iX7_room_22 rfl ?_
      exact ⟨by rw [if_neg (by omega)], by rw [if_neg (by omega)]⟩
theorem sX7_measure (d : Nat) (r v : Int) (hrr : -2147483648 ≤ r ∧ r ≤ 2147483647) (hvr : -2147483648 ≤ v ∧ v ≤ 2147483647) (hN : NB M) : Ex LyC g (d + 2) mX7_measure [vr 0, vi r, vi v] M (PI (if (0 ≤ r ∧ r < M 1 1) ∧ 0 ≤ v ∧ v ≤ 20 then M 6 r else -1) (if (0 ≤ r ∧ r < M 1 1) ∧ 0 ≤ v ∧ v ≤ 20 then mset M 6 (fset (M 6) r v) else M)) := by
  refine Ex.in [some (vr 0), some (vi r), some (vi v), none] (by decide +kernel) rfl (Nat.le_of_ble_eq_true rfl) ?_ rfl
  obtain ⟨hp0, hr, hl, hR, hL⟩ := id hN
  refine r_aldn iX7_measure_0 rfl ?_
  refine r_getr iX7_measure_1 flX7_12 rfl rfl ?_
  refine r_ldn iX7_measure_4 rfl ?_
  refine call_V1i iX7_measure_5 clX7_86 myX3_hasRoad rfl rfl rfl rfl (sX3_hasRoad _ _ (by omega) hN) ?_
  refine r_ifeq iX7_measure_8 (by split <;> omega) (fun h8 => ?_) (fun h8 => ?_)
  · rw [ite10] at h8
    refine r_con iX7_measure_21 ?_
    refine r_iret iX7_measure_22 rfl ?_
    exact ⟨by rw [if_neg (by omega)], by rw [if_neg (by omega)]⟩
  · rw [ne_eq, ite10n] at h8
    refine r_ldn iX7_measure_11 rfl ?_
    refine r_con iX7_measure_12 ?_
    refine r_bip iX7_measure_13 (by decide) ?_
    refine call_S3i iX7_measure_15 clX7_61 myX7_isWithin rfl (sX7_isWithin _ _ _ _ (by omega)) ?_
    refine r_ifne iX7_measure_18 (by split <;> omega) (fun h18 => ?_) (fun h18 => ?_)
    · rw [ne_eq, ite10n] at h18
      refine r_aldn iX7_measure_23 rfl ?_
      refine r_getr iX7_measure_24 flX7_12 rfl rfl ?_
      refine r_getr iX7_measure_27 flX7_115 rfl rfl ?_
      refine r_ldn iX7_measure_30 rfl ?_
      refine r_ial iX7_measure_31 rfl (by omega) ?_
      refine r_stn iX7_measure_32 (by decide) rfl ?_
      refine r_aldn iX7_measure_33 rfl ?_
      refine r_getr iX7_measure_34 flX7_12 rfl rfl ?_
      refine r_getr iX7_measure_37 flX7_115 rfl rfl ?_
      refine r_ldn iX7_measure_40 rfl ?_
      refine r_ldn iX7_measure_41 rfl ?_
      refine r_ias iX7_measure_42 rfl (by omega) ?_
      refine r_ldn iX7_measure_43 rfl ?_
      refine r_iret iX7_measure_44 rfl ?_
      refine ⟨by rw [if_pos (by omega)], ?_⟩
      rw [if_pos (by omega)]
      try simp only [mset_s, mset_n, mset_mset, fset_s, ne_eq, Nat.reduceEqDiff, not_false_eq_true]
    · rw [ite10] at h18
      refine r_con iX7_measure_21 ?_
      refine r_iret iX7_measure_22 rfl ?_
      exact ⟨by rw [if_neg (by omega)], by rw [if_neg (by omega)]⟩
theorem sX7_resize (d : Nat) (r v : Int) (hrr : -2147483648 ≤ r ∧ r ≤ 2147483647) (hvr : -2147483648 ≤ v ∧ v ≤ 2147483647) (hN : NB M) : Ex LyC g (d + 2) mX7_resize [vr 0, vi r, vi v] M (PI (if (0 ≤ r ∧ r < M 1 2) ∧ 1 ≤ v ∧ v ≤ 100 then M 10 r else -1) (if (0 ≤ r ∧ r < M 1 2) ∧ 1 ≤ v ∧ v ≤ 100 then mset M 10 (fset (M 10) r v) else M)) := by
  refine Ex.in [some (vr 0), some (vi r), some (vi v), none] (by decide +kernel) rfl (Nat.le_of_ble_eq_true rfl) ?_ rfl
  obtain ⟨hp0, hr, hl, hR, hL⟩ := id hN
  refine r_aldn iX7_resize_0 rfl ?_
  refine r_getr iX7_resize_1 flX7_12 rfl rfl ?_
  refine r_ldn iX7_resize_4 rfl ?_
  refine call_V1i iX7_resize_5 clX7_124 myX3_hasLoad rfl rfl rfl rfl (sX3_hasLoad _ _ (by omega) hN) ?_
  refine r_ifeq iX7_resize_8 (by split <;> omega) (fun h8 => ?_) (fun h8 => ?_)
  · rw [ite10] at h8
    refine r_con iX7_resize_21 ?_
    refine r_iret iX7_resize_22 rfl ?_
    exact ⟨by rw [if_neg (by omega)], by rw [if_neg (by omega)]⟩
  · rw [ne_eq, ite10n] at h8
    refine r_ldn iX7_resize_11 rfl ?_
    refine r_con iX7_resize_12 ?_
    refine r_bip iX7_resize_13 (by decide) ?_
    refine call_S3i iX7_resize_15 clX7_61 myX7_isWithin rfl (sX7_isWithin _ _ _ _ (by omega)) ?_
    refine r_ifne iX7_resize_18 (by split <;> omega) (fun h18 => ?_) (fun h18 => ?_)
    · rw [ne_eq, ite10n] at h18
      refine r_aldn iX7_resize_23 rfl ?_
      refine r_getr iX7_resize_24 flX7_12 rfl rfl ?_
      refine r_getr iX7_resize_27 flX7_127 rfl rfl ?_
      refine r_ldn iX7_resize_30 rfl ?_
      refine r_ial iX7_resize_31 rfl (by omega) ?_
      refine r_stn iX7_resize_32 (by decide) rfl ?_
      refine r_aldn iX7_resize_33 rfl ?_
      refine r_getr iX7_resize_34 flX7_12 rfl rfl ?_
      refine r_getr iX7_resize_37 flX7_127 rfl rfl ?_
      refine r_ldn iX7_resize_40 rfl ?_
      refine r_ldn iX7_resize_41 rfl ?_
      refine r_ias iX7_resize_42 rfl (by omega) ?_
      refine r_ldn iX7_resize_43 rfl ?_
      refine r_iret iX7_resize_44 rfl ?_
      refine ⟨by rw [if_pos (by omega)], ?_⟩
      rw [if_pos (by omega)]
      try simp only [mset_s, mset_n, mset_mset, fset_s, ne_eq, Nat.reduceEqDiff, not_false_eq_true]
    · rw [ite10] at h18
      refine r_con iX7_resize_21 ?_
      refine r_iret iX7_resize_22 rfl ?_
      exact ⟨by rw [if_neg (by omega)], by rw [if_neg (by omega)]⟩
theorem sX7_is (d : Nat) (l w : Int) (hlr : -2147483648 ≤ l ∧ l ≤ 2147483647) (hwr : -2147483648 ≤ w ∧ w ≤ 2147483647) (hN : NB M) : Ex LyC g (d + 2) mX7_is [vr 0, vi l, vi w] M (PI (if (0 ≤ l ∧ l < M 1 2) ∧ 0 ≤ w ∧ w ≤ 2 then (if M 7 l < w then 0 else 1) else -1) M) := by
  refine Ex.in [some (vr 0), some (vi l), some (vi w)] (by decide +kernel) rfl (Nat.le_of_ble_eq_true rfl) ?_ rfl
  obtain ⟨hp0, hr, hl, hR, hL⟩ := id hN
  refine r_aldn iX7_is_0 rfl ?_
  refine r_getr iX7_is_1 flX7_12 rfl rfl ?_
  refine r_ldn iX7_is_4 rfl ?_
  refine call_V1i iX7_is_5 clX7_124 myX3_hasLoad rfl rfl rfl rfl (sX3_hasLoad _ _ (by omega) hN) ?_
  refine r_ifeq iX7_is_8 (by split <;> omega) (fun h8 => ?_) (fun h8 => ?_)
  · rw [ite10] at h8
    refine r_con iX7_is_20 ?_
    refine r_iret iX7_is_21 rfl ?_
    exact ⟨by rw [if_neg (by omega)], rfl⟩
  · rw [ne_eq, ite10n] at h8
    refine r_ldn iX7_is_11 rfl ?_
    refine r_con iX7_is_12 ?_
    refine r_con iX7_is_13 ?_
    refine call_S3i iX7_is_14 clX7_61 myX7_isWithin rfl (sX7_isWithin _ _ _ _ (by omega)) ?_
    refine r_ifne iX7_is_17 (by split <;> omega) (fun h17 => ?_) (fun h17 => ?_)
    · rw [ne_eq, ite10n] at h17
      have hll := hL l h8.1 h8.2
      refine r_aldn iX7_is_22 rfl ?_
      refine r_getr iX7_is_23 flX7_12 rfl rfl ?_
      refine r_getr iX7_is_26 flX7_130 rfl rfl ?_
      refine r_ldn iX7_is_29 rfl ?_
      refine r_ial iX7_is_30 rfl (by omega) ?_
      refine r_ldn iX7_is_31 rfl ?_
      refine r_clt iX7_is_32 (by omega) (fun h32 => ?_) (fun h32 => ?_)
      · refine r_con iX7_is_39 ?_
        refine r_iret iX7_is_40 rfl ?_
        exact ⟨by rw [if_pos (by omega), if_pos h32], rfl⟩
      · refine r_con iX7_is_35 ?_
        refine r_goto iX7_is_36 ?_
        refine r_iret iX7_is_40 rfl ?_
        exact ⟨by rw [if_pos (by omega), if_neg (by omega)], rfl⟩
    · rw [ite10] at h17
      refine r_con iX7_is_20 ?_
      refine r_iret iX7_is_21 rfl ?_
      exact ⟨by rw [if_neg (by omega)], rfl⟩
theorem sX7_wall (d : Nat) (c : Int) (hcr : -2147483648 ≤ c ∧ c ≤ 2147483647) (hN : NB M) : Ex LyC g (d + 2) mX7_wall [vr 0, vi c] M (PI (if 0 < c ∧ c < 2 ^ (M 1 0).toNat - 1 then wallF (M 1) (M 2) (M 3) (M 4) c else -1) M) := by
  refine Ex.in [some (vr 0), some (vi c)] (by decide +kernel) rfl (Nat.le_of_ble_eq_true rfl) ?_ rfl
  obtain ⟨hp0, hr, hl, hR, hL⟩ := id hN
  have hpw := pw_le hp0.1 hp0.2
  refine r_aldn iX7_wall_0 rfl ?_
  refine r_getr iX7_wall_1 flX7_12 rfl rfl ?_
  refine r_ldn iX7_wall_4 rfl ?_
  refine call_S2i iX7_wall_5 clX7_241 myX1_isCut rfl (sX1_isCut _ _ (by omega) hN) ?_
  refine r_ifeq iX7_wall_8 (by split <;> omega) (fun h8 => ?_) (fun h8 => ?_)
  · rw [ite10] at h8
    refine r_con iX7_wall_22 ?_
    refine r_iret iX7_wall_23 rfl ?_
    exact ⟨by rw [if_neg h8], rfl⟩
  · rw [ne_eq, ite10n] at h8
    refine r_aldn iX7_wall_11 rfl ?_
    refine r_getr iX7_wall_12 flX7_12 rfl rfl ?_
    refine r_ldn iX7_wall_15 rfl ?_
    refine call_S2i iX7_wall_16 clX7_158 myX1_wallOf rfl (sX1_wallF _ _ (by omega) hN) ?_
    refine r_goto iX7_wall_19 ?_
    refine r_iret iX7_wall_23 rfl ?_
    exact ⟨by rw [if_pos h8], rfl⟩
theorem sX7_call (d : Nat) (c : Int) (hcr : -2147483648 ≤ c ∧ c ≤ 2147483647) (hN : NB M) : Ex LyC g (d + 2) mX7_call [vr 0, vi c] M (PI (if 0 < c ∧ c < 2 ^ (M 1 0).toNat - 1 then callF (M 1) (M 8) (M 9) (M 10) c else -1) M) := by
  refine Ex.in [some (vr 0), some (vi c)] (by decide +kernel) rfl (Nat.le_of_ble_eq_true rfl) ?_ rfl
  obtain ⟨hp0, hr, hl, hR, hL⟩ := id hN
  have hpw := pw_le hp0.1 hp0.2
  refine r_aldn iX7_call_0 rfl ?_
  refine r_getr iX7_call_1 flX7_12 rfl rfl ?_
  refine r_ldn iX7_call_4 rfl ?_
  refine call_S2i iX7_call_5 clX7_241 myX1_isCut rfl (sX1_isCut _ _ (by omega) hN) ?_
  refine r_ifeq iX7_call_8 (by split <;> omega) (fun h8 => ?_) (fun h8 => ?_)
  · rw [ite10] at h8
    refine r_con iX7_call_22 ?_
    refine r_iret iX7_call_23 rfl ?_
    exact ⟨by rw [if_neg h8], rfl⟩
  · rw [ne_eq, ite10n] at h8
    refine r_aldn iX7_call_11 rfl ?_
    refine r_getr iX7_call_12 flX7_12 rfl rfl ?_
    refine r_ldn iX7_call_15 rfl ?_
    refine call_S2i iX7_call_16 clX7_245 myX1_callOf rfl (sX1_callF _ _ (by omega) hN) ?_
    refine r_goto iX7_call_19 ?_
    refine r_iret iX7_call_23 rfl ?_
    exact ⟨by rw [if_pos h8], rfl⟩
theorem sX7_bars (d : Nat) (hb : 0 ≤ (mx (excF (M 1) (M 2) (M 3) (M 4) (M 8) (M 9) (M 10)) ((2 ^ (M 1 0 - 1).toNat - 1 : Int).toNat)).1 ∧ (mx (excF (M 1) (M 2) (M 3) (M 4) (M 8) (M 9) (M 10)) ((2 ^ (M 1 0 - 1).toNat - 1 : Int).toNat)).1 ≤ 2147483647) (hN : NB M) : Ex LyC g (d + 4) mX7_bars [vr 0] M (PI (if (mx (excF (M 1) (M 2) (M 3) (M 4) (M 8) (M 9) (M 10)) ((2 ^ (M 1 0 - 1).toNat - 1 : Int).toNat)).1 = 0 then 0 else (excF (M 1) (M 2) (M 3) (M 4) (M 8) (M 9) (M 10)) (mx (excF (M 1) (M 2) (M 3) (M 4) (M 8) (M 9) (M 10)) ((2 ^ (M 1 0 - 1).toNat - 1 : Int).toNat)).1) M) := by
  refine Ex.in [some (vr 0), none] (by decide +kernel) rfl (Nat.le_of_ble_eq_true rfl) ?_ rfl
  refine r_aldn iX7_bars_0 rfl ?_
  refine r_getr iX7_bars_1 flX7_12 rfl rfl ?_
  refine call_S1i iX7_bars_4 clX7_248 myX1_worst rfl (sX1_worst _ hN) ?_
  refine r_stn iX7_bars_7 (by decide) rfl ?_
  refine r_ldn iX7_bars_8 rfl ?_
  refine r_ifne iX7_bars_9 (by omega) (fun h9 => ?_) (fun h9 => ?_)
  · refine r_aldn iX7_bars_16 rfl ?_
    refine r_getr iX7_bars_17 flX7_12 rfl rfl ?_
    refine r_ldn iX7_bars_20 rfl ?_
    refine call_S2i iX7_bars_21 clX7_252 myX1_excess rfl (sX1_excess _ _ hb hN) ?_
    refine r_iret iX7_bars_24 rfl ?_
    exact ⟨by rw [if_neg h9], rfl⟩
  · refine r_con iX7_bars_12 ?_
    refine r_goto iX7_bars_13 ?_
    refine r_iret iX7_bars_24 rfl ?_
    exact ⟨by rw [if_pos h9], rfl⟩
theorem sX7_barring (d : Nat) (hb : 0 ≤ (mx (excF (M 1) (M 2) (M 3) (M 4) (M 8) (M 9) (M 10)) ((2 ^ (M 1 0 - 1).toNat - 1 : Int).toNat)).1 ∧ (mx (excF (M 1) (M 2) (M 3) (M 4) (M 8) (M 9) (M 10)) ((2 ^ (M 1 0 - 1).toNat - 1 : Int).toNat)).1 ≤ 2147483647) (hN : NB M) : Ex LyC g (d + 4) mX7_barring [vr 0] M (PI (if (mx (excF (M 1) (M 2) (M 3) (M 4) (M 8) (M 9) (M 10)) ((2 ^ (M 1 0 - 1).toNat - 1 : Int).toNat)).1 = 0 then -4 else (mx (excF (M 1) (M 2) (M 3) (M 4) (M 8) (M 9) (M 10)) ((2 ^ (M 1 0 - 1).toNat - 1 : Int).toNat)).1) M) := by
  refine Ex.in [some (vr 0), none] (by decide +kernel) rfl (Nat.le_of_ble_eq_true rfl) ?_ rfl
  refine r_aldn iX7_barring_0 rfl ?_
  refine r_getr iX7_barring_1 flX7_12 rfl rfl ?_
  refine call_S1i iX7_barring_4 clX7_248 myX1_worst rfl (sX1_worst _ hN) ?_
  refine r_stn iX7_barring_7 (by decide) rfl ?_
  refine r_ldn iX7_barring_8 rfl ?_
  refine r_ifne iX7_barring_9 (by omega) (fun h9 => ?_) (fun h9 => ?_)
  · refine r_ldn iX7_barring_17 rfl ?_
    refine r_iret iX7_barring_18 rfl ?_
    exact ⟨by rw [if_neg h9], rfl⟩
  · refine r_bip iX7_barring_12 (by decide) ?_
    refine r_goto iX7_barring_14 ?_
    refine r_iret iX7_barring_18 rfl ?_
    exact ⟨by rw [if_pos h9], rfl⟩
theorem sX7_meets (d : Nat) (l : Int) (hlr : -2147483648 ≤ l ∧ l ≤ 2147483647) (hN : NB M) : Ex LyC g (d + 3) mX7_meets [vr 0, vi l] M (PI (if 0 ≤ l ∧ l < M 1 2 then mt (wallF (M 1) (M 2) (M 3) (M 4)) (cutQ (M 8 l) (M 9 l)) (2 ^ (M 1 0).toNat - 2 : Int).toNat else -1) M) := by
  refine Ex.in [some (vr 0), some (vi l)] (by decide +kernel) rfl (Nat.le_of_ble_eq_true rfl) ?_ rfl
  refine r_aldn iX7_meets_0 rfl ?_
  refine r_getr iX7_meets_1 flX7_12 rfl rfl ?_
  refine r_ldn iX7_meets_4 rfl ?_
  refine call_V1i iX7_meets_5 clX7_124 myX3_hasLoad rfl rfl rfl rfl (sX3_hasLoad _ _ (by omega) hN) ?_
  refine r_ifeq iX7_meets_8 (by split <;> omega) (fun h8 => ?_) (fun h8 => ?_)
  · rw [ite10] at h8
    refine r_con iX7_meets_22 ?_
    refine r_iret iX7_meets_23 rfl ?_
    exact ⟨by rw [if_neg h8], rfl⟩
  · rw [ne_eq, ite10n] at h8
    refine r_aldn iX7_meets_11 rfl ?_
    refine r_getr iX7_meets_12 flX7_12 rfl rfl ?_
    refine r_ldn iX7_meets_15 rfl ?_
    refine call_S2i iX7_meets_16 clX7_152 myX1_meeting rfl (sX1_meeting _ _ h8 hN) ?_
    refine r_goto iX7_meets_19 ?_
    refine r_iret iX7_meets_23 rfl ?_
    exact ⟨by rw [if_pos h8], rfl⟩
theorem sX7_road_x (d : Nat) (p q rm pr : Int) (hpr : -2147483648 ≤ p ∧ p ≤ 2147483647) (hqr : -2147483648 ≤ q ∧ q ≤ 2147483647) (hrmr : -2147483648 ≤ rm ∧ rm ≤ 2147483647) (hprr : -2147483648 ≤ pr ∧ pr ≤ 2147483647) (hN : NB M) (h : ¬ ((p ≠ q ∧ (0 ≤ p ∧ p < M 1 0) ∧ 0 ≤ q ∧ q < M 1 0) ∧ (0 ≤ rm ∧ rm ≤ 100) ∧ (0 ≤ pr ∧ pr ≤ 50))) : Ex LyC g (d + 4) mX7_road [vr 0, vi p, vi q, vi rm, vi pr] M (PI (-1) M) := by
  refine Ex.in [some (vr 0), some (vi p), some (vi q), some (vi rm), some (vi pr)] (by decide +kernel) rfl (Nat.le_of_ble_eq_true rfl) ?_ rfl
  obtain ⟨hp0, hr, hl, hR, hL⟩ := id hN
  refine r_aldn iX7_road_0 rfl ?_
  refine r_getr iX7_road_1 flX7_12 rfl rfl ?_
  refine r_ldn iX7_road_4 rfl ?_
  refine r_ldn iX7_road_5 rfl ?_
  refine call_V2i iX7_road_6 clX7_74 myX3_hasUnlikePosts rfl rfl rfl rfl (sX3_hasUnlikePosts _ _ _ (by omega) (by omega) hN) ?_
  refine r_ifeq iX7_road_9 (by split <;> omega) (fun h9 => ?_) (fun h9 => ?_)
  · rw [ite10] at h9
    refine r_con iX7_road_33 ?_
    refine r_iret iX7_road_34 rfl ?_
    exact ⟨rfl, rfl⟩
  · rw [ne_eq, ite10n] at h9
    refine r_ldn iX7_road_12 rfl ?_
    refine r_con iX7_road_13 ?_
    refine r_bip iX7_road_14 (by decide) ?_
    refine call_S3i iX7_road_16 clX7_61 myX7_isWithin rfl (sX7_isWithin _ _ _ _ (by omega)) ?_
    refine r_ifeq iX7_road_19 (by split <;> omega) (fun h19 => ?_) (fun h19 => ?_)
    · rw [ite10] at h19
      refine r_con iX7_road_33 ?_
      refine r_iret iX7_road_34 rfl ?_
      exact ⟨rfl, rfl⟩
    · rw [ne_eq, ite10n] at h19
      refine r_ld iX7_road_22 rfl ?_
      refine r_con iX7_road_24 ?_
      refine r_bip iX7_road_25 (by decide) ?_
      refine call_S3i iX7_road_27 clX7_61 myX7_isWithin rfl (sX7_isWithin _ _ _ _ (by omega)) ?_
      refine r_ifne iX7_road_30 (by split <;> omega) (fun h30 => ?_) (fun h30 => ?_)
      · rw [ne_eq, ite10n] at h30
        exact absurd ⟨h9, h19, h30⟩ h
      · rw [ite10] at h30
        refine r_con iX7_road_33 ?_
        refine r_iret iX7_road_34 rfl ?_
        exact ⟨rfl, rfl⟩
theorem sX7_road_f (d : Nat) (p q rm pr : Int) (hpr : -2147483648 ≤ p ∧ p ≤ 2147483647) (hqr : -2147483648 ≤ q ∧ q ≤ 2147483647) (hrmr : -2147483648 ≤ rm ∧ rm ≤ 2147483647) (hprr : -2147483648 ≤ pr ∧ pr ≤ 2147483647) (hN : NB M) (h : (p ≠ q ∧ (0 ≤ p ∧ p < M 1 0) ∧ 0 ≤ q ∧ q < M 1 0) ∧ (0 ≤ rm ∧ rm ≤ 100) ∧ (0 ≤ pr ∧ pr ≤ 50)) (hf : M 1 1 = 20) : Ex LyC g (d + 4) mX7_road [vr 0, vi p, vi q, vi rm, vi pr] M (PI (-2) M) := by
  refine Ex.in [some (vr 0), some (vi p), some (vi q), some (vi rm), some (vi pr)] (by decide +kernel) rfl (Nat.le_of_ble_eq_true rfl) ?_ rfl
  obtain ⟨hp0, hr, hl, hR, hL⟩ := id hN
  refine r_aldn iX7_road_0 rfl ?_
  refine r_getr iX7_road_1 flX7_12 rfl rfl ?_
  refine r_ldn iX7_road_4 rfl ?_
  refine r_ldn iX7_road_5 rfl ?_
  refine call_V2i iX7_road_6 clX7_74 myX3_hasUnlikePosts rfl rfl rfl rfl (sX3_hasUnlikePosts _ _ _ (by omega) (by omega) hN) ?_
  refine r_ifeq iX7_road_9 (by split <;> omega) (fun h9 => ?_) (fun h9 => ?_)
  · rw [ite10] at h9
    exact absurd h.1 h9
  · rw [ne_eq, ite10n] at h9
    refine r_ldn iX7_road_12 rfl ?_
    refine r_con iX7_road_13 ?_
    refine r_bip iX7_road_14 (by decide) ?_
    refine call_S3i iX7_road_16 clX7_61 myX7_isWithin rfl (sX7_isWithin _ _ _ _ (by omega)) ?_
    refine r_ifeq iX7_road_19 (by split <;> omega) (fun h19 => ?_) (fun h19 => ?_)
    · rw [ite10] at h19
      exfalso; omega
    · rw [ne_eq, ite10n] at h19
      refine r_ld iX7_road_22 rfl ?_
      refine r_con iX7_road_24 ?_
      refine r_bip iX7_road_25 (by decide) ?_
      refine call_S3i iX7_road_27 clX7_61 myX7_isWithin rfl (sX7_isWithin _ _ _ _ (by omega)) ?_
      refine r_ifne iX7_road_30 (by split <;> omega) (fun h30 => ?_) (fun h30 => ?_)
      · rw [ne_eq, ite10n] at h30
        refine r_aldn iX7_road_35 rfl ?_
        refine r_getr iX7_road_36 flX7_12 rfl rfl ?_
        refine r_geti 1 iX7_road_39 flX7_78 rfl rfl rfl rfl ?_
        refine r_bip iX7_road_42 (by decide) ?_
        refine r_clt iX7_road_44 (by omega) (fun h44 => ?_) (fun h44 => ?_)
        · exfalso; omega
        · refine r_bip iX7_road_47 (by decide) ?_
          refine r_iret iX7_road_49 rfl ?_
          exact ⟨rfl, rfl⟩
      · rw [ite10] at h30
        exfalso; omega
theorem sX7_load_x (d : Nat) (k f t s : Int) (hkr : -2147483648 ≤ k ∧ k ≤ 2147483647) (hfr : -2147483648 ≤ f ∧ f ≤ 2147483647) (htr : -2147483648 ≤ t ∧ t ≤ 2147483647) (hsr : -2147483648 ≤ s ∧ s ≤ 2147483647) (hN : NB M) (h : ¬ ((f ≠ t ∧ (0 ≤ f ∧ f < M 1 0) ∧ 0 ≤ t ∧ t < M 1 0) ∧ (0 ≤ k ∧ k ≤ 2) ∧ (1 ≤ s ∧ s ≤ 100))) : Ex LyC g (d + 4) mX7_load [vr 0, vi k, vi f, vi t, vi s] M (PI (-1) M) := by
  refine Ex.in [some (vr 0), some (vi k), some (vi f), some (vi t), some (vi s)] (by decide +kernel) rfl (Nat.le_of_ble_eq_true rfl) ?_ rfl
  obtain ⟨hp0, hr, hl, hR, hL⟩ := id hN
  refine r_aldn iX7_load_0 rfl ?_
  refine r_getr iX7_load_1 flX7_12 rfl rfl ?_
  refine r_ldn iX7_load_4 rfl ?_
  refine r_ldn iX7_load_5 rfl ?_
  refine call_V2i iX7_load_6 clX7_74 myX3_hasUnlikePosts rfl rfl rfl rfl (sX3_hasUnlikePosts _ _ _ (by omega) (by omega) hN) ?_
  refine r_ifeq iX7_load_9 (by split <;> omega) (fun h9 => ?_) (fun h9 => ?_)
  · rw [ite10] at h9
    refine r_con iX7_load_32 ?_
    refine r_iret iX7_load_33 rfl ?_
    exact ⟨rfl, rfl⟩
  · rw [ne_eq, ite10n] at h9
    refine r_ldn iX7_load_12 rfl ?_
    refine r_con iX7_load_13 ?_
    refine r_con iX7_load_14 ?_
    refine call_S3i iX7_load_15 clX7_61 myX7_isWithin rfl (sX7_isWithin _ _ _ _ (by omega)) ?_
    refine r_ifeq iX7_load_18 (by split <;> omega) (fun h18 => ?_) (fun h18 => ?_)
    · rw [ite10] at h18
      refine r_con iX7_load_32 ?_
      refine r_iret iX7_load_33 rfl ?_
      exact ⟨rfl, rfl⟩
    · rw [ne_eq, ite10n] at h18
      refine r_ld iX7_load_21 rfl ?_
      refine r_con iX7_load_23 ?_
      refine r_bip iX7_load_24 (by decide) ?_
      refine call_S3i iX7_load_26 clX7_61 myX7_isWithin rfl (sX7_isWithin _ _ _ _ (by omega)) ?_
      refine r_ifne iX7_load_29 (by split <;> omega) (fun h29 => ?_) (fun h29 => ?_)
      · rw [ne_eq, ite10n] at h29
        exact absurd ⟨h9, h18, h29⟩ h
      · rw [ite10] at h29
        refine r_con iX7_load_32 ?_
        refine r_iret iX7_load_33 rfl ?_
        exact ⟨rfl, rfl⟩
theorem sX7_load_f (d : Nat) (k f t s : Int) (hkr : -2147483648 ≤ k ∧ k ≤ 2147483647) (hfr : -2147483648 ≤ f ∧ f ≤ 2147483647) (htr : -2147483648 ≤ t ∧ t ≤ 2147483647) (hsr : -2147483648 ≤ s ∧ s ≤ 2147483647) (hN : NB M) (h : (f ≠ t ∧ (0 ≤ f ∧ f < M 1 0) ∧ 0 ≤ t ∧ t < M 1 0) ∧ (0 ≤ k ∧ k ≤ 2) ∧ (1 ≤ s ∧ s ≤ 100)) (hf : M 1 2 = 5) : Ex LyC g (d + 4) mX7_load [vr 0, vi k, vi f, vi t, vi s] M (PI (-2) M) := by
  refine Ex.in [some (vr 0), some (vi k), some (vi f), some (vi t), some (vi s)] (by decide +kernel) rfl (Nat.le_of_ble_eq_true rfl) ?_ rfl
  obtain ⟨hp0, hr, hl, hR, hL⟩ := id hN
  refine r_aldn iX7_load_0 rfl ?_
  refine r_getr iX7_load_1 flX7_12 rfl rfl ?_
  refine r_ldn iX7_load_4 rfl ?_
  refine r_ldn iX7_load_5 rfl ?_
  refine call_V2i iX7_load_6 clX7_74 myX3_hasUnlikePosts rfl rfl rfl rfl (sX3_hasUnlikePosts _ _ _ (by omega) (by omega) hN) ?_
  refine r_ifeq iX7_load_9 (by split <;> omega) (fun h9 => ?_) (fun h9 => ?_)
  · rw [ite10] at h9
    exact absurd h.1 h9
  · rw [ne_eq, ite10n] at h9
    refine r_ldn iX7_load_12 rfl ?_
    refine r_con iX7_load_13 ?_
    refine r_con iX7_load_14 ?_
    refine call_S3i iX7_load_15 clX7_61 myX7_isWithin rfl (sX7_isWithin _ _ _ _ (by omega)) ?_
    refine r_ifeq iX7_load_18 (by split <;> omega) (fun h18 => ?_) (fun h18 => ?_)
    · rw [ite10] at h18
      exfalso; omega
    · rw [ne_eq, ite10n] at h18
      refine r_ld iX7_load_21 rfl ?_
      refine r_con iX7_load_23 ?_
      refine r_bip iX7_load_24 (by decide) ?_
      refine call_S3i iX7_load_26 clX7_61 myX7_isWithin rfl (sX7_isWithin _ _ _ _ (by omega)) ?_
      refine r_ifne iX7_load_29 (by split <;> omega) (fun h29 => ?_) (fun h29 => ?_)
      · rw [ne_eq, ite10n] at h29
        refine r_aldn iX7_load_34 rfl ?_
        refine r_getr iX7_load_35 flX7_12 rfl rfl ?_
        refine r_geti 2 iX7_load_38 flX7_118 rfl rfl rfl rfl ?_
        refine r_con iX7_load_41 ?_
        refine r_clt iX7_load_42 (by omega) (fun h42 => ?_) (fun h42 => ?_)
        · exfalso; omega
        · refine r_bip iX7_load_45 (by decide) ?_
          refine r_iret iX7_load_47 rfl ?_
          exact ⟨rfl, rfl⟩
      · rw [ite10] at h29
        exfalso; omega
theorem sX7_empty_a (d : Nat) : Ex LyC g (d + 3) mX7_empty [vr 0, vi (-1)] M (PI (sg (fun l => ttC (M 22) l) 5) (mset M 22 (fillN (M 22) 40 0))) := by
  refine Ex.in [some (vr 0), some (vi (-1)), none] (by decide +kernel) rfl (Nat.le_of_ble_eq_true rfl) ?_ rfl
  refine r_ldn iX7_empty_0 rfl ?_
  refine r_con iX7_empty_1 ?_
  refine r_cne iX7_empty_2 (by omega) (fun h2 => ?_) (fun h2 => ?_)
  · exact absurd rfl h2
  · refine r_aldn iX7_empty_5 rfl ?_
    refine r_getr iX7_empty_6 flX7_22 rfl rfl ?_
    refine call_V0i iX7_empty_9 clX7_198 myX4_totalOfAll rfl rfl rfl rfl (sX4_totalOfAll _) ?_
    refine r_stn iX7_empty_12 (by decide) rfl ?_
    refine r_aldn iX7_empty_13 rfl ?_
    refine r_getr iX7_empty_14 flX7_22 rfl rfl ?_
    refine call_V0v iX7_empty_17 clX7_202 myX4_clearAmounts rfl rfl rfl rfl (sX4_clearAmounts _) ?_
    refine r_ldn iX7_empty_20 rfl ?_
    refine r_iret iX7_empty_21 rfl ?_
    exact ⟨rfl, rfl⟩
theorem sX7_empty_o (d : Nat) (l : Int) (hlr : -2147483648 ≤ l ∧ l ≤ 2147483647) (hne : l ≠ -1) (hN : NB M) : Ex LyC g (d + 3) mX7_empty [vr 0, vi l] M (PI (if 0 ≤ l ∧ l < M 1 2 then ttC (M 22) l else -1) (if 0 ≤ l ∧ l < M 1 2 then mset M 22 (clr (M 22) (8 * l) 8) else M)) := by
  refine Ex.in [some (vr 0), some (vi l), none] (by decide +kernel) rfl (Nat.le_of_ble_eq_true rfl) ?_ rfl
  obtain ⟨hp0, hr, hl, hR, hL⟩ := id hN
  refine r_ldn iX7_empty_0 rfl ?_
  refine r_con iX7_empty_1 ?_
  refine r_cne iX7_empty_2 (by omega) (fun h2 => ?_) (fun h2 => ?_)
  · refine r_aldn iX7_empty_22 rfl ?_
    refine r_getr iX7_empty_23 flX7_12 rfl rfl ?_
    refine r_ldn iX7_empty_26 rfl ?_
    refine call_V1i iX7_empty_27 clX7_124 myX3_hasLoad rfl rfl rfl rfl (sX3_hasLoad _ _ (by omega) hN) ?_
    refine r_ifne iX7_empty_30 (by split <;> omega) (fun h30 => ?_) (fun h30 => ?_)
    · rw [ne_eq, ite10n] at h30
      refine r_aldn iX7_empty_35 rfl ?_
      refine r_getr iX7_empty_36 flX7_22 rfl rfl ?_
      refine r_ldn iX7_empty_39 rfl ?_
      refine call_V1i iX7_empty_40 clX7_148 myX4_total rfl rfl rfl rfl (sX4_total _ _ (by omega)) ?_
      refine r_stn iX7_empty_43 (by decide) rfl ?_
      refine r_aldn iX7_empty_44 rfl ?_
      refine r_getr iX7_empty_45 flX7_22 rfl rfl ?_
      refine r_ldn iX7_empty_48 rfl ?_
      refine call_V1v iX7_empty_49 clX7_205 myX4_clearAmountsOf rfl rfl rfl rfl (sX4_clearAmountsOf _ _ (by omega)) ?_
      refine r_ldn iX7_empty_52 rfl ?_
      refine r_iret iX7_empty_53 rfl ?_
      exact ⟨by rw [if_pos h30], by rw [if_pos h30]⟩
    · rw [ite10] at h30
      refine r_con iX7_empty_33 ?_
      refine r_iret iX7_empty_34 rfl ?_
      exact ⟨by rw [if_neg h30], by rw [if_neg h30]⟩
  · exact absurd h2 hne
theorem sX7_back_x (d : Nat) (h : M 0 8 = 0) : Ex LyC g (d + 2) mX7_back [vr 0] M (PI (-5) M) := by
  refine Ex.in [some (vr 0)] (by decide +kernel) rfl (Nat.le_of_ble_eq_true rfl) ?_ rfl
  refine r_aldn iX7_back_0 rfl ?_
  refine r_geti 8 iX7_back_1 flX7_57 rfl rfl rfl rfl ?_
  refine r_ifne iX7_back_4 (by omega) (fun h4 => ?_) (fun h4 => ?_)
  · exact absurd h h4
  · refine r_bip iX7_back_7 (by decide) ?_
    refine r_iret iX7_back_9 rfl ?_
    exact ⟨rfl, rfl⟩
end CB
