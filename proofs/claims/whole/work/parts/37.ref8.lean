/-! the reference: the public calls that change little -/
theorem aM_m {M : Mem} {k : Nat} {f : Int → Int} (h : ¬ 1 = k) : aM (mset M k f) = aM M := by
  funext r
  show mset M k f 1 (2 * r) = M 1 (2 * r)
  rw [mset_n h]
theorem bM_m {M : Mem} {k : Nat} {f : Int → Int} (h : ¬ 1 = k) : bM (mset M k f) = bM M := by
  funext r
  show mset M k f 1 (2 * r + 1) = M 1 (2 * r + 1)
  rw [mset_n h]
section RI
variable {g : Gt} {M : Mem}
theorem sX8_net (d : Nat) (n : Int) (hnr : -2147483648 ≤ n ∧ n ≤ 2147483647) : Ex LyM g (d + 1) mX8_net [vr 0, vi n] M (PI (if 1 ≤ n ∧ n ≤ 9 then n else -1) (if 1 ≤ n ∧ n ≤ 9 then mset M 0 (fset (fset (fset (M 0) 0 n) 1 0) 6 0) else M)) := by
  refine Ex.in [some (vr 0), some (vi n)] (by decide +kernel) rfl (Nat.le_of_ble_eq_true rfl) ?_ rfl
  refine r_ldn iX8_net_0 rfl ?_
  refine r_con iX8_net_1 ?_
  refine r_bip iX8_net_2 (by decide) ?_
  refine call_S3i iX8_net_4 clX8_122 myX8_in rfl (sX8_in _ _ _ _ (by omega)) ?_
  refine r_ifne iX8_net_7 (by split <;> omega) (fun h7 => ?_) (fun h7 => ?_)
  · rw [ne_eq, ite10n] at h7
    refine r_aldn iX8_net_12 rfl ?_
    refine r_ldn iX8_net_13 rfl ?_
    refine r_puti 0 iX8_net_14 fpX8_7 rfl rfl rfl ?_
    refine r_aldn iX8_net_17 rfl ?_
    refine r_con iX8_net_18 ?_
    refine r_puti 1 iX8_net_19 fpX8_97 rfl rfl rfl ?_
    refine r_aldn iX8_net_22 rfl ?_
    refine r_con iX8_net_23 ?_
    refine r_puti 6 iX8_net_24 fpX8_100 rfl rfl rfl ?_
    refine r_ldn iX8_net_27 rfl ?_
    refine r_iret iX8_net_28 rfl ?_
    refine ⟨by rw [if_pos (by omega)], ?_⟩
    rw [if_pos (by omega)]
    try simp only [mset_s, mset_n, mset_mset, fset_s, ne_eq, Nat.reduceEqDiff, not_false_eq_true]
  · rw [ite10] at h7
    refine r_con iX8_net_10 ?_
    refine r_iret iX8_net_11 rfl ?_
    exact ⟨by rw [if_neg (by omega)], by rw [if_neg (by omega)]⟩
theorem sX8_room (d : Nat) (r v : Int) (hrr : -2147483648 ≤ r ∧ r ≤ 2147483647) (hvr : -2147483648 ≤ v ∧ v ≤ 2147483647) (hN : NBm M) : Ex LyM g (d + 1) mX8_room [vr 0, vi r, vi v] M (PI (if (0 ≤ r ∧ r < M 0 1) ∧ 0 ≤ v ∧ v ≤ 100 then M 2 r else -1) (if (0 ≤ r ∧ r < M 0 1) ∧ 0 ≤ v ∧ v ≤ 100 then mset M 2 (fset (M 2) r v) else M)) := by
  refine Ex.in [some (vr 0), some (vi r), some (vi v), none] (by decide +kernel) rfl (Nat.le_of_ble_eq_true rfl) ?_ rfl
  obtain ⟨hp0, hr, hl, hR, hL⟩ := id hN
  refine r_aldn iX8_room_0 rfl ?_
  refine r_ldn iX8_room_1 rfl ?_
  refine call_V1i iX8_room_2 clX8_132 myX8_isRoad rfl rfl rfl rfl (sX8_isRoad _ _ (by omega) hN) ?_
  refine r_ifeq iX8_room_5 (by split <;> omega) (fun h5 => ?_) (fun h5 => ?_)
  · rw [ite10] at h5
    refine r_con iX8_room_18 ?_
    refine r_iret iX8_room_19 rfl ?_
    exact ⟨by rw [if_neg (by omega)], by rw [if_neg (by omega)]⟩
  · rw [ne_eq, ite10n] at h5
    refine r_ldn iX8_room_8 rfl ?_
    refine r_con iX8_room_9 ?_
    refine r_bip iX8_room_10 (by decide) ?_
    refine call_S3i iX8_room_12 clX8_122 myX8_in rfl (sX8_in _ _ _ _ (by omega)) ?_
    refine r_ifne iX8_room_15 (by split <;> omega) (fun h15 => ?_) (fun h15 => ?_)
    · rw [ne_eq, ite10n] at h15
      refine r_aldn iX8_room_20 rfl ?_
      refine r_getr iX8_room_21 flX8_17 rfl rfl ?_
      refine r_ldn iX8_room_24 rfl ?_
      refine r_ial iX8_room_25 rfl (by omega) ?_
      refine r_stn iX8_room_26 (by decide) rfl ?_
      refine r_aldn iX8_room_27 rfl ?_
      refine r_getr iX8_room_28 flX8_17 rfl rfl ?_
      refine r_ldn iX8_room_31 rfl ?_
      refine r_ldn iX8_room_32 rfl ?_
      refine r_ias iX8_room_33 rfl (by omega) ?_
      refine r_ldn iX8_room_34 rfl ?_
      refine r_iret iX8_room_35 rfl ?_
      refine ⟨by rw [if_pos (by omega)], ?_⟩
      rw [if_pos (by omega)]
      try simp only [mset_s, mset_n, mset_mset, fset_s, ne_eq, Nat.reduceEqDiff, not_false_eq_true]
    · rw [ite10] at h15
      refine r_con iX8_room_18 ?_
      refine r_iret iX8_room_19 rfl ?_
      exact ⟨by rw [if_neg (by omega)], by rw [if_neg (by omega)]⟩
theorem sX8_measure (d : Nat) (r v : Int) (hrr : -2147483648 ≤ r ∧ r ≤ 2147483647) (hvr : -2147483648 ≤ v ∧ v ≤ 2147483647) (hN : NBm M) : Ex LyM g (d + 1) mX8_measure [vr 0, vi r, vi v] M (PI (if (0 ≤ r ∧ r < M 0 1) ∧ 0 ≤ v ∧ v ≤ 20 then M 4 r else -1) (if (0 ≤ r ∧ r < M 0 1) ∧ 0 ≤ v ∧ v ≤ 20 then mset M 4 (fset (M 4) r v) else M)) := by
  refine Ex.in [some (vr 0), some (vi r), some (vi v), none] (by decide +kernel) rfl (Nat.le_of_ble_eq_true rfl) ?_ rfl
  obtain ⟨hp0, hr, hl, hR, hL⟩ := id hN
  refine r_aldn iX8_measure_0 rfl ?_
  refine r_ldn iX8_measure_1 rfl ?_
  refine call_V1i iX8_measure_2 clX8_132 myX8_isRoad rfl rfl rfl rfl (sX8_isRoad _ _ (by omega) hN) ?_
  refine r_ifeq iX8_measure_5 (by split <;> omega) (fun h5 => ?_) (fun h5 => ?_)
  · rw [ite10] at h5
    refine r_con iX8_measure_18 ?_
    refine r_iret iX8_measure_19 rfl ?_
    exact ⟨by rw [if_neg (by omega)], by rw [if_neg (by omega)]⟩
  · rw [ne_eq, ite10n] at h5
    refine r_ldn iX8_measure_8 rfl ?_
    refine r_con iX8_measure_9 ?_
    refine r_bip iX8_measure_10 (by decide) ?_
    refine call_S3i iX8_measure_12 clX8_122 myX8_in rfl (sX8_in _ _ _ _ (by omega)) ?_
    refine r_ifne iX8_measure_15 (by split <;> omega) (fun h15 => ?_) (fun h15 => ?_)
    · rw [ne_eq, ite10n] at h15
      refine r_aldn iX8_measure_20 rfl ?_
      refine r_getr iX8_measure_21 flX8_23 rfl rfl ?_
      refine r_ldn iX8_measure_24 rfl ?_
      refine r_ial iX8_measure_25 rfl (by omega) ?_
      refine r_stn iX8_measure_26 (by decide) rfl ?_
      refine r_aldn iX8_measure_27 rfl ?_
      refine r_getr iX8_measure_28 flX8_23 rfl rfl ?_
      refine r_ldn iX8_measure_31 rfl ?_
      refine r_ldn iX8_measure_32 rfl ?_
      refine r_ias iX8_measure_33 rfl (by omega) ?_
      refine r_ldn iX8_measure_34 rfl ?_
      refine r_iret iX8_measure_35 rfl ?_
      refine ⟨by rw [if_pos (by omega)], ?_⟩
      rw [if_pos (by omega)]
      try simp only [mset_s, mset_n, mset_mset, fset_s, ne_eq, Nat.reduceEqDiff, not_false_eq_true]
    · rw [ite10] at h15
      refine r_con iX8_measure_18 ?_
      refine r_iret iX8_measure_19 rfl ?_
      exact ⟨by rw [if_neg (by omega)], by rw [if_neg (by omega)]⟩
theorem sX8_resize (d : Nat) (r v : Int) (hrr : -2147483648 ≤ r ∧ r ≤ 2147483647) (hvr : -2147483648 ≤ v ∧ v ≤ 2147483647) (hN : NBm M) : Ex LyM g (d + 1) mX8_resize [vr 0, vi r, vi v] M (PI (if (0 ≤ r ∧ r < M 0 6) ∧ 1 ≤ v ∧ v ≤ 100 then M 8 r else -1) (if (0 ≤ r ∧ r < M 0 6) ∧ 1 ≤ v ∧ v ≤ 100 then mset M 8 (fset (M 8) r v) else M)) := by
  refine Ex.in [some (vr 0), some (vi r), some (vi v), none] (by decide +kernel) rfl (Nat.le_of_ble_eq_true rfl) ?_ rfl
  obtain ⟨hp0, hr, hl, hR, hL⟩ := id hN
  refine r_aldn iX8_resize_0 rfl ?_
  refine r_ldn iX8_resize_1 rfl ?_
  refine call_V1i iX8_resize_2 clX8_142 myX8_isLoad rfl rfl rfl rfl (sX8_isLoad _ _ (by omega) hN) ?_
  refine r_ifeq iX8_resize_5 (by split <;> omega) (fun h5 => ?_) (fun h5 => ?_)
  · rw [ite10] at h5
    refine r_con iX8_resize_18 ?_
    refine r_iret iX8_resize_19 rfl ?_
    exact ⟨by rw [if_neg (by omega)], by rw [if_neg (by omega)]⟩
  · rw [ne_eq, ite10n] at h5
    refine r_ldn iX8_resize_8 rfl ?_
    refine r_con iX8_resize_9 ?_
    refine r_bip iX8_resize_10 (by decide) ?_
    refine call_S3i iX8_resize_12 clX8_122 myX8_in rfl (sX8_in _ _ _ _ (by omega)) ?_
    refine r_ifne iX8_resize_15 (by split <;> omega) (fun h15 => ?_) (fun h15 => ?_)
    · rw [ne_eq, ite10n] at h15
      refine r_aldn iX8_resize_20 rfl ?_
      refine r_getr iX8_resize_21 flX8_35 rfl rfl ?_
      refine r_ldn iX8_resize_24 rfl ?_
      refine r_ial iX8_resize_25 rfl (by omega) ?_
      refine r_stn iX8_resize_26 (by decide) rfl ?_
      refine r_aldn iX8_resize_27 rfl ?_
      refine r_getr iX8_resize_28 flX8_35 rfl rfl ?_
      refine r_ldn iX8_resize_31 rfl ?_
      refine r_ldn iX8_resize_32 rfl ?_
      refine r_ias iX8_resize_33 rfl (by omega) ?_
      refine r_ldn iX8_resize_34 rfl ?_
      refine r_iret iX8_resize_35 rfl ?_
      refine ⟨by rw [if_pos (by omega)], ?_⟩
      rw [if_pos (by omega)]
      try simp only [mset_s, mset_n, mset_mset, fset_s, ne_eq, Nat.reduceEqDiff, not_false_eq_true]
    · rw [ite10] at h15
      refine r_con iX8_resize_18 ?_
      refine r_iret iX8_resize_19 rfl ?_
      exact ⟨by rw [if_neg (by omega)], by rw [if_neg (by omega)]⟩
theorem sX8_of (d : Nat) (r w : Int) (hrr : -2147483648 ≤ r ∧ r ≤ 2147483647) (hwr : -2147483648 ≤ w ∧ w ≤ 2147483647) (hW : WBm M) (hA : AVm M) (hN : NBm M) : Ex LyM g (d + 3) mX8_of [vr 0, vi r, vi w] M (PI (if 0 ≤ r ∧ r < M 0 1 then (if w = 0 then M 1 (2 * r) else if w = 1 then M 1 (2 * r + 1) else if w = 2 then M 2 r else if w = 3 then M 3 r else if w = 4 then usM (M 11) (M 12) (M 13) (M 10) (M 0 6) r else if w = 5 then ovM (M 11) (M 12) (M 13) (M 10) (M 2) (M 0 6) r else if w = 6 then M 4 r else -1) else -1) M) := by
  refine Ex.in [some (vr 0), some (vi r), some (vi w)] (by decide +kernel) rfl (Nat.le_of_ble_eq_true rfl) ?_ rfl
  obtain ⟨hp0, hr, hl, hR, hL⟩ := id hN
  refine r_aldn iX8_of_0 rfl ?_
  refine r_ldn iX8_of_1 rfl ?_
  refine call_V1i iX8_of_2 clX8_132 myX8_isRoad rfl rfl rfl rfl (sX8_isRoad _ _ (by omega) hN) ?_
  refine r_ifne iX8_of_5 (by split <;> omega) (fun h5 => ?_) (fun h5 => ?_)
  · rw [ne_eq, ite10n] at h5
    refine r_ldn iX8_of_10 rfl ?_
    by_cases hs0 : w = 0
    · refine r_tabIn (tgt := 52) (off := 41) iX8_of_11 (by omega) (by omega) (by omega) (by rw [hs0]; rfl) (by decide) ?_
      refine r_aldn iX8_of_52 rfl ?_
      refine r_getr iX8_of_53 flX8_13 rfl rfl ?_
      refine r_con iX8_of_56 ?_
      refine r_ldn iX8_of_57 rfl ?_
      refine r_mul iX8_of_58 ?_
      refine r_ial iX8_of_59 rfl (by omega) ?_
      refine r_iret iX8_of_60 rfl ?_
      exact ⟨by rw [if_pos h5, if_pos hs0], rfl⟩
    by_cases hs1 : w = 1
    · refine r_tabIn (tgt := 61) (off := 50) iX8_of_11 (by omega) (by omega) (by omega) (by rw [hs1]; rfl) (by decide) ?_
      refine r_aldn iX8_of_61 rfl ?_
      refine r_getr iX8_of_62 flX8_13 rfl rfl ?_
      refine r_con iX8_of_65 ?_
      refine r_ldn iX8_of_66 rfl ?_
      refine r_mul iX8_of_67 ?_
      refine r_con iX8_of_68 ?_
      refine r_add iX8_of_69 ?_
      refine r_ial iX8_of_70 rfl (by omega) ?_
      refine r_iret iX8_of_71 rfl ?_
      exact ⟨by rw [if_pos h5, if_neg hs0, if_pos hs1], rfl⟩
    by_cases hs2 : w = 2
    · refine r_tabIn (tgt := 72) (off := 61) iX8_of_11 (by omega) (by omega) (by omega) (by rw [hs2]; rfl) (by decide) ?_
      refine r_aldn iX8_of_72 rfl ?_
      refine r_getr iX8_of_73 flX8_17 rfl rfl ?_
      refine r_ldn iX8_of_76 rfl ?_
      refine r_ial iX8_of_77 rfl (by omega) ?_
      refine r_iret iX8_of_78 rfl ?_
      exact ⟨by rw [if_pos h5, if_neg hs0, if_neg hs1, if_pos hs2], rfl⟩
    by_cases hs3 : w = 3
    · refine r_tabIn (tgt := 79) (off := 68) iX8_of_11 (by omega) (by omega) (by omega) (by rw [hs3]; rfl) (by decide) ?_
      refine r_aldn iX8_of_79 rfl ?_
      refine r_getr iX8_of_80 flX8_20 rfl rfl ?_
      refine r_ldn iX8_of_83 rfl ?_
      refine r_ial iX8_of_84 rfl (by omega) ?_
      refine r_iret iX8_of_85 rfl ?_
      exact ⟨by rw [if_pos h5, if_neg hs0, if_neg hs1, if_neg hs2, if_pos hs3], rfl⟩
    by_cases hs4 : w = 4
    · refine r_tabIn (tgt := 86) (off := 75) iX8_of_11 (by omega) (by omega) (by omega) (by rw [hs4]; rfl) (by decide) ?_
      refine r_aldn iX8_of_86 rfl ?_
      refine r_ldn iX8_of_87 rfl ?_
      refine call_V1i iX8_of_88 clX8_135 myX8_used rfl rfl rfl rfl (sX8_used _ _ (by omega) hW hN) ?_
      refine r_iret iX8_of_91 rfl ?_
      exact ⟨by rw [if_pos h5, if_neg hs0, if_neg hs1, if_neg hs2, if_neg hs3, if_pos hs4], rfl⟩
    by_cases hs5 : w = 5
    · refine r_tabIn (tgt := 92) (off := 81) iX8_of_11 (by omega) (by omega) (by omega) (by rw [hs5]; rfl) (by decide) ?_
      refine r_aldn iX8_of_92 rfl ?_
      refine r_ldn iX8_of_93 rfl ?_
      refine call_V1i iX8_of_94 clX8_139 myX8_overOf rfl rfl rfl rfl (sX8_overOf _ _ (by omega) hW hA hN) ?_
      refine r_iret iX8_of_97 rfl ?_
      exact ⟨by rw [if_pos h5, if_neg hs0, if_neg hs1, if_neg hs2, if_neg hs3, if_neg hs4, if_pos hs5], rfl⟩
    by_cases hs6 : w = 6
    · refine r_tabIn (tgt := 98) (off := 87) iX8_of_11 (by omega) (by omega) (by omega) (by rw [hs6]; rfl) (by decide) ?_
      refine r_aldn iX8_of_98 rfl ?_
      refine r_getr iX8_of_99 flX8_23 rfl rfl ?_
      refine r_ldn iX8_of_102 rfl ?_
      refine r_ial iX8_of_103 rfl (by omega) ?_
      refine r_iret iX8_of_104 rfl ?_
      exact ⟨by rw [if_pos h5, if_neg hs0, if_neg hs1, if_neg hs2, if_neg hs3, if_neg hs4, if_neg hs5, if_pos hs6], rfl⟩
    refine r_tabOut (tgt := 105) iX8_of_11 (by omega) (by omega) (by decide) ?_
    refine r_con iX8_of_105 ?_
    refine r_iret iX8_of_106 rfl ?_
    exact ⟨by rw [if_pos h5, if_neg hs0, if_neg hs1, if_neg hs2, if_neg hs3, if_neg hs4, if_neg hs5, if_neg hs6], rfl⟩
  · rw [ite10] at h5
    refine r_con iX8_of_8 ?_
    refine r_iret iX8_of_9 rfl ?_
    exact ⟨by rw [if_neg h5], rfl⟩
theorem sX8_told (d : Nat) (l w : Int) (hlr : -2147483648 ≤ l ∧ l ≤ 2147483647) (hwr : -2147483648 ≤ w ∧ w ≤ 2147483647) (hw7 : w ≠ 7) (hmt : ∀ l, 0 ≤ l → l < M 0 6 → 0 ≤ mt (wallF (scM M) (aM M) (bM M) (M 2)) (cutQ (M 6 l) (M 7 l)) (2 ^ (M 0 0).toNat - 2 : Int).toNat ∧ mt (wallF (scM M) (aM M) (bM M) (M 2)) (cutQ (M 6 l) (M 7 l)) (2 ^ (M 0 0).toNat - 2 : Int).toNat ≤ 2147483647) (hH : ∀ l, 0 ≤ l → l < M 0 6 → 0 ≤ M 9 l ∧ M 9 l ≤ 7) (hW : WBm M) (hA : AVm M) (hN : NBm M) : Ex LyM g (d + 3) mX8_told [vr 0, vi l, vi w] M (PI (if 0 ≤ l ∧ l < M 0 6 then (if w = 0 then M 5 l else if w = 1 then M 6 l else if w = 2 then M 7 l else if w = 3 then M 8 l else if w = 4 then M 11 l else if w = 5 then seM (M 11) (M 10) l else if w = 6 then wallF (scM M) (aM M) (bM M) (M 2) (mt (wallF (scM M) (aM M) (bM M) (M 2)) (cutQ (M 6 l) (M 7 l)) (2 ^ (M 0 0).toNat - 2 : Int).toNat) else if w = 8 then (if M 5 l = 2 then M 9 l else -1) else if w = 9 then nzM (M 11) (M 10) l else -1) else -1) M) := by
  refine Ex.in [some (vr 0), some (vi l), some (vi w)] (by decide +kernel) rfl (Nat.le_of_ble_eq_true rfl) ?_ rfl
  obtain ⟨hp0, hr, hl, hR, hL⟩ := id hN
  refine r_aldn iX8_told_0 rfl ?_
  refine r_ldn iX8_told_1 rfl ?_
  refine call_V1i iX8_told_2 clX8_142 myX8_isLoad rfl rfl rfl rfl (sX8_isLoad _ _ (by omega) hN) ?_
  refine r_ifne iX8_told_5 (by split <;> omega) (fun h5 => ?_) (fun h5 => ?_)
  · rw [ne_eq, ite10n] at h5
    refine r_ldn iX8_told_10 rfl ?_
    by_cases hs0 : w = 0
    · refine r_tabIn (tgt := 64) (off := 53) iX8_told_11 (by omega) (by omega) (by omega) (by rw [hs0]; rfl) (by decide) ?_
      refine r_aldn iX8_told_64 rfl ?_
      refine r_getr iX8_told_65 flX8_26 rfl rfl ?_
      refine r_ldn iX8_told_68 rfl ?_
      refine r_ial iX8_told_69 rfl (by omega) ?_
      refine r_iret iX8_told_70 rfl ?_
      exact ⟨by rw [if_pos h5, if_pos hs0], rfl⟩
    by_cases hs1 : w = 1
    · refine r_tabIn (tgt := 71) (off := 60) iX8_told_11 (by omega) (by omega) (by omega) (by rw [hs1]; rfl) (by decide) ?_
      refine r_aldn iX8_told_71 rfl ?_
      refine r_getr iX8_told_72 flX8_29 rfl rfl ?_
      refine r_ldn iX8_told_75 rfl ?_
      refine r_ial iX8_told_76 rfl (by omega) ?_
      refine r_iret iX8_told_77 rfl ?_
      exact ⟨by rw [if_pos h5, if_neg hs0, if_pos hs1], rfl⟩
    by_cases hs2 : w = 2
    · refine r_tabIn (tgt := 78) (off := 67) iX8_told_11 (by omega) (by omega) (by omega) (by rw [hs2]; rfl) (by decide) ?_
      refine r_aldn iX8_told_78 rfl ?_
      refine r_getr iX8_told_79 flX8_32 rfl rfl ?_
      refine r_ldn iX8_told_82 rfl ?_
      refine r_ial iX8_told_83 rfl (by omega) ?_
      refine r_iret iX8_told_84 rfl ?_
      exact ⟨by rw [if_pos h5, if_neg hs0, if_neg hs1, if_pos hs2], rfl⟩
    by_cases hs3 : w = 3
    · refine r_tabIn (tgt := 85) (off := 74) iX8_told_11 (by omega) (by omega) (by omega) (by rw [hs3]; rfl) (by decide) ?_
      refine r_aldn iX8_told_85 rfl ?_
      refine r_getr iX8_told_86 flX8_35 rfl rfl ?_
      refine r_ldn iX8_told_89 rfl ?_
      refine r_ial iX8_told_90 rfl (by omega) ?_
      refine r_iret iX8_told_91 rfl ?_
      exact ⟨by rw [if_pos h5, if_neg hs0, if_neg hs1, if_neg hs2, if_pos hs3], rfl⟩
    by_cases hs4 : w = 4
    · refine r_tabIn (tgt := 92) (off := 81) iX8_told_11 (by omega) (by omega) (by omega) (by rw [hs4]; rfl) (by decide) ?_
      refine r_aldn iX8_told_92 rfl ?_
      refine r_getr iX8_told_93 flX8_44 rfl rfl ?_
      refine r_ldn iX8_told_96 rfl ?_
      refine r_ial iX8_told_97 rfl (by omega) ?_
      refine r_iret iX8_told_98 rfl ?_
      exact ⟨by rw [if_pos h5, if_neg hs0, if_neg hs1, if_neg hs2, if_neg hs3, if_pos hs4], rfl⟩
    by_cases hs5 : w = 5
    · refine r_tabIn (tgt := 99) (off := 88) iX8_told_11 (by omega) (by omega) (by omega) (by rw [hs5]; rfl) (by decide) ?_
      refine r_aldn iX8_told_99 rfl ?_
      refine r_ldn iX8_told_100 rfl ?_
      refine call_V1i iX8_told_101 clX8_148 myX8_sentOf rfl rfl rfl rfl (sX8_sentOf _ _ (by omega) hW hN) ?_
      refine r_iret iX8_told_104 rfl ?_
      exact ⟨by rw [if_pos h5, if_neg hs0, if_neg hs1, if_neg hs2, if_neg hs3, if_neg hs4, if_pos hs5], rfl⟩
    by_cases hs6 : w = 6
    · refine r_tabIn (tgt := 105) (off := 94) iX8_told_11 (by omega) (by omega) (by omega) (by rw [hs6]; rfl) (by decide) ?_
      refine r_aldn iX8_told_105 rfl ?_
      refine r_aldn iX8_told_106 rfl ?_
      refine r_ldn iX8_told_107 rfl ?_
      refine call_V1i iX8_told_108 clX8_151 myX8_mostAt rfl rfl rfl rfl (sX8_mostAt _ _ h5 hN) ?_
      refine call_V1i iX8_told_111 clX8_154 myX8_wallOf rfl rfl rfl rfl (sX8_wallOf _ _ (hmt l h5.1 h5.2) hN) ?_
      refine r_iret iX8_told_114 rfl ?_
      exact ⟨by rw [if_pos h5, if_neg hs0, if_neg hs1, if_neg hs2, if_neg hs3, if_neg hs4, if_neg hs5, if_pos hs6], rfl⟩
    by_cases hs7 : w = 7
    · refine r_tabIn (tgt := 115) (off := 104) iX8_told_11 (by omega) (by omega) (by omega) (by rw [hs7]; rfl) (by decide) ?_
      exact absurd hs7 hw7
    by_cases hs8 : w = 8
    · refine r_tabIn (tgt := 135) (off := 124) iX8_told_11 (by omega) (by omega) (by omega) (by rw [hs8]; rfl) (by decide) ?_
      have hll := hL l h5.1 h5.2
      refine r_aldn iX8_told_135 rfl ?_
      refine r_getr iX8_told_136 flX8_26 rfl rfl ?_
      refine r_ldn iX8_told_139 rfl ?_
      refine r_ial iX8_told_140 rfl (by omega) ?_
      refine r_con iX8_told_141 ?_
      refine r_cne iX8_told_142 (by omega) (fun h142 => ?_) (fun h142 => ?_)
      · refine r_con iX8_told_154 ?_
        refine r_iret iX8_told_155 rfl ?_
        exact ⟨by rw [if_pos h5, if_neg hs0, if_neg hs1, if_neg hs2, if_neg hs3, if_neg hs4, if_neg hs5, if_neg hs6, if_pos hs8, if_neg h142], rfl⟩
      · refine r_aldn iX8_told_145 rfl ?_
        refine r_getr iX8_told_146 flX8_38 rfl rfl ?_
        refine r_ldn iX8_told_149 rfl ?_
        refine r_ial iX8_told_150 rfl (by omega) ?_
        refine r_goto iX8_told_151 ?_
        refine r_iret iX8_told_155 rfl ?_
        exact ⟨by rw [if_pos h5, if_neg hs0, if_neg hs1, if_neg hs2, if_neg hs3, if_neg hs4, if_neg hs5, if_neg hs6, if_pos hs8, if_pos h142], rfl⟩
    by_cases hs9 : w = 9
    · refine r_tabIn (tgt := 156) (off := 145) iX8_told_11 (by omega) (by omega) (by omega) (by rw [hs9]; rfl) (by decide) ?_
      refine r_aldn iX8_told_156 rfl ?_
      refine r_ldn iX8_told_157 rfl ?_
      refine call_V1i iX8_told_158 clX8_161 myX8_amountMany rfl rfl rfl rfl (sX8_amountMany _ _ (by omega) hW hA hN) ?_
      refine r_iret iX8_told_161 rfl ?_
      exact ⟨by rw [if_pos h5, if_neg hs0, if_neg hs1, if_neg hs2, if_neg hs3, if_neg hs4, if_neg hs5, if_neg hs6, if_neg hs8, if_pos hs9], rfl⟩
    refine r_tabOut (tgt := 162) iX8_told_11 (by omega) (by omega) (by decide) ?_
    refine r_con iX8_told_162 ?_
    refine r_iret iX8_told_163 rfl ?_
    exact ⟨by rw [if_pos h5, if_neg hs0, if_neg hs1, if_neg hs2, if_neg hs3, if_neg hs4, if_neg hs5, if_neg hs6, if_neg hs8, if_neg hs9], rfl⟩
  · rw [ite10] at h5
    refine r_con iX8_told_8 ?_
    refine r_iret iX8_told_9 rfl ?_
    exact ⟨by rw [if_neg h5], rfl⟩
theorem sX8_told_7 (d : Nat) (l w D : Int) (hlr : -2147483648 ≤ l ∧ l ≤ 2147483647) (hw7 : w = 7) (hD : 0 ≤ l → l < M 0 6 → ∀ f, itG (aM M) (bM M) (M 4) (M 0 1) (ini f (dsG (M 6 l)) 9) (M 0 0).toNat (M 7 l) = D) (hDb : 0 ≤ D ∧ D ≤ 1000000) (hN : NBm M) : Ex LyM g (d + 3) mX8_told [vr 0, vi l, vi w] M (fun r M' => r = some (vi (if 0 ≤ l ∧ l < M 0 6 then (if D = 1000000 then -1 else D) else -1)) ∧ ∃ f, M' = mset M 23 f) := by
  refine Ex.in [some (vr 0), some (vi l), some (vi w)] (by decide +kernel) rfl (Nat.le_of_ble_eq_true rfl) ?_ rfl
  obtain ⟨hp0, hr, hl, hR, hL⟩ := id hN
  refine r_aldn iX8_told_0 rfl ?_
  refine r_ldn iX8_told_1 rfl ?_
  refine call_V1i iX8_told_2 clX8_142 myX8_isLoad rfl rfl rfl rfl (sX8_isLoad _ _ (by omega) hN) ?_
  refine r_ifne iX8_told_5 (by split <;> omega) (fun h5 => ?_) (fun h5 => ?_)
  · rw [ne_eq, ite10n] at h5
    refine r_ldn iX8_told_10 rfl ?_
    by_cases hs0 : w = 0
    · refine r_tabIn (tgt := 64) (off := 53) iX8_told_11 (by omega) (by omega) (by omega) (by rw [hs0]; rfl) (by decide) ?_
      exfalso; omega
    by_cases hs1 : w = 1
    · refine r_tabIn (tgt := 71) (off := 60) iX8_told_11 (by omega) (by omega) (by omega) (by rw [hs1]; rfl) (by decide) ?_
      exfalso; omega
    by_cases hs2 : w = 2
    · refine r_tabIn (tgt := 78) (off := 67) iX8_told_11 (by omega) (by omega) (by omega) (by rw [hs2]; rfl) (by decide) ?_
      exfalso; omega
    by_cases hs3 : w = 3
    · refine r_tabIn (tgt := 85) (off := 74) iX8_told_11 (by omega) (by omega) (by omega) (by rw [hs3]; rfl) (by decide) ?_
      exfalso; omega
    by_cases hs4 : w = 4
    · refine r_tabIn (tgt := 92) (off := 81) iX8_told_11 (by omega) (by omega) (by omega) (by rw [hs4]; rfl) (by decide) ?_
      exfalso; omega
    by_cases hs5 : w = 5
    · refine r_tabIn (tgt := 99) (off := 88) iX8_told_11 (by omega) (by omega) (by omega) (by rw [hs5]; rfl) (by decide) ?_
      exfalso; omega
    by_cases hs6 : w = 6
    · refine r_tabIn (tgt := 105) (off := 94) iX8_told_11 (by omega) (by omega) (by omega) (by rw [hs6]; rfl) (by decide) ?_
      exfalso; omega
    by_cases hs7 : w = 7
    · refine r_tabIn (tgt := 115) (off := 104) iX8_told_11 (by omega) (by omega) (by omega) (by rw [hs7]; rfl) (by decide) ?_
      refine r_aldn iX8_told_115 rfl ?_
      refine r_ldn iX8_told_116 rfl ?_
      refine call_V1i iX8_told_117 clX8_157 myX8_farOf rfl rfl rfl rfl (sX8_farOf _ _ h5 hN) ?_
      rw [hD h5.1 h5.2]
      refine r_ldc (n := 1000000) iX8_told_120 cnX8_160 (by decide) ?_
      refine r_cne iX8_told_122 (by omega) (fun h122 => ?_) (fun h122 => ?_)
      · refine r_aldn iX8_told_129 rfl ?_
        refine r_ldn iX8_told_130 rfl ?_
        refine call_V1i iX8_told_131 clX8_157 myX8_farOf rfl rfl rfl rfl (sX8_farOf (M := mset M 23 _) _ _ h5 hN) ?_
        simp only [mset_s, mset_n, mset_mset, ne_eq, Nat.reduceEqDiff, not_false_eq_true, aM_m, bM_m]
        rw [hD h5.1 h5.2]
        refine r_iret iX8_told_134 rfl ?_
        exact ⟨by rw [if_pos h5, if_neg h122], _, rfl⟩
      · refine r_con iX8_told_125 ?_
        refine r_goto iX8_told_126 ?_
        refine r_iret iX8_told_134 rfl ?_
        exact ⟨by rw [if_pos h5, if_pos h122], _, rfl⟩
    by_cases hs8 : w = 8
    · refine r_tabIn (tgt := 135) (off := 124) iX8_told_11 (by omega) (by omega) (by omega) (by rw [hs8]; rfl) (by decide) ?_
      exfalso; omega
    by_cases hs9 : w = 9
    · refine r_tabIn (tgt := 156) (off := 145) iX8_told_11 (by omega) (by omega) (by omega) (by rw [hs9]; rfl) (by decide) ?_
      exfalso; omega
    refine r_tabOut (tgt := 162) iX8_told_11 (by omega) (by omega) (by decide) ?_
    exfalso; omega
  · rw [ite10] at h5
    refine r_con iX8_told_8 ?_
    refine r_iret iX8_told_9 rfl ?_
    refine ⟨by rw [if_neg h5], M 23, by rw [mset_eq rfl]⟩
theorem sX8_hold (d : Nat) (l i : Int) (hlr : -2147483648 ≤ l ∧ l ≤ 2147483647) (hir : -2147483648 ≤ i ∧ i ≤ 2147483647) (hW : WBm M) (hN : NBm M) : Ex LyM g (d + 1) mX8_hold [vr 0, vi l, vi i] M (PI (if 0 ≤ l ∧ l < M 0 6 then (if M 5 l = 2 then (if 0 ≤ i ∧ i < M 11 l then M 9 l else -4) else -3) else -1) (if (0 ≤ l ∧ l < M 0 6) ∧ M 5 l = 2 ∧ 0 ≤ i ∧ i < M 11 l then mset M 9 (fset (M 9) l i) else M)) := by
  refine Ex.in [some (vr 0), some (vi l), some (vi i), none] (by decide +kernel) rfl (Nat.le_of_ble_eq_true rfl) ?_ rfl
  obtain ⟨hp0, hr, hl, hR, hL⟩ := id hN
  refine r_aldn iX8_hold_0 rfl ?_
  refine r_ldn iX8_hold_1 rfl ?_
  refine call_V1i iX8_hold_2 clX8_142 myX8_isLoad rfl rfl rfl rfl (sX8_isLoad _ _ (by omega) hN) ?_
  refine r_ifne iX8_hold_5 (by split <;> omega) (fun h5 => ?_) (fun h5 => ?_)
  · rw [ne_eq, ite10n] at h5
    have hll := hL l h5.1 h5.2
    have hwl := hW l h5.1 h5.2
    refine r_aldn iX8_hold_10 rfl ?_
    refine r_getr iX8_hold_11 flX8_26 rfl rfl ?_
    refine r_ldn iX8_hold_14 rfl ?_
    refine r_ial iX8_hold_15 rfl (by omega) ?_
    refine r_con iX8_hold_16 ?_
    refine r_ceq iX8_hold_17 (by omega) (fun h17 => ?_) (fun h17 => ?_)
    · refine r_aldn iX8_hold_23 rfl ?_
      refine r_ldn iX8_hold_24 rfl ?_
      refine r_ldn iX8_hold_25 rfl ?_
      refine call_V2i iX8_hold_26 clX8_145 myX8_isWay rfl rfl rfl rfl (sX8_isWay _ _ _ (by omega) (by omega) hwl.1) ?_
      refine r_ifne iX8_hold_29 (by split <;> omega) (fun h29 => ?_) (fun h29 => ?_)
      · rw [ne_eq, ite10n] at h29
        refine r_aldn iX8_hold_35 rfl ?_
        refine r_getr iX8_hold_36 flX8_38 rfl rfl ?_
        refine r_ldn iX8_hold_39 rfl ?_
        refine r_ial iX8_hold_40 rfl (by omega) ?_
        refine r_stn iX8_hold_41 (by decide) rfl ?_
        refine r_aldn iX8_hold_42 rfl ?_
        refine r_getr iX8_hold_43 flX8_38 rfl rfl ?_
        refine r_ldn iX8_hold_46 rfl ?_
        refine r_ldn iX8_hold_47 rfl ?_
        refine r_ias iX8_hold_48 rfl (by omega) ?_
        refine r_ldn iX8_hold_49 rfl ?_
        refine r_iret iX8_hold_50 rfl ?_
        refine ⟨by rw [if_pos h5, if_pos h17, if_pos h29], ?_⟩
        rw [if_pos ⟨h5, h17, h29⟩]
      · rw [ite10] at h29
        refine r_bip iX8_hold_32 (by decide) ?_
        refine r_iret iX8_hold_34 rfl ?_
        exact ⟨by rw [if_pos h5, if_pos h17, if_neg h29], by rw [if_neg (by omega)]⟩
    · refine r_bip iX8_hold_20 (by decide) ?_
      refine r_iret iX8_hold_22 rfl ?_
      exact ⟨by rw [if_pos h5, if_neg h17], by rw [if_neg (by omega)]⟩
  · rw [ite10] at h5
    refine r_con iX8_hold_8 ?_
    refine r_iret iX8_hold_9 rfl ?_
    exact ⟨by rw [if_neg h5], by rw [if_neg (by omega)]⟩
theorem sX8_is (d : Nat) (l w : Int) (hlr : -2147483648 ≤ l ∧ l ≤ 2147483647) (hwr : -2147483648 ≤ w ∧ w ≤ 2147483647) (hN : NBm M) : Ex LyM g (d + 1) mX8_is [vr 0, vi l, vi w] M (PI (if (0 ≤ l ∧ l < M 0 6) ∧ 0 ≤ w ∧ w ≤ 2 then (if M 5 l < w then 0 else 1) else -1) M) := by
  refine Ex.in [some (vr 0), some (vi l), some (vi w)] (by decide +kernel) rfl (Nat.le_of_ble_eq_true rfl) ?_ rfl
  obtain ⟨hp0, hr, hl, hR, hL⟩ := id hN
  refine r_aldn iX8_is_0 rfl ?_
  refine r_ldn iX8_is_1 rfl ?_
  refine call_V1i iX8_is_2 clX8_142 myX8_isLoad rfl rfl rfl rfl (sX8_isLoad _ _ (by omega) hN) ?_
  refine r_ifeq iX8_is_5 (by split <;> omega) (fun h5 => ?_) (fun h5 => ?_)
  · rw [ite10] at h5
    refine r_con iX8_is_17 ?_
    refine r_iret iX8_is_18 rfl ?_
    exact ⟨by rw [if_neg (by omega)], rfl⟩
  · rw [ne_eq, ite10n] at h5
    refine r_ldn iX8_is_8 rfl ?_
    refine r_con iX8_is_9 ?_
    refine r_con iX8_is_10 ?_
    refine call_S3i iX8_is_11 clX8_122 myX8_in rfl (sX8_in _ _ _ _ (by omega)) ?_
    refine r_ifne iX8_is_14 (by split <;> omega) (fun h14 => ?_) (fun h14 => ?_)
    · rw [ne_eq, ite10n] at h14
      have hll := hL l h5.1 h5.2
      refine r_aldn iX8_is_19 rfl ?_
      refine r_getr iX8_is_20 flX8_26 rfl rfl ?_
      refine r_ldn iX8_is_23 rfl ?_
      refine r_ial iX8_is_24 rfl (by omega) ?_
      refine r_ldn iX8_is_25 rfl ?_
      refine r_clt iX8_is_26 (by omega) (fun h26 => ?_) (fun h26 => ?_)
      · refine r_con iX8_is_33 ?_
        refine r_iret iX8_is_34 rfl ?_
        exact ⟨by rw [if_pos (by omega), if_pos h26], rfl⟩
      · refine r_con iX8_is_29 ?_
        refine r_goto iX8_is_30 ?_
        refine r_iret iX8_is_34 rfl ?_
        exact ⟨by rw [if_pos (by omega), if_neg (by omega)], rfl⟩
    · rw [ite10] at h14
      refine r_con iX8_is_17 ?_
      refine r_iret iX8_is_18 rfl ?_
      exact ⟨by rw [if_neg (by omega)], rfl⟩
theorem sX8_roads (d : Nat) (l i : Int) (hlr : -2147483648 ≤ l ∧ l ≤ 2147483647) (hir : -2147483648 ≤ i ∧ i ≤ 2147483647) (hW : WBm M) (hN : NBm M) : Ex LyM g (d + 2) mX8_roads [vr 0, vi l, vi i] M (PI (if 0 ≤ l ∧ l < M 0 6 then (if 0 ≤ i ∧ i < M 11 l then M 12 (8 * l + i) else -4) else -1) M) := by
  refine Ex.in [some (vr 0), some (vi l), some (vi i)] (by decide +kernel) rfl (Nat.le_of_ble_eq_true rfl) ?_ rfl
  obtain ⟨hp0, hr, hl, hR, hL⟩ := id hN
  refine r_aldn iX8_roads_0 rfl ?_
  refine r_ldn iX8_roads_1 rfl ?_
  refine call_V1i iX8_roads_2 clX8_142 myX8_isLoad rfl rfl rfl rfl (sX8_isLoad _ _ (by omega) hN) ?_
  refine r_ifne iX8_roads_5 (by split <;> omega) (fun h5 => ?_) (fun h5 => ?_)
  · rw [ne_eq, ite10n] at h5
    have hwl := hW l h5.1 h5.2
    refine r_aldn iX8_roads_10 rfl ?_
    refine r_ldn iX8_roads_11 rfl ?_
    refine r_ldn iX8_roads_12 rfl ?_
    refine call_V2i iX8_roads_13 clX8_145 myX8_isWay rfl rfl rfl rfl (sX8_isWay _ _ _ (by omega) (by omega) hwl.1) ?_
    refine r_ifeq iX8_roads_16 (by split <;> omega) (fun h16 => ?_) (fun h16 => ?_)
    · rw [ite10] at h16
      refine r_bip iX8_roads_33 (by decide) ?_
      refine r_iret iX8_roads_35 rfl ?_
      exact ⟨by rw [if_pos h5, if_neg h16], rfl⟩
    · rw [ne_eq, ite10n] at h16
      refine r_aldn iX8_roads_19 rfl ?_
      refine r_getr iX8_roads_20 flX8_47 rfl rfl ?_
      refine r_bip iX8_roads_23 (by decide) ?_
      refine r_ldn iX8_roads_25 rfl ?_
      refine r_mul iX8_roads_26 ?_
      refine r_ldn iX8_roads_27 rfl ?_
      refine r_add iX8_roads_28 ?_
      refine r_ial iX8_roads_29 rfl (by omega) ?_
      refine r_goto iX8_roads_30 ?_
      refine r_iret iX8_roads_35 rfl ?_
      exact ⟨by rw [if_pos h5, if_pos h16], rfl⟩
  · rw [ite10] at h5
    refine r_con iX8_roads_8 ?_
    refine r_iret iX8_roads_9 rfl ?_
    exact ⟨by rw [if_neg h5], rfl⟩
theorem sX8_price (d : Nat) (l i : Int) (hlr : -2147483648 ≤ l ∧ l ≤ 2147483647) (hir : -2147483648 ≤ i ∧ i ≤ 2147483647) (hW : WBm M) (hN : NBm M) : Ex LyM g (d + 2) mX8_price [vr 0, vi l, vi i] M (PI (if 0 ≤ l ∧ l < M 0 6 then (if 0 ≤ i ∧ i < M 11 l then prM (M 12) (M 13) (M 3) (M 0 1) (8 * l + i) else -4) else -1) M) := by
  refine Ex.in [some (vr 0), some (vi l), some (vi i)] (by decide +kernel) rfl (Nat.le_of_ble_eq_true rfl) ?_ rfl
  obtain ⟨hp0, hr, hl, hR, hL⟩ := id hN
  refine r_aldn iX8_price_0 rfl ?_
  refine r_ldn iX8_price_1 rfl ?_
  refine call_V1i iX8_price_2 clX8_142 myX8_isLoad rfl rfl rfl rfl (sX8_isLoad _ _ (by omega) hN) ?_
  refine r_ifne iX8_price_5 (by split <;> omega) (fun h5 => ?_) (fun h5 => ?_)
  · rw [ne_eq, ite10n] at h5
    have hwl := hW l h5.1 h5.2
    refine r_aldn iX8_price_10 rfl ?_
    refine r_ldn iX8_price_11 rfl ?_
    refine r_ldn iX8_price_12 rfl ?_
    refine call_V2i iX8_price_13 clX8_145 myX8_isWay rfl rfl rfl rfl (sX8_isWay _ _ _ (by omega) (by omega) hwl.1) ?_
    refine r_ifeq iX8_price_16 (by split <;> omega) (fun h16 => ?_) (fun h16 => ?_)
    · rw [ite10] at h16
      refine r_bip iX8_price_28 (by decide) ?_
      refine r_iret iX8_price_30 rfl ?_
      exact ⟨by rw [if_pos h5, if_neg h16], rfl⟩
    · rw [ne_eq, ite10n] at h16
      refine r_aldn iX8_price_19 rfl ?_
      refine r_ldn iX8_price_20 rfl ?_
      refine r_ldn iX8_price_21 rfl ?_
      refine call_V2i iX8_price_22 clX8_164 myX8_priceOf rfl rfl rfl rfl (sX8_priceOf _ _ _ (by omega) (hwl.2 i h16.1 h16.2) hN) ?_
      refine r_goto iX8_price_25 ?_
      refine r_iret iX8_price_30 rfl ?_
      exact ⟨by rw [if_pos h5, if_pos h16], rfl⟩
  · rw [ite10] at h5
    refine r_con iX8_price_8 ?_
    refine r_iret iX8_price_9 rfl ?_
    exact ⟨by rw [if_neg h5], rfl⟩
theorem sX8_sent (d : Nat) (l i : Int) (hlr : -2147483648 ≤ l ∧ l ≤ 2147483647) (hir : -2147483648 ≤ i ∧ i ≤ 2147483647) (hW : WBm M) (hN : NBm M) : Ex LyM g (d + 2) mX8_sent [vr 0, vi l, vi i] M (PI (if 0 ≤ l ∧ l < M 0 6 then (if 0 ≤ i ∧ i < M 11 l then M 10 (8 * l + i) else -4) else -1) M) := by
  refine Ex.in [some (vr 0), some (vi l), some (vi i)] (by decide +kernel) rfl (Nat.le_of_ble_eq_true rfl) ?_ rfl
  obtain ⟨hp0, hr, hl, hR, hL⟩ := id hN
  refine r_aldn iX8_sent_0 rfl ?_
  refine r_ldn iX8_sent_1 rfl ?_
  refine call_V1i iX8_sent_2 clX8_142 myX8_isLoad rfl rfl rfl rfl (sX8_isLoad _ _ (by omega) hN) ?_
  refine r_ifne iX8_sent_5 (by split <;> omega) (fun h5 => ?_) (fun h5 => ?_)
  · rw [ne_eq, ite10n] at h5
    have hwl := hW l h5.1 h5.2
    refine r_aldn iX8_sent_10 rfl ?_
    refine r_ldn iX8_sent_11 rfl ?_
    refine r_ldn iX8_sent_12 rfl ?_
    refine call_V2i iX8_sent_13 clX8_145 myX8_isWay rfl rfl rfl rfl (sX8_isWay _ _ _ (by omega) (by omega) hwl.1) ?_
    refine r_ifeq iX8_sent_16 (by split <;> omega) (fun h16 => ?_) (fun h16 => ?_)
    · rw [ite10] at h16
      refine r_bip iX8_sent_33 (by decide) ?_
      refine r_iret iX8_sent_35 rfl ?_
      exact ⟨by rw [if_pos h5, if_neg h16], rfl⟩
    · rw [ne_eq, ite10n] at h16
      refine r_aldn iX8_sent_19 rfl ?_
      refine r_getr iX8_sent_20 flX8_41 rfl rfl ?_
      refine r_bip iX8_sent_23 (by decide) ?_
      refine r_ldn iX8_sent_25 rfl ?_
      refine r_mul iX8_sent_26 ?_
      refine r_ldn iX8_sent_27 rfl ?_
      refine r_add iX8_sent_28 ?_
      refine r_ial iX8_sent_29 rfl (by omega) ?_
      refine r_goto iX8_sent_30 ?_
      refine r_iret iX8_sent_35 rfl ?_
      exact ⟨by rw [if_pos h5, if_pos h16], rfl⟩
  · rw [ite10] at h5
    refine r_con iX8_sent_8 ?_
    refine r_iret iX8_sent_9 rfl ?_
    exact ⟨by rw [if_neg h5], rfl⟩
theorem sX8_way (d : Nat) (l i k : Int) (hlr : -2147483648 ≤ l ∧ l ≤ 2147483647) (hir : -2147483648 ≤ i ∧ i ≤ 2147483647) (hkr : -2147483648 ≤ k ∧ k ≤ 2147483647) (hW : WBm M) (hN : NBm M) : Ex LyM g (d + 1) mX8_way [vr 0, vi l, vi i, vi k] M (PI (if 0 ≤ l ∧ l < M 0 6 then (if (0 ≤ i ∧ i < M 11 l) ∧ 0 ≤ k ∧ k ≤ M 12 (8 * l + i) - 1 then M 13 (8 * (8 * l + i) + k) else -4) else -1) M) := by
  refine Ex.in [some (vr 0), some (vi l), some (vi i), some (vi k)] (by decide +kernel) rfl (Nat.le_of_ble_eq_true rfl) ?_ rfl
  obtain ⟨hp0, hr, hl, hR, hL⟩ := id hN
  refine r_aldn iX8_way_0 rfl ?_
  refine r_ldn iX8_way_1 rfl ?_
  refine call_V1i iX8_way_2 clX8_142 myX8_isLoad rfl rfl rfl rfl (sX8_isLoad _ _ (by omega) hN) ?_
  refine r_ifne iX8_way_5 (by split <;> omega) (fun h5 => ?_) (fun h5 => ?_)
  · rw [ne_eq, ite10n] at h5
    have hwl := hW l h5.1 h5.2
    refine r_aldn iX8_way_10 rfl ?_
    refine r_ldn iX8_way_11 rfl ?_
    refine r_ldn iX8_way_12 rfl ?_
    refine call_V2i iX8_way_13 clX8_145 myX8_isWay rfl rfl rfl rfl (sX8_isWay _ _ _ (by omega) (by omega) hwl.1) ?_
    refine r_ifeq iX8_way_16 (by split <;> omega) (fun h16 => ?_) (fun h16 => ?_)
    · rw [ite10] at h16
      refine r_bip iX8_way_40 (by decide) ?_
      refine r_iret iX8_way_42 rfl ?_
      exact ⟨by rw [if_pos h5, if_neg (by omega)], rfl⟩
    · rw [ne_eq, ite10n] at h16
      have hvi := hwl.2 i h16.1 h16.2
      have hv1 := hvi.1
      refine r_ldn iX8_way_19 rfl ?_
      refine r_con iX8_way_20 ?_
      refine r_aldn iX8_way_21 rfl ?_
      refine r_getr iX8_way_22 flX8_47 rfl rfl ?_
      refine r_bip iX8_way_25 (by decide) ?_
      refine r_ldn iX8_way_27 rfl ?_
      refine r_mul iX8_way_28 ?_
      refine r_ldn iX8_way_29 rfl ?_
      refine r_add iX8_way_30 ?_
      refine r_ial iX8_way_31 rfl (by omega) ?_
      refine r_con iX8_way_32 ?_
      refine r_sub iX8_way_33 ?_
      refine call_S3i iX8_way_34 clX8_122 myX8_in rfl (sX8_in _ _ _ _ (by omega)) ?_
      refine r_ifne iX8_way_37 (by split <;> omega) (fun h37 => ?_) (fun h37 => ?_)
      · rw [ne_eq, ite10n] at h37
        refine r_aldn iX8_way_43 rfl ?_
        refine r_getr iX8_way_44 flX8_50 rfl rfl ?_
        refine r_bip iX8_way_47 (by decide) ?_
        refine r_bip iX8_way_49 (by decide) ?_
        refine r_ldn iX8_way_51 rfl ?_
        refine r_mul iX8_way_52 ?_
        refine r_ldn iX8_way_53 rfl ?_
        refine r_add iX8_way_54 ?_
        refine r_mul iX8_way_55 ?_
        refine r_ldn iX8_way_56 rfl ?_
        refine r_add iX8_way_57 ?_
        refine r_ial iX8_way_58 rfl (by omega) ?_
        refine r_iret iX8_way_59 rfl ?_
        exact ⟨by rw [if_pos h5, if_pos (by omega)], rfl⟩
      · rw [ite10] at h37
        refine r_bip iX8_way_40 (by decide) ?_
        refine r_iret iX8_way_42 rfl ?_
        exact ⟨by rw [if_pos h5, if_neg (by omega)], rfl⟩
  · rw [ite10] at h5
    refine r_con iX8_way_8 ?_
    refine r_iret iX8_way_9 rfl ?_
    exact ⟨by rw [if_neg h5], rfl⟩
theorem sX8_send (d : Nat) (l i v : Int) (hlr : -2147483648 ≤ l ∧ l ≤ 2147483647) (hir : -2147483648 ≤ i ∧ i ≤ 2147483647) (hvr : -2147483648 ≤ v ∧ v ≤ 2147483647) (hW : WBm M) (hN : NBm M) : Ex LyM g (d + 1) mX8_send [vr 0, vi l, vi i, vi v] M (PI (if (0 ≤ l ∧ l < M 0 6) ∧ 0 ≤ v ∧ v ≤ 100 then (if 0 ≤ i ∧ i < M 11 l then M 10 (8 * l + i) else -4) else -1) (if ((0 ≤ l ∧ l < M 0 6) ∧ 0 ≤ v ∧ v ≤ 100) ∧ 0 ≤ i ∧ i < M 11 l then mset M 10 (fset (M 10) (8 * l + i) v) else M)) := by
  refine Ex.in [some (vr 0), some (vi l), some (vi i), some (vi v), none] (by decide +kernel) rfl (Nat.le_of_ble_eq_true rfl) ?_ rfl
  obtain ⟨hp0, hr, hl, hR, hL⟩ := id hN
  refine r_aldn iX8_send_0 rfl ?_
  refine r_ldn iX8_send_1 rfl ?_
  refine call_V1i iX8_send_2 clX8_142 myX8_isLoad rfl rfl rfl rfl (sX8_isLoad _ _ (by omega) hN) ?_
  refine r_ifeq iX8_send_5 (by split <;> omega) (fun h5 => ?_) (fun h5 => ?_)
  · rw [ite10] at h5
    refine r_con iX8_send_18 ?_
    refine r_iret iX8_send_19 rfl ?_
    exact ⟨by rw [if_neg (by omega)], by rw [if_neg (by omega)]⟩
  · rw [ne_eq, ite10n] at h5
    refine r_ldn iX8_send_8 rfl ?_
    refine r_con iX8_send_9 ?_
    refine r_bip iX8_send_10 (by decide) ?_
    refine call_S3i iX8_send_12 clX8_122 myX8_in rfl (sX8_in _ _ _ _ (by omega)) ?_
    refine r_ifne iX8_send_15 (by split <;> omega) (fun h15 => ?_) (fun h15 => ?_)
    · rw [ne_eq, ite10n] at h15
      have hwl := hW l h5.1 h5.2
      refine r_aldn iX8_send_20 rfl ?_
      refine r_ldn iX8_send_21 rfl ?_
      refine r_ldn iX8_send_22 rfl ?_
      refine call_V2i iX8_send_23 clX8_145 myX8_isWay rfl rfl rfl rfl (sX8_isWay _ _ _ (by omega) (by omega) hwl.1) ?_
      refine r_ifne iX8_send_26 (by split <;> omega) (fun h26 => ?_) (fun h26 => ?_)
      · rw [ne_eq, ite10n] at h26
        refine r_aldn iX8_send_32 rfl ?_
        refine r_getr iX8_send_33 flX8_41 rfl rfl ?_
        refine r_bip iX8_send_36 (by decide) ?_
        refine r_ldn iX8_send_38 rfl ?_
        refine r_mul iX8_send_39 ?_
        refine r_ldn iX8_send_40 rfl ?_
        refine r_add iX8_send_41 ?_
        refine r_ial iX8_send_42 rfl (by omega) ?_
        refine r_st iX8_send_43 (by decide) rfl ?_
        refine r_aldn iX8_send_45 rfl ?_
        refine r_getr iX8_send_46 flX8_41 rfl rfl ?_
        refine r_bip iX8_send_49 (by decide) ?_
        refine r_ldn iX8_send_51 rfl ?_
        refine r_mul iX8_send_52 ?_
        refine r_ldn iX8_send_53 rfl ?_
        refine r_add iX8_send_54 ?_
        refine r_ldn iX8_send_55 rfl ?_
        refine r_ias iX8_send_56 rfl (by omega) ?_
        refine r_ld iX8_send_57 rfl ?_
        refine r_iret iX8_send_59 rfl ?_
        refine ⟨by rw [if_pos (by omega), if_pos h26], ?_⟩
        rw [if_pos (by omega)]
      · rw [ite10] at h26
        refine r_bip iX8_send_29 (by decide) ?_
        refine r_iret iX8_send_31 rfl ?_
        exact ⟨by rw [if_pos (by omega), if_neg h26], by rw [if_neg (by omega)]⟩
    · rw [ite10] at h15
      refine r_con iX8_send_18 ?_
      refine r_iret iX8_send_19 rfl ?_
      exact ⟨by rw [if_neg (by omega)], by rw [if_neg (by omega)]⟩
theorem sX8_many (d : Nat) (w b : Int) (hwr : -2147483648 ≤ w ∧ w ≤ 2147483647) (hb : b = 0 ∨ b = 1) (hbb : b = 1 ↔ sg (fun r => if 0 < ovM (M 11) (M 12) (M 13) (M 10) (M 2) (M 0 6) r then 1 else 0) (M 0 1) = 0 ∧ ∀ l, 0 ≤ l → l < M 0 6 → (seM (M 11) (M 10) l = M 8 l ∧ (M 5 l = 0 ∨ nzM (M 11) (M 10) l = 1) ∧ (M 5 l < 2 ∨ 0 < M 10 (8 * l + M 9 l)))) (hH : ∀ l, 0 ≤ l → l < M 0 6 → 0 ≤ M 9 l ∧ M 9 l ≤ 7) (hW : WBm M) (hA : AVm M) (hN : NBm M) : Ex LyM g (d + 5) mX8_many [vr 0, vi w] M (PI (if w = 0 then M 0 0 else if w = 1 then M 0 1 else if w = 2 then M 0 6 else if w = 3 then sg (fun r => if 0 < ovM (M 11) (M 12) (M 13) (M 10) (M 2) (M 0 6) r then 1 else 0) (M 0 1) else if w = 4 then sg (fun r => ovM (M 11) (M 12) (M 13) (M 10) (M 2) (M 0 6) r) (M 0 1) else if w = 5 then sg (fun l => sg (fun i => M 10 (8 * l + i) * prM (M 12) (M 13) (M 3) (M 0 1) (8 * l + i)) (M 11 l)) (M 0 6) else if w = 6 then b else if w = 7 then sg (fun l => seM (M 11) (M 10) l) (M 0 6) else if w = 8 then sg (fun l => M 8 l) (M 0 6) else -1) M) := by
  refine Ex.in [some (vr 0), some (vi w)] (by decide +kernel) rfl (Nat.le_of_ble_eq_true rfl) ?_ rfl
  obtain ⟨hp0, hr, hl, hR, hL⟩ := id hN
  refine r_ldn iX8_many_0 rfl ?_
  by_cases hs0 : w = 0
  · refine r_tabIn (tgt := 52) (off := 51) iX8_many_1 (by omega) (by omega) (by omega) (by rw [hs0]; rfl) (by decide) ?_
    refine r_aldn iX8_many_52 rfl ?_
    refine r_geti 0 iX8_many_53 flX8_7 rfl rfl rfl rfl ?_
    refine r_iret iX8_many_56 rfl ?_
    exact ⟨by rw [if_pos hs0], rfl⟩
  by_cases hs1 : w = 1
  · refine r_tabIn (tgt := 57) (off := 56) iX8_many_1 (by omega) (by omega) (by omega) (by rw [hs1]; rfl) (by decide) ?_
    refine r_aldn iX8_many_57 rfl ?_
    refine r_geti 1 iX8_many_58 flX8_97 rfl rfl rfl rfl ?_
    refine r_iret iX8_many_61 rfl ?_
    exact ⟨by rw [if_neg hs0, if_pos hs1], rfl⟩
  by_cases hs2 : w = 2
  · refine r_tabIn (tgt := 62) (off := 61) iX8_many_1 (by omega) (by omega) (by omega) (by rw [hs2]; rfl) (by decide) ?_
    refine r_aldn iX8_many_62 rfl ?_
    refine r_geti 6 iX8_many_63 flX8_100 rfl rfl rfl rfl ?_
    refine r_iret iX8_many_66 rfl ?_
    exact ⟨by rw [if_neg hs0, if_neg hs1, if_pos hs2], rfl⟩
  by_cases hs3 : w = 3
  · refine r_tabIn (tgt := 67) (off := 66) iX8_many_1 (by omega) (by omega) (by omega) (by rw [hs3]; rfl) (by decide) ?_
    refine r_aldn iX8_many_67 rfl ?_
    refine call_V0i iX8_many_68 clX8_174 myX8_overMany rfl rfl rfl rfl (sX8_overMany _ hW hA hN) ?_
    refine r_iret iX8_many_71 rfl ?_
    exact ⟨by rw [if_neg hs0, if_neg hs1, if_neg hs2, if_pos hs3], rfl⟩
  by_cases hs4 : w = 4
  · refine r_tabIn (tgt := 72) (off := 71) iX8_many_1 (by omega) (by omega) (by omega) (by rw [hs4]; rfl) (by decide) ?_
    refine r_aldn iX8_many_72 rfl ?_
    refine call_V0i iX8_many_73 clX8_178 myX8_overAll rfl rfl rfl rfl (sX8_overAll _ hW hA hN) ?_
    refine r_iret iX8_many_76 rfl ?_
    exact ⟨by rw [if_neg hs0, if_neg hs1, if_neg hs2, if_neg hs3, if_pos hs4], rfl⟩
  by_cases hs5 : w = 5
  · refine r_tabIn (tgt := 77) (off := 76) iX8_many_1 (by omega) (by omega) (by omega) (by rw [hs5]; rfl) (by decide) ?_
    refine r_aldn iX8_many_77 rfl ?_
    refine call_V0i iX8_many_78 clX8_181 myX8_cost rfl rfl rfl rfl (sX8_cost _ hW hN) ?_
    refine r_iret iX8_many_81 rfl ?_
    exact ⟨by rw [if_neg hs0, if_neg hs1, if_neg hs2, if_neg hs3, if_neg hs4, if_pos hs5], rfl⟩
  by_cases hs6 : w = 6
  · refine r_tabIn (tgt := 82) (off := 81) iX8_many_1 (by omega) (by omega) (by omega) (by rw [hs6]; rfl) (by decide) ?_
    refine r_aldn iX8_many_82 rfl ?_
    refine call_V0i iX8_many_83 clX8_184 myX8_fits rfl rfl rfl rfl (sX8_fits _ b hb hbb hH hW hA hN) ?_
    refine r_ifeq iX8_many_86 (by omega) (fun h86 => ?_) (fun h86 => ?_)
    · refine r_con iX8_many_93 ?_
      refine r_iret iX8_many_94 rfl ?_
      exact ⟨by rw [if_neg hs0, if_neg hs1, if_neg hs2, if_neg hs3, if_neg hs4, if_neg hs5, if_pos hs6]; congr 2; omega, rfl⟩
    · refine r_con iX8_many_89 ?_
      refine r_goto iX8_many_90 ?_
      refine r_iret iX8_many_94 rfl ?_
      exact ⟨by rw [if_neg hs0, if_neg hs1, if_neg hs2, if_neg hs3, if_neg hs4, if_neg hs5, if_pos hs6]; congr 2; omega, rfl⟩
  by_cases hs7 : w = 7
  · refine r_tabIn (tgt := 95) (off := 94) iX8_many_1 (by omega) (by omega) (by omega) (by rw [hs7]; rfl) (by decide) ?_
    refine r_aldn iX8_many_95 rfl ?_
    refine call_V0i iX8_many_96 clX8_188 myX8_sentAll rfl rfl rfl rfl (sX8_sentAll _ hW hN) ?_
    refine r_iret iX8_many_99 rfl ?_
    exact ⟨by rw [if_neg hs0, if_neg hs1, if_neg hs2, if_neg hs3, if_neg hs4, if_neg hs5, if_neg hs6, if_pos hs7], rfl⟩
  by_cases hs8 : w = 8
  · refine r_tabIn (tgt := 100) (off := 99) iX8_many_1 (by omega) (by omega) (by omega) (by rw [hs8]; rfl) (by decide) ?_
    refine r_aldn iX8_many_100 rfl ?_
    refine call_V0i iX8_many_101 clX8_191 myX8_sizeAll rfl rfl rfl rfl (sX8_sizeAll _ hN) ?_
    refine r_iret iX8_many_104 rfl ?_
    exact ⟨by rw [if_neg hs0, if_neg hs1, if_neg hs2, if_neg hs3, if_neg hs4, if_neg hs5, if_neg hs6, if_neg hs7, if_pos hs8], rfl⟩
  refine r_tabOut (tgt := 105) iX8_many_1 (by omega) (by omega) (by decide) ?_
  refine r_con iX8_many_105 ?_
  refine r_iret iX8_many_106 rfl ?_
  exact ⟨by rw [if_neg hs0, if_neg hs1, if_neg hs2, if_neg hs3, if_neg hs4, if_neg hs5, if_neg hs6, if_neg hs7, if_neg hs8], rfl⟩
theorem sX8_wall (d : Nat) (c : Int) (hcr : -2147483648 ≤ c ∧ c ≤ 2147483647) (hN : NBm M) : Ex LyM g (d + 2) mX8_wall [vr 0, vi c] M (PI (if 0 < c ∧ c < 2 ^ (M 0 0).toNat - 1 then wallF (scM M) (aM M) (bM M) (M 2) c else -1) M) := by
  refine Ex.in [some (vr 0), some (vi c)] (by decide +kernel) rfl (Nat.le_of_ble_eq_true rfl) ?_ rfl
  obtain ⟨hp0, hr, hl, hR, hL⟩ := id hN
  have hpw := pw_le hp0.1 hp0.2
  refine r_aldn iX8_wall_0 rfl ?_
  refine r_ldn iX8_wall_1 rfl ?_
  refine call_V1i iX8_wall_2 clX8_206 myX8_isCut rfl rfl rfl rfl (sX8_isCut _ _ (by omega) hN) ?_
  refine r_ifeq iX8_wall_5 (by split <;> omega) (fun h5 => ?_) (fun h5 => ?_)
  · rw [ite10] at h5
    refine r_con iX8_wall_16 ?_
    refine r_iret iX8_wall_17 rfl ?_
    exact ⟨by rw [if_neg h5], rfl⟩
  · rw [ne_eq, ite10n] at h5
    refine r_aldn iX8_wall_8 rfl ?_
    refine r_ldn iX8_wall_9 rfl ?_
    refine call_V1i iX8_wall_10 clX8_154 myX8_wallOf rfl rfl rfl rfl (sX8_wallOf _ _ (by omega) hN) ?_
    refine r_goto iX8_wall_13 ?_
    refine r_iret iX8_wall_17 rfl ?_
    exact ⟨by rw [if_pos h5], rfl⟩
theorem sX8_call (d : Nat) (c : Int) (hcr : -2147483648 ≤ c ∧ c ≤ 2147483647) (hN : NBm M) : Ex LyM g (d + 2) mX8_call [vr 0, vi c] M (PI (if 0 < c ∧ c < 2 ^ (M 0 0).toNat - 1 then callF (scM M) (M 6) (M 7) (M 8) c else -1) M) := by
  refine Ex.in [some (vr 0), some (vi c)] (by decide +kernel) rfl (Nat.le_of_ble_eq_true rfl) ?_ rfl
  obtain ⟨hp0, hr, hl, hR, hL⟩ := id hN
  have hpw := pw_le hp0.1 hp0.2
  refine r_aldn iX8_call_0 rfl ?_
  refine r_ldn iX8_call_1 rfl ?_
  refine call_V1i iX8_call_2 clX8_206 myX8_isCut rfl rfl rfl rfl (sX8_isCut _ _ (by omega) hN) ?_
  refine r_ifeq iX8_call_5 (by split <;> omega) (fun h5 => ?_) (fun h5 => ?_)
  · rw [ite10] at h5
    refine r_con iX8_call_16 ?_
    refine r_iret iX8_call_17 rfl ?_
    exact ⟨by rw [if_neg h5], rfl⟩
  · rw [ne_eq, ite10n] at h5
    refine r_aldn iX8_call_8 rfl ?_
    refine r_ldn iX8_call_9 rfl ?_
    refine call_V1i iX8_call_10 clX8_209 myX8_callOf rfl rfl rfl rfl (sX8_callOf _ _ (by omega) hN) ?_
    refine r_goto iX8_call_13 ?_
    refine r_iret iX8_call_17 rfl ?_
    exact ⟨by rw [if_pos h5], rfl⟩
theorem sX8_bars (d : Nat) (hb : 0 ≤ (mx (excM M) (2 ^ (M 0 0).toNat - 2 : Int).toNat).1 ∧ (mx (excM M) (2 ^ (M 0 0).toNat - 2 : Int).toNat).1 ≤ 2147483647) (hN : NBm M) : Ex LyM g (d + 3) mX8_bars [vr 0] M (PI (if (mx (excM M) (2 ^ (M 0 0).toNat - 2 : Int).toNat).1 = 0 then 0 else excM M (mx (excM M) (2 ^ (M 0 0).toNat - 2 : Int).toNat).1) M) := by
  refine Ex.in [some (vr 0), none] (by decide +kernel) rfl (Nat.le_of_ble_eq_true rfl) ?_ rfl
  obtain ⟨hp0, hr, hl, hR, hL⟩ := id hN
  refine r_aldn iX8_bars_0 rfl ?_
  refine call_V0i iX8_bars_1 clX8_212 myX8_barringCut rfl rfl rfl rfl (sX8_barringCut _ hN) ?_
  refine r_stn iX8_bars_4 (by decide) rfl ?_
  refine r_ldn iX8_bars_5 rfl ?_
  have hz : (if (mx (excM M) (2 ^ (M 0 0).toNat - 2 : Int).toNat).1 = 0 then -4 else (mx (excM M) (2 ^ (M 0 0).toNat - 2 : Int).toNat).1) = -4 ∧ (mx (excM M) (2 ^ (M 0 0).toNat - 2 : Int).toNat).1 = 0 ∨ (if (mx (excM M) (2 ^ (M 0 0).toNat - 2 : Int).toNat).1 = 0 then -4 else (mx (excM M) (2 ^ (M 0 0).toNat - 2 : Int).toNat).1) = (mx (excM M) (2 ^ (M 0 0).toNat - 2 : Int).toNat).1 ∧ 0 < (mx (excM M) (2 ^ (M 0 0).toNat - 2 : Int).toNat).1 := by split <;> omega
  refine r_ifge iX8_bars_6 (by omega) (fun h6 => ?_) (fun h6 => ?_)
  · rw [if_neg (by omega : ¬ (mx (excM M) (2 ^ (M 0 0).toNat - 2 : Int).toNat).1 = 0)]
    refine r_aldn iX8_bars_13 rfl ?_
    refine r_ldn iX8_bars_14 rfl ?_
    refine call_V1i iX8_bars_15 clX8_209 myX8_callOf rfl rfl rfl rfl (sX8_callOf _ _ hb hN) ?_
    refine r_aldn iX8_bars_18 rfl ?_
    refine r_ldn iX8_bars_19 rfl ?_
    refine call_V1i iX8_bars_20 clX8_154 myX8_wallOf rfl rfl rfl rfl (sX8_wallOf _ _ hb hN) ?_
    refine r_sub iX8_bars_23 ?_
    refine r_iret iX8_bars_24 rfl ?_
    exact ⟨by rw [if_neg (by omega)]; rfl, rfl⟩
  · refine r_con iX8_bars_9 ?_
    refine r_goto iX8_bars_10 ?_
    refine r_iret iX8_bars_24 rfl ?_
    exact ⟨by rw [if_pos (by omega)], rfl⟩
theorem sX8_barring (d : Nat) (hN : NBm M) : Ex LyM g (d + 3) mX8_barring [vr 0] M (PI (if (mx (excM M) (2 ^ (M 0 0).toNat - 2 : Int).toNat).1 = 0 then -4 else (mx (excM M) (2 ^ (M 0 0).toNat - 2 : Int).toNat).1) M) := by
  refine Ex.in [some (vr 0)] (by decide +kernel) rfl (Nat.le_of_ble_eq_true rfl) ?_ rfl
  refine r_aldn iX8_barring_0 rfl ?_
  refine call_V0i iX8_barring_1 clX8_212 myX8_barringCut rfl rfl rfl rfl (sX8_barringCut _ hN) ?_
  refine r_iret iX8_barring_4 rfl ?_
  exact ⟨rfl, rfl⟩
theorem sX8_meets (d : Nat) (l : Int) (hlr : -2147483648 ≤ l ∧ l ≤ 2147483647) (hN : NBm M) : Ex LyM g (d + 3) mX8_meets [vr 0, vi l] M (PI (if 0 ≤ l ∧ l < M 0 6 then mt (wallF (scM M) (aM M) (bM M) (M 2)) (cutQ (M 6 l) (M 7 l)) (2 ^ (M 0 0).toNat - 2 : Int).toNat else -1) M) := by
  refine Ex.in [some (vr 0), some (vi l)] (by decide +kernel) rfl (Nat.le_of_ble_eq_true rfl) ?_ rfl
  refine r_aldn iX8_meets_0 rfl ?_
  refine r_ldn iX8_meets_1 rfl ?_
  refine call_V1i iX8_meets_2 clX8_142 myX8_isLoad rfl rfl rfl rfl (sX8_isLoad _ _ (by omega) hN) ?_
  refine r_ifeq iX8_meets_5 (by split <;> omega) (fun h5 => ?_) (fun h5 => ?_)
  · rw [ite10] at h5
    refine r_con iX8_meets_16 ?_
    refine r_iret iX8_meets_17 rfl ?_
    exact ⟨by rw [if_neg h5], rfl⟩
  · rw [ne_eq, ite10n] at h5
    refine r_aldn iX8_meets_8 rfl ?_
    refine r_ldn iX8_meets_9 rfl ?_
    refine call_V1i iX8_meets_10 clX8_151 myX8_mostAt rfl rfl rfl rfl (sX8_mostAt _ _ h5 hN) ?_
    refine r_goto iX8_meets_13 ?_
    refine r_iret iX8_meets_17 rfl ?_
    exact ⟨by rw [if_pos h5], rfl⟩
end RI
