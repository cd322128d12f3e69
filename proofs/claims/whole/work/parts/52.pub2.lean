/-! the class: road, load, keep, back -/
def fgC (M : Mem) : Mem := mset (mset (mset M 22 (fillN (M 22) 40 0)) 23 (fillN (M 23) 5 0)) 32 (fillN (M 32) 5 0)
def rdC (M : Mem) (p q rm pr : Int) : Mem := mset (mset (mset (mset (mset (mset (fgC M) 2 (fset (M 2) (M 1 1) (if q < p then q else p))) 3 (fset (M 3) (M 1 1) (if p < q then q else p))) 4 (fset (M 4) (M 1 1) rm)) 5 (fset (M 5) (M 1 1) pr)) 6 (fset (M 6) (M 1 1) 1)) 1 (fset (M 1) 1 (M 1 1 + 1))
def ldC (M : Mem) (kd fr to sz : Int) : Mem := mset (mset (mset (mset (mset M 7 (fset (M 7) (M 1 2) kd)) 8 (fset (M 8) (M 1 2) fr)) 9 (fset (M 9) (M 1 2) to)) 10 (fset (M 10) (M 1 2) sz)) 1 (fset (M 1) 2 (M 1 2 + 1))
def keC (M : Mem) : Mem := mset (mset (mset (mset (mset (mset (mset (mset (mset (mset (mset (mset (mset M 11 (fset (fset (fset (M 11) 0 (M 1 0)) 1 (M 1 1)) 2 (M 1 2))) 12 (M 2)) 13 (M 3)) 14 (M 4)) 15 (M 5)) 16 (M 6)) 17 (M 7)) 18 (M 8)) 19 (M 9)) 20 (M 10)) 25 (M 22)) 26 (M 23)) 0 (fset (M 0) 8 1)
def bkC (M : Mem) : Mem := mset (mset (mset (mset (mset (mset (mset (mset (mset (mset (mset (mset (mset M 1 (fset (fset (fset (M 1) 0 (M 11 0)) 1 (M 11 1)) 2 (M 11 2))) 2 (M 12)) 3 (M 13)) 4 (M 14)) 5 (M 15)) 6 (M 16)) 7 (M 17)) 8 (M 18)) 9 (M 19)) 10 (M 20)) 22 (M 25)) 23 (M 26)) 32 (fillN (M 32) 5 0)
section CC
variable {g : Gt} {M : Mem}
theorem sX7_road_o (d : Nat) (p q rm pr : Int) (hpr : -2147483648 ≤ p ∧ p ≤ 2147483647) (hqr : -2147483648 ≤ q ∧ q ≤ 2147483647) (hrmr : -2147483648 ≤ rm ∧ rm ≤ 2147483647) (hprr : -2147483648 ≤ pr ∧ pr ≤ 2147483647) (hN : NB M) (h : (p ≠ q ∧ (0 ≤ p ∧ p < M 1 0) ∧ 0 ≤ q ∧ q < M 1 0) ∧ (0 ≤ rm ∧ rm ≤ 100) ∧ (0 ≤ pr ∧ pr ≤ 50)) (hf : M 1 1 ≠ 20) : Ex LyC g (d + 4) mX7_road [vr 0, vi p, vi q, vi rm, vi pr] M (PI (M 1 1) (rdC M p q rm pr)) := by
  refine Ex.in [some (vr 0), some (vi p), some (vi q), some (vi rm), some (vi pr)] (by decide +kernel) rfl (Nat.le_of_ble_eq_true rfl) ?_ rfl
  obtain ⟨hp0, hr, hl, hR, hL⟩ := id hN
  refine r_aldn iX7_road_0 rfl ?_
  refine r_getr iX7_road_1 flX7_12 rfl rfl ?_
  refine r_ldn iX7_road_4 rfl ?_
  refine r_ldn iX7_road_5 rfl ?_
  refine call_V2i iX7_road_6 clX7_74 myX3_hasUnlikePosts rfl rfl rfl rfl (sX3_hasUnlikePosts _ _ _ (by omega) (by omega) hN) ?_
  refine r_ifeq iX7_road_9 (by split <;> omega) (fun h9 => ?_) (fun h9 => ?_)
  · rw [ite10] at h9
    exact absurd h.1 h9
  · rw [ne_eq, ite10n] at h9
    refine r_ldn iX7_road_12 rfl ?_
    refine r_con iX7_road_13 ?_
    refine r_bip iX7_road_14 (by decide) ?_
    refine call_S3i iX7_road_16 clX7_61 myX7_isWithin rfl (sX7_isWithin _ _ _ _ (by omega)) ?_
    refine r_ifeq iX7_road_19 (by split <;> omega) (fun h19 => ?_) (fun h19 => ?_)
    · rw [ite10] at h19
      exfalso; omega
    · rw [ne_eq, ite10n] at h19
      refine r_ld iX7_road_22 rfl ?_
      refine r_con iX7_road_24 ?_
      refine r_bip iX7_road_25 (by decide) ?_
      refine call_S3i iX7_road_27 clX7_61 myX7_isWithin rfl (sX7_isWithin _ _ _ _ (by omega)) ?_
      refine r_ifne iX7_road_30 (by split <;> omega) (fun h30 => ?_) (fun h30 => ?_)
      · rw [ne_eq, ite10n] at h30
        refine r_aldn iX7_road_35 rfl ?_
        refine r_getr iX7_road_36 flX7_12 rfl rfl ?_
        refine r_geti 1 iX7_road_39 flX7_78 rfl rfl rfl rfl ?_
        refine r_bip iX7_road_42 (by decide) ?_
        refine r_clt iX7_road_44 (by omega) (fun h44 => ?_) (fun h44 => ?_)
        · refine r_aldn iX7_road_50 rfl ?_
          refine r_getr iX7_road_51 flX7_22 rfl rfl ?_
          refine call_V0v iX7_road_54 clX7_69 myX4_clear rfl rfl rfl rfl (sX4_clear _) ?_
          refine r_aldn iX7_road_57 rfl ?_
          refine r_getr iX7_road_58 flX7_32 rfl rfl ?_
          refine call_V0v iX7_road_61 clX7_71 myX6_forget rfl rfl rfl rfl (sX6_forget _) ?_
          refine r_aldn iX7_road_64 rfl ?_
          refine r_getr iX7_road_65 flX7_12 rfl rfl ?_
          refine r_ldn iX7_road_68 rfl ?_
          refine r_ldn iX7_road_69 rfl ?_
          refine r_ldn iX7_road_70 rfl ?_
          refine r_ld iX7_road_71 rfl ?_
          refine call_V4i iX7_road_73 clX7_82 myX3_addRoad rfl rfl rfl rfl (sX3_addRoad (M := fgC M) _ _ _ _ _ (by omega) (by show 0 ≤ M 1 1 ∧ M 1 1 < 20; omega)) ?_
          refine r_iret iX7_road_76 rfl ?_
          exact ⟨rfl, rfl⟩
        · exfalso; omega
      · rw [ite10] at h30
        exfalso; omega
theorem sX7_load_o (d : Nat) (k f t s : Int) (hkr : -2147483648 ≤ k ∧ k ≤ 2147483647) (hfr : -2147483648 ≤ f ∧ f ≤ 2147483647) (htr : -2147483648 ≤ t ∧ t ≤ 2147483647) (hsr : -2147483648 ≤ s ∧ s ≤ 2147483647) (hN : NB M) (h : (f ≠ t ∧ (0 ≤ f ∧ f < M 1 0) ∧ 0 ≤ t ∧ t < M 1 0) ∧ (0 ≤ k ∧ k ≤ 2) ∧ (1 ≤ s ∧ s ≤ 100)) (hf : M 1 2 ≠ 5) : Ex LyC g (d + 4) mX7_load [vr 0, vi k, vi f, vi t, vi s] M (PI (M 1 2) (ldC M k f t s)) := by
  refine Ex.in [some (vr 0), some (vi k), some (vi f), some (vi t), some (vi s)] (by decide +kernel) rfl (Nat.le_of_ble_eq_true rfl) ?_ rfl
  obtain ⟨hp0, hr, hl, hR, hL⟩ := id hN
  refine r_aldn iX7_load_0 rfl ?_
  refine r_getr iX7_load_1 flX7_12 rfl rfl ?_
  refine r_ldn iX7_load_4 rfl ?_
  refine r_ldn iX7_load_5 rfl ?_
  refine call_V2i iX7_load_6 clX7_74 myX3_hasUnlikePosts rfl rfl rfl rfl (sX3_hasUnlikePosts _ _ _ (by omega) (by omega) hN) ?_
  refine r_ifeq iX7_load_9 (by split <;> omega) (fun h9 => ?_) (fun h9 => ?_)
  · rw [ite10] at h9
    exact absurd h.1 h9
  · rw [ne_eq, ite10n] at h9
    refine r_ldn iX7_load_12 rfl ?_
    refine r_con iX7_load_13 ?_
    refine r_con iX7_load_14 ?_
    refine call_S3i iX7_load_15 clX7_61 myX7_isWithin rfl (sX7_isWithin _ _ _ _ (by omega)) ?_
    refine r_ifeq iX7_load_18 (by split <;> omega) (fun h18 => ?_) (fun h18 => ?_)
    · rw [ite10] at h18
      exfalso; omega
    · rw [ne_eq, ite10n] at h18
      refine r_ld iX7_load_21 rfl ?_
      refine r_con iX7_load_23 ?_
      refine r_bip iX7_load_24 (by decide) ?_
      refine call_S3i iX7_load_26 clX7_61 myX7_isWithin rfl (sX7_isWithin _ _ _ _ (by omega)) ?_
      refine r_ifne iX7_load_29 (by split <;> omega) (fun h29 => ?_) (fun h29 => ?_)
      · rw [ne_eq, ite10n] at h29
        refine r_aldn iX7_load_34 rfl ?_
        refine r_getr iX7_load_35 flX7_12 rfl rfl ?_
        refine r_geti 2 iX7_load_38 flX7_118 rfl rfl rfl rfl ?_
        refine r_con iX7_load_41 ?_
        refine r_clt iX7_load_42 (by omega) (fun h42 => ?_) (fun h42 => ?_)
        · refine r_aldn iX7_load_48 rfl ?_
          refine r_getr iX7_load_49 flX7_12 rfl rfl ?_
          refine r_ldn iX7_load_52 rfl ?_
          refine r_ldn iX7_load_53 rfl ?_
          refine r_ldn iX7_load_54 rfl ?_
          refine r_ld iX7_load_55 rfl ?_
          refine call_V4i iX7_load_57 clX7_121 myX3_addLoad rfl rfl rfl rfl (sX3_addLoad _ _ _ _ _ (by omega)) ?_
          refine r_iret iX7_load_60 rfl ?_
          exact ⟨rfl, rfl⟩
        · exfalso; omega
      · rw [ite10] at h29
        exfalso; omega
theorem sX7_keep (d : Nat) : Ex LyC g (d + 2) mX7_keep [vr 0] M (PI 1 (keC M)) := by
  refine Ex.in [some (vr 0)] (by decide +kernel) rfl (Nat.le_of_ble_eq_true rfl) ?_ rfl
  refine r_aldn iX7_keep_0 rfl ?_
  refine r_getr iX7_keep_1 flX7_16 rfl rfl ?_
  refine r_aldn iX7_keep_4 rfl ?_
  refine r_getr iX7_keep_5 flX7_12 rfl rfl ?_
  refine call_V1v iX7_keep_8 clX7_276 myX3_copy rfl rfl rfl rfl (sX3_copy_11 _) ?_
  refine r_aldn iX7_keep_11 rfl ?_
  refine r_getr iX7_keep_12 flX7_26 rfl rfl ?_
  refine r_aldn iX7_keep_15 rfl ?_
  refine r_getr iX7_keep_16 flX7_22 rfl rfl ?_
  refine call_V1v iX7_keep_19 clX7_280 myX4_copy rfl rfl rfl rfl (sX4_copy_24 _) ?_
  try simp only [mset_s, mset_n, mset_mset, fset_s, ne_eq, Nat.reduceEqDiff, not_false_eq_true]
  refine r_aldn iX7_keep_22 rfl ?_
  refine r_con iX7_keep_23 ?_
  refine r_putz 8 iX7_keep_24 fpX7_57 rfl rfl (by omega) rfl ?_
  try simp only [mset_s, mset_n, mset_mset, fset_s, ne_eq, Nat.reduceEqDiff, not_false_eq_true]
  refine r_con iX7_keep_27 ?_
  refine r_iret iX7_keep_28 rfl ?_
  exact ⟨rfl, rfl⟩
theorem sX7_back_o (d : Nat) (h : M 0 8 = 1) : Ex LyC g (d + 2) mX7_back [vr 0] M (PI 1 (bkC M)) := by
  refine Ex.in [some (vr 0)] (by decide +kernel) rfl (Nat.le_of_ble_eq_true rfl) ?_ rfl
  refine r_aldn iX7_back_0 rfl ?_
  refine r_geti 8 iX7_back_1 flX7_57 rfl rfl rfl rfl ?_
  refine r_ifne iX7_back_4 (by omega) (fun h4 => ?_) (fun h4 => ?_)
  · refine r_aldn iX7_back_10 rfl ?_
    refine r_getr iX7_back_11 flX7_12 rfl rfl ?_
    refine r_aldn iX7_back_14 rfl ?_
    refine r_getr iX7_back_15 flX7_16 rfl rfl ?_
    refine call_V1v iX7_back_18 clX7_276 myX3_copy rfl rfl rfl rfl (sX3_copy_1 _) ?_
    refine r_aldn iX7_back_21 rfl ?_
    refine r_getr iX7_back_22 flX7_22 rfl rfl ?_
    refine r_aldn iX7_back_25 rfl ?_
    refine r_getr iX7_back_26 flX7_26 rfl rfl ?_
    refine call_V1v iX7_back_29 clX7_280 myX4_copy rfl rfl rfl rfl (sX4_copy_21 _) ?_
    try simp only [mset_s, mset_n, mset_mset, fset_s, ne_eq, Nat.reduceEqDiff, not_false_eq_true]
    refine r_aldn iX7_back_32 rfl ?_
    refine r_getr iX7_back_33 flX7_32 rfl rfl ?_
    refine call_V0v iX7_back_36 clX7_71 myX6_forget rfl rfl rfl rfl (sX6_forget _) ?_
    try simp only [mset_s, mset_n, mset_mset, fset_s, ne_eq, Nat.reduceEqDiff, not_false_eq_true]
    refine r_con iX7_back_39 ?_
    refine r_iret iX7_back_40 rfl ?_
    exact ⟨rfl, rfl⟩
  · exfalso; omega
end CC
