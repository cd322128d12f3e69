/-! the class: hold, of, over -/
section CE
variable {g : Gt} {M : Mem}
theorem sX7_hold_x (d : Nat) (l i : Int) (hlr : -2147483648 ≤ l ∧ l ≤ 2147483647) (h : ¬ (0 ≤ l ∧ l < M 1 2)) (hN : NB M) : Ex LyC g (d + 15) mX7_hold [vr 0, vi l, vi i] M (PI (-1) M) := by
  refine Ex.in [some (vr 0), some (vi l), some (vi i), none] (by decide +kernel) rfl (Nat.le_of_ble_eq_true rfl) ?_ rfl
  obtain ⟨hp0, hr, hl, hR, hL⟩ := id hN
  refine r_aldn iX7_hold_0 rfl ?_
  refine r_getr iX7_hold_1 flX7_12 rfl rfl ?_
  refine r_ldn iX7_hold_4 rfl ?_
  refine call_V1i iX7_hold_5 clX7_124 myX3_hasLoad rfl rfl rfl rfl (sX3_hasLoad _ _ (by omega) hN) ?_
  refine r_ifne iX7_hold_8 (by split <;> omega) (fun h8 => ?_) (fun h8 => ?_)
  · rw [ne_eq, ite10n] at h8
    exact absurd h8 h
  · rw [ite10] at h8
    refine r_con iX7_hold_11 ?_
    refine r_iret iX7_hold_12 rfl ?_
    exact ⟨rfl, rfl⟩
theorem sX7_hold_k (d : Nat) (l i : Int) (h : 0 ≤ l ∧ l < M 1 2) (hk : M 7 l ≠ 2) (hN : NB M) : Ex LyC g (d + 15) mX7_hold [vr 0, vi l, vi i] M (PI (-3) M) := by
  refine Ex.in [some (vr 0), some (vi l), some (vi i), none] (by decide +kernel) rfl (Nat.le_of_ble_eq_true rfl) ?_ rfl
  obtain ⟨hp0, hr, hl, hR, hL⟩ := id hN
  have hll := hL l h.1 h.2
  refine r_aldn iX7_hold_0 rfl ?_
  refine r_getr iX7_hold_1 flX7_12 rfl rfl ?_
  refine r_ldn iX7_hold_4 rfl ?_
  refine call_V1i iX7_hold_5 clX7_124 myX3_hasLoad rfl rfl rfl rfl (sX3_hasLoad _ _ (by omega) hN) ?_
  refine r_ifne iX7_hold_8 (by split <;> omega) (fun h8 => ?_) (fun h8 => ?_)
  · rw [ne_eq, ite10n] at h8
    refine r_aldn iX7_hold_13 rfl ?_
    refine r_getr iX7_hold_14 flX7_12 rfl rfl ?_
    refine r_getr iX7_hold_17 flX7_130 rfl rfl ?_
    refine r_ldn iX7_hold_20 rfl ?_
    refine r_ial iX7_hold_21 rfl (by omega) ?_
    refine r_con iX7_hold_22 ?_
    refine r_ceq iX7_hold_23 (by omega) (fun h23 => ?_) (fun h23 => ?_)
    · exact absurd h23 hk
    · refine r_bip iX7_hold_26 (by decide) ?_
      refine r_iret iX7_hold_28 rfl ?_
      exact ⟨rfl, rfl⟩
  · rw [ite10] at h8
    exact absurd h h8
theorem sX7_hold_o (d : Nat) (l i : Int) (hir : -2147483648 ≤ i ∧ i ≤ 2147483647) (h : 0 ≤ l ∧ l < M 1 2) (hk : M 7 l = 2) (hF : FO M) (hN : NB M) : Ex LyC g (d + 15) mX7_hold [vr 0, vi l, vi i] M (fun r M' => ∃ M1, FD M M1 ∧ r = some (vi (if 0 ≤ i ∧ i < M1 28 l then M1 23 l else -4)) ∧ M' = if 0 ≤ i ∧ i < M1 28 l then mset M1 23 (fset (M1 23) l i) else M1) := by
  refine Ex.in [some (vr 0), some (vi l), some (vi i), none] (by decide +kernel) rfl (Nat.le_of_ble_eq_true rfl) ?_ rfl
  obtain ⟨hp0, hr, hl, hR, hL⟩ := id hN
  have hll := hL l h.1 h.2
  refine r_aldn iX7_hold_0 rfl ?_
  refine r_getr iX7_hold_1 flX7_12 rfl rfl ?_
  refine r_ldn iX7_hold_4 rfl ?_
  refine call_V1i iX7_hold_5 clX7_124 myX3_hasLoad rfl rfl rfl rfl (sX3_hasLoad _ _ (by omega) hN) ?_
  refine r_ifne iX7_hold_8 (by split <;> omega) (fun h8 => ?_) (fun h8 => ?_)
  · rw [ne_eq, ite10n] at h8
    refine r_aldn iX7_hold_13 rfl ?_
    refine r_getr iX7_hold_14 flX7_12 rfl rfl ?_
    refine r_getr iX7_hold_17 flX7_130 rfl rfl ?_
    refine r_ldn iX7_hold_20 rfl ?_
    refine r_ial iX7_hold_21 rfl (by omega) ?_
    refine r_con iX7_hold_22 ?_
    refine r_ceq iX7_hold_23 (by omega) (fun h23 => ?_) (fun h23 => ?_)
    · refine r_aldn iX7_hold_29 rfl ?_
      refine call_V0p iX7_hold_30 clX7_103 myX7_foundWays rfl rfl rfl rfl (sX7_foundWays _ hF hN) (fun r30 M30 h30 => ?_)
      obtain ⟨e1, e2⟩ := h30
      subst e1
      have hN1 := e2.nb hN
      have hW1 := e2.wb hN
      have hl1 : M30 1 2 = M 1 2 := by rw [e2.k (k := 1) (by omega)]
      have hr1 : M30 1 1 = M 1 1 := by rw [e2.k (k := 1) (by omega)]
      refine r_ldn iX7_hold_33 rfl ?_
      refine r_ldn iX7_hold_34 rfl ?_
      refine call_V2i iX7_hold_35 clX7_133 myX6_has rfl rfl rfl rfl (sX6_has _ _ _ (by omega) (by omega) (hW1 l h.1 (by omega)).1) ?_
      refine r_ifne iX7_hold_38 (by split <;> omega) (fun h38 => ?_) (fun h38 => ?_)
      · rw [ne_eq, ite10n] at h38
        refine r_aldn iX7_hold_44 rfl ?_
        refine r_getr iX7_hold_45 flX7_22 rfl rfl ?_
        refine r_getr iX7_hold_48 flX7_136 rfl rfl ?_
        refine r_ldn iX7_hold_51 rfl ?_
        refine r_ial iX7_hold_52 rfl (by omega) ?_
        refine r_stn iX7_hold_53 (by decide) rfl ?_
        refine r_aldn iX7_hold_54 rfl ?_
        refine r_getr iX7_hold_55 flX7_22 rfl rfl ?_
        refine r_getr iX7_hold_58 flX7_136 rfl rfl ?_
        refine r_ldn iX7_hold_61 rfl ?_
        refine r_ldn iX7_hold_62 rfl ?_
        refine r_ias iX7_hold_63 rfl (by omega) ?_
        refine r_ldn iX7_hold_64 rfl ?_
        refine r_iret iX7_hold_65 rfl ?_
        exact ⟨_, e2, by rw [if_pos h38], by rw [if_pos h38]⟩
      · rw [ite10] at h38
        refine r_bip iX7_hold_41 (by decide) ?_
        refine r_iret iX7_hold_43 rfl ?_
        exact ⟨_, e2, by rw [if_neg h38], by rw [if_neg h38]⟩
    · exact absurd hk h23
  · rw [ite10] at h8
    exact absurd h h8
theorem sX7_of (d : Nat) (r w : Int) (hrr : -2147483648 ≤ r ∧ r ≤ 2147483647) (hwr : -2147483648 ≤ w ∧ w ≤ 2147483647) (hw4 : w ≠ 4) (hw5 : w ≠ 5) (hN : NB M) : Ex LyC g (d + 15) mX7_of [vr 0, vi r, vi w] M (PI (if 0 ≤ r ∧ r < M 1 1 then (if w = 0 then M 2 r else if w = 1 then M 3 r else if w = 2 then M 4 r else if w = 3 then M 5 r else if w = 6 then M 6 r else -1) else -1) M) := by
  refine Ex.in [some (vr 0), some (vi r), some (vi w)] (by decide +kernel) rfl (Nat.le_of_ble_eq_true rfl) ?_ rfl
  obtain ⟨hp0, hr, hl, hR, hL⟩ := id hN
  refine r_aldn iX7_of_0 rfl ?_
  refine r_getr iX7_of_1 flX7_12 rfl rfl ?_
  refine r_ldn iX7_of_4 rfl ?_
  refine call_V1i iX7_of_5 clX7_86 myX3_hasRoad rfl rfl rfl rfl (sX3_hasRoad _ _ (by omega) hN) ?_
  refine r_ifne iX7_of_8 (by split <;> omega) (fun h8 => ?_) (fun h8 => ?_)
  · rw [ne_eq, ite10n] at h8
    refine r_ldn iX7_of_13 rfl ?_
    by_cases hs0 : w = 0
    · refine r_tabIn (tgt := 56) (off := 42) iX7_of_14 (by omega) (by omega) (by omega) (by rw [hs0]; rfl) (by decide) ?_
      refine r_aldn iX7_of_56 rfl ?_
      refine r_getr iX7_of_57 flX7_12 rfl rfl ?_
      refine r_getr iX7_of_60 flX7_94 rfl rfl ?_
      refine r_ldn iX7_of_63 rfl ?_
      refine r_ial iX7_of_64 rfl (by omega) ?_
      refine r_iret iX7_of_65 rfl ?_
      exact ⟨by rw [if_pos h8, if_pos hs0], rfl⟩
    by_cases hs1 : w = 1
    · refine r_tabIn (tgt := 66) (off := 52) iX7_of_14 (by omega) (by omega) (by omega) (by rw [hs1]; rfl) (by decide) ?_
      refine r_aldn iX7_of_66 rfl ?_
      refine r_getr iX7_of_67 flX7_12 rfl rfl ?_
      refine r_getr iX7_of_70 flX7_97 rfl rfl ?_
      refine r_ldn iX7_of_73 rfl ?_
      refine r_ial iX7_of_74 rfl (by omega) ?_
      refine r_iret iX7_of_75 rfl ?_
      exact ⟨by rw [if_pos h8, if_neg hs0, if_pos hs1], rfl⟩
    by_cases hs2 : w = 2
    · refine r_tabIn (tgt := 76) (off := 62) iX7_of_14 (by omega) (by omega) (by omega) (by rw [hs2]; rfl) (by decide) ?_
      refine r_aldn iX7_of_76 rfl ?_
      refine r_getr iX7_of_77 flX7_12 rfl rfl ?_
      refine r_getr iX7_of_80 flX7_90 rfl rfl ?_
      refine r_ldn iX7_of_83 rfl ?_
      refine r_ial iX7_of_84 rfl (by omega) ?_
      refine r_iret iX7_of_85 rfl ?_
      exact ⟨by rw [if_pos h8, if_neg hs0, if_neg hs1, if_pos hs2], rfl⟩
    by_cases hs3 : w = 3
    · refine r_tabIn (tgt := 86) (off := 72) iX7_of_14 (by omega) (by omega) (by omega) (by rw [hs3]; rfl) (by decide) ?_
      refine r_aldn iX7_of_86 rfl ?_
      refine r_getr iX7_of_87 flX7_12 rfl rfl ?_
      refine r_getr iX7_of_90 flX7_100 rfl rfl ?_
      refine r_ldn iX7_of_93 rfl ?_
      refine r_ial iX7_of_94 rfl (by omega) ?_
      refine r_iret iX7_of_95 rfl ?_
      exact ⟨by rw [if_pos h8, if_neg hs0, if_neg hs1, if_neg hs2, if_pos hs3], rfl⟩
    by_cases hs4 : w = 4
    · refine r_tabIn (tgt := 96) (off := 82) iX7_of_14 (by omega) (by omega) (by omega) (by rw [hs4]; rfl) (by decide) ?_
      exact absurd hs4 hw4
    by_cases hs5 : w = 5
    · refine r_tabIn (tgt := 109) (off := 95) iX7_of_14 (by omega) (by omega) (by omega) (by rw [hs5]; rfl) (by decide) ?_
      exact absurd hs5 hw5
    by_cases hs6 : w = 6
    · refine r_tabIn (tgt := 126) (off := 112) iX7_of_14 (by omega) (by omega) (by omega) (by rw [hs6]; rfl) (by decide) ?_
      refine r_aldn iX7_of_126 rfl ?_
      refine r_getr iX7_of_127 flX7_12 rfl rfl ?_
      refine r_getr iX7_of_130 flX7_115 rfl rfl ?_
      refine r_ldn iX7_of_133 rfl ?_
      refine r_ial iX7_of_134 rfl (by omega) ?_
      refine r_iret iX7_of_135 rfl ?_
      exact ⟨by rw [if_pos h8, if_neg hs0, if_neg hs1, if_neg hs2, if_neg hs3, if_pos hs6], rfl⟩
    refine r_tabOut (tgt := 136) iX7_of_14 (by omega) (by omega) (by decide) ?_
    refine r_con iX7_of_136 ?_
    refine r_iret iX7_of_137 rfl ?_
    exact ⟨by rw [if_pos h8, if_neg hs0, if_neg hs1, if_neg hs2, if_neg hs3, if_neg hs6], rfl⟩
  · rw [ite10] at h8
    refine r_con iX7_of_11 ?_
    refine r_iret iX7_of_12 rfl ?_
    exact ⟨by rw [if_neg h8], rfl⟩
theorem sX7_of_4 (d : Nat) (r w : Int) (h : 0 ≤ r ∧ r < M 1 1) (hw : w = 4) (hA : AZ M) (hF : FO M) (hN : NB M) : Ex LyC g (d + 15) mX7_of [vr 0, vi r, vi w] M (fun q M' => q = some (vi (usC (M' 22) (M' 30) r)) ∧ FD M M') := by
  refine Ex.in [some (vr 0), some (vi r), some (vi w)] (by decide +kernel) rfl (Nat.le_of_ble_eq_true rfl) ?_ rfl
  obtain ⟨hp0, hr, hl, hR, hL⟩ := id hN
  refine r_aldn iX7_of_0 rfl ?_
  refine r_getr iX7_of_1 flX7_12 rfl rfl ?_
  refine r_ldn iX7_of_4 rfl ?_
  refine call_V1i iX7_of_5 clX7_86 myX3_hasRoad rfl rfl rfl rfl (sX3_hasRoad _ _ (by omega) hN) ?_
  refine r_ifne iX7_of_8 (by split <;> omega) (fun h8 => ?_) (fun h8 => ?_)
  · rw [ne_eq, ite10n] at h8
    refine r_ldn iX7_of_13 rfl ?_
    by_cases hs0 : w = 0
    · refine r_tabIn (tgt := 56) (off := 42) iX7_of_14 (by omega) (by omega) (by omega) (by rw [hs0]; rfl) (by decide) ?_
      exfalso; omega
    by_cases hs1 : w = 1
    · refine r_tabIn (tgt := 66) (off := 52) iX7_of_14 (by omega) (by omega) (by omega) (by rw [hs1]; rfl) (by decide) ?_
      exfalso; omega
    by_cases hs2 : w = 2
    · refine r_tabIn (tgt := 76) (off := 62) iX7_of_14 (by omega) (by omega) (by omega) (by rw [hs2]; rfl) (by decide) ?_
      exfalso; omega
    by_cases hs3 : w = 3
    · refine r_tabIn (tgt := 86) (off := 72) iX7_of_14 (by omega) (by omega) (by omega) (by rw [hs3]; rfl) (by decide) ?_
      exfalso; omega
    by_cases hs4 : w = 4
    · refine r_tabIn (tgt := 96) (off := 82) iX7_of_14 (by omega) (by omega) (by omega) (by rw [hs4]; rfl) (by decide) ?_
      refine r_aldn iX7_of_96 rfl ?_
      refine r_getr iX7_of_97 flX7_22 rfl rfl ?_
      refine r_aldn iX7_of_100 rfl ?_
      refine call_V0p iX7_of_101 clX7_103 myX7_foundWays rfl rfl rfl rfl (sX7_foundWays _ hF hN) (fun r101 M101 h101 => ?_)
      obtain ⟨e1, e2⟩ := h101
      subst e1
      have hN1 := e2.nb hN
      have hW1 := e2.wb hN
      have hl1 : M101 1 2 = M 1 2 := by rw [e2.k (k := 1) (by omega)]
      have hr1 : M101 1 1 = M 1 1 := by rw [e2.k (k := 1) (by omega)]
      refine r_ldn iX7_of_104 rfl ?_
      refine call_V2i iX7_of_105 clX7_107 myX4_usedOn rfl rfl rfl rfl (sX4_usedOn _ _ (by omega) (e2.av hN hA)) ?_
      refine r_iret iX7_of_108 rfl ?_
      exact ⟨rfl, e2⟩
    by_cases hs5 : w = 5
    · refine r_tabIn (tgt := 109) (off := 95) iX7_of_14 (by omega) (by omega) (by omega) (by rw [hs5]; rfl) (by decide) ?_
      exfalso; omega
    by_cases hs6 : w = 6
    · refine r_tabIn (tgt := 126) (off := 112) iX7_of_14 (by omega) (by omega) (by omega) (by rw [hs6]; rfl) (by decide) ?_
      exfalso; omega
    refine r_tabOut (tgt := 136) iX7_of_14 (by omega) (by omega) (by decide) ?_
    exfalso; omega
  · rw [ite10] at h8
    exact absurd h h8
theorem sX7_of_5 (d : Nat) (r w : Int) (h : 0 ≤ r ∧ r < M 1 1) (hw : w = 5) (hA : AZ M) (hF : FO M) (hN : NB M) : Ex LyC g (d + 15) mX7_of [vr 0, vi r, vi w] M (fun q M' => q = some (vi (ovC (M' 22) (M' 30) (M' 4) r)) ∧ FD M M') := by
  refine Ex.in [some (vr 0), some (vi r), some (vi w)] (by decide +kernel) rfl (Nat.le_of_ble_eq_true rfl) ?_ rfl
  obtain ⟨hp0, hr, hl, hR, hL⟩ := id hN
  refine r_aldn iX7_of_0 rfl ?_
  refine r_getr iX7_of_1 flX7_12 rfl rfl ?_
  refine r_ldn iX7_of_4 rfl ?_
  refine call_V1i iX7_of_5 clX7_86 myX3_hasRoad rfl rfl rfl rfl (sX3_hasRoad _ _ (by omega) hN) ?_
  refine r_ifne iX7_of_8 (by split <;> omega) (fun h8 => ?_) (fun h8 => ?_)
  · rw [ne_eq, ite10n] at h8
    refine r_ldn iX7_of_13 rfl ?_
    by_cases hs0 : w = 0
    · refine r_tabIn (tgt := 56) (off := 42) iX7_of_14 (by omega) (by omega) (by omega) (by rw [hs0]; rfl) (by decide) ?_
      exfalso; omega
    by_cases hs1 : w = 1
    · refine r_tabIn (tgt := 66) (off := 52) iX7_of_14 (by omega) (by omega) (by omega) (by rw [hs1]; rfl) (by decide) ?_
      exfalso; omega
    by_cases hs2 : w = 2
    · refine r_tabIn (tgt := 76) (off := 62) iX7_of_14 (by omega) (by omega) (by omega) (by rw [hs2]; rfl) (by decide) ?_
      exfalso; omega
    by_cases hs3 : w = 3
    · refine r_tabIn (tgt := 86) (off := 72) iX7_of_14 (by omega) (by omega) (by omega) (by rw [hs3]; rfl) (by decide) ?_
      exfalso; omega
    by_cases hs4 : w = 4
    · refine r_tabIn (tgt := 96) (off := 82) iX7_of_14 (by omega) (by omega) (by omega) (by rw [hs4]; rfl) (by decide) ?_
      exfalso; omega
    by_cases hs5 : w = 5
    · refine r_tabIn (tgt := 109) (off := 95) iX7_of_14 (by omega) (by omega) (by omega) (by rw [hs5]; rfl) (by decide) ?_
      refine r_aldn iX7_of_109 rfl ?_
      refine r_getr iX7_of_110 flX7_22 rfl rfl ?_
      refine r_aldn iX7_of_113 rfl ?_
      refine r_getr iX7_of_114 flX7_12 rfl rfl ?_
      refine r_aldn iX7_of_117 rfl ?_
      refine call_V0p iX7_of_118 clX7_103 myX7_foundWays rfl rfl rfl rfl (sX7_foundWays _ hF hN) (fun r118 M118 h118 => ?_)
      obtain ⟨e1, e2⟩ := h118
      subst e1
      have hN1 := e2.nb hN
      have hW1 := e2.wb hN
      have hl1 : M118 1 2 = M 1 2 := by rw [e2.k (k := 1) (by omega)]
      have hr1 : M118 1 1 = M 1 1 := by rw [e2.k (k := 1) (by omega)]
      refine r_ldn iX7_of_121 rfl ?_
      refine call_V3i iX7_of_122 clX7_111 myX4_overOn rfl rfl rfl rfl (sX4_overOn _ _ (by omega) (e2.av hN hA) hN1) ?_
      refine r_iret iX7_of_125 rfl ?_
      exact ⟨rfl, e2⟩
    by_cases hs6 : w = 6
    · refine r_tabIn (tgt := 126) (off := 112) iX7_of_14 (by omega) (by omega) (by omega) (by rw [hs6]; rfl) (by decide) ?_
      exfalso; omega
    refine r_tabOut (tgt := 136) iX7_of_14 (by omega) (by omega) (by decide) ?_
    exfalso; omega
  · rw [ite10] at h8
    exact absurd h h8
theorem sX7_of_x (d : Nat) (r w : Int) (hrr : -2147483648 ≤ r ∧ r ≤ 2147483647) (h : ¬ (0 ≤ r ∧ r < M 1 1)) (hN : NB M) : Ex LyC g (d + 15) mX7_of [vr 0, vi r, vi w] M (PI (-1) M) := by
  refine Ex.in [some (vr 0), some (vi r), some (vi w)] (by decide +kernel) rfl (Nat.le_of_ble_eq_true rfl) ?_ rfl
  obtain ⟨hp0, hr, hl, hR, hL⟩ := id hN
  refine r_aldn iX7_of_0 rfl ?_
  refine r_getr iX7_of_1 flX7_12 rfl rfl ?_
  refine r_ldn iX7_of_4 rfl ?_
  refine call_V1i iX7_of_5 clX7_86 myX3_hasRoad rfl rfl rfl rfl (sX3_hasRoad _ _ (by omega) hN) ?_
  refine r_ifne iX7_of_8 (by split <;> omega) (fun h8 => ?_) (fun h8 => ?_)
  · rw [ne_eq, ite10n] at h8
    exact absurd h8 h
  · rw [ite10] at h8
    refine r_con iX7_of_11 ?_
    refine r_iret iX7_of_12 rfl ?_
    exact ⟨rfl, rfl⟩
theorem sX7_over (d : Nat) (hA : AZ M) (hF : FO M) (hN : NB M) : Ex LyC g (d + 15) mX7_over [vr 0] M (fun q M' => q = some (vi (if (fpt (fun r => ovC (M' 22) (M' 30) (M' 4) r) (M' 1 1).toNat) < 0 then -4 else (fpt (fun r => ovC (M' 22) (M' 30) (M' 4) r) (M' 1 1).toNat))) ∧ FD M M') := by
  refine Ex.in [some (vr 0), none] (by decide +kernel) rfl (Nat.le_of_ble_eq_true rfl) ?_ rfl
  obtain ⟨hp0, hr, hl, hR, hL⟩ := id hN
  refine r_aldn iX7_over_0 rfl ?_
  refine r_getr iX7_over_1 flX7_22 rfl rfl ?_
  refine r_aldn iX7_over_4 rfl ?_
  refine r_getr iX7_over_5 flX7_12 rfl rfl ?_
  refine r_aldn iX7_over_8 rfl ?_
  refine call_V0p iX7_over_9 clX7_103 myX7_foundWays rfl rfl rfl rfl (sX7_foundWays _ hF hN) (fun r9 M9 h9 => ?_)
  obtain ⟨e1, e2⟩ := h9
  subst e1
  have hN1 := e2.nb hN
  have hW1 := e2.wb hN
  have hl1 : M9 1 2 = M 1 2 := by rw [e2.k (k := 1) (by omega)]
  have hr1 : M9 1 1 = M 1 1 := by rw [e2.k (k := 1) (by omega)]
  refine call_V2i iX7_over_12 clX7_228 myX4_firstOver rfl rfl rfl rfl (sX4_firstOver _ (e2.av hN hA) hN1) ?_
  refine r_stn iX7_over_15 (by decide) rfl ?_
  have hfb := fpt_bd (fun r => ovC (M9 22) (M9 30) (M9 4) r) (M9 1 1).toNat
  refine r_ldn iX7_over_16 rfl ?_
  refine r_ifge iX7_over_17 (by omega) (fun h17 => ?_) (fun h17 => ?_)
  · refine r_ldn iX7_over_25 rfl ?_
    refine r_iret iX7_over_26 rfl ?_
    exact ⟨by rw [if_neg (by omega)], e2⟩
  · refine r_bip iX7_over_20 (by decide) ?_
    refine r_goto iX7_over_22 ?_
    refine r_iret iX7_over_26 rfl ?_
    exact ⟨by rw [if_pos h17], e2⟩
end CE
