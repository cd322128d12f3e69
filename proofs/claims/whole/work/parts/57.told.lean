/-! the class: told -/
section CG
variable {g : Gt} {M : Mem}
theorem sX4_parts_b (d : Nat) (l : Int) (hl0 : 0 ≤ l ∧ l < 5) (hA : ∀ s, 0 ≤ s → s < 40 → 0 ≤ M 22 s ∧ M 22 s ≤ 100) : Ex LyC g (d + 1) mX4_parts [vr 21, vi l] M (PI (ptC (M 22) l) M) := by
  refine Ex.in [some (vr 21), some (vi l), none, none] (by decide +kernel) rfl (Nat.le_of_ble_eq_true rfl) ?_ rfl
  have L : ∀ (n9 : Nat) (i a : Int), (0 ≤ i) → (i ≤ 8) → (a = sg (fun i => if M 22 (8 * l + i) = 0 then 0 else 1) i) → 8 - i < n9 → R LyC g mX4_parts (d + 1) 4 [some (vr 21), some (vi l), some (vi a), some (vi i)] [] M (PI (ptC (M 22) l) M) := by
    intro n9
    induction n9 with
    | zero =>
      intro i a h0 h1 ha hm9
      omega
    | succ n9 ih =>
      intro i a h0 h1 ha hm9
      refine r_ldn iX4_parts_4 rfl ?_
      refine r_bip iX4_parts_5 (by decide) ?_
      refine r_cge iX4_parts_7 (by omega) (fun h7 => ?_) (fun h7 => ?_)
      · refine r_ldn iX4_parts_32 rfl ?_
        refine r_iret iX4_parts_33 rfl ?_
        exact ⟨by rw [ha, show i = 8 by omega] <;> rfl, rfl⟩
      · have hai := hA (8 * l + i) (by omega) (by omega)
        refine r_aldn iX4_parts_10 rfl ?_
        refine r_getr iX4_parts_11 flX4_9 rfl rfl ?_
        refine r_ldn iX4_parts_14 rfl ?_
        refine r_ldn iX4_parts_15 rfl ?_
        refine call_N2i iX4_parts_16 clX4_27 myX7_slot rfl (sX7_slot _ _ _) ?_
        refine r_ial iX4_parts_19 rfl (by omega) ?_
        refine r_ifeq iX4_parts_20 (by omega) (fun h20 => ?_) (fun h20 => ?_)
        · refine r_inc iX4_parts_26 rfl (by decide) rfl ?_
          refine r_goto iX4_parts_29 ?_
          exact ih (i + 1) _ (by omega) (by omega) (by rw [sg_1 h0, ha, if_pos h20, Int.add_zero]) (by omega)
        · refine r_inc iX4_parts_23 rfl (by decide) rfl ?_
          refine r_inc iX4_parts_26 rfl (by decide) rfl ?_
          refine r_goto iX4_parts_29 ?_
          exact ih (i + 1) _ (by omega) (by omega) (by rw [sg_1 h0, ha, if_neg h20]) (by omega)
  refine r_con iX4_parts_0 ?_
  refine r_stn iX4_parts_1 (by decide) rfl ?_
  refine r_con iX4_parts_2 ?_
  refine r_stn iX4_parts_3 (by decide) rfl ?_
  exact L 9 0 0 (by omega) (by omega) rfl (by omega)
theorem sX7_told (d : Nat) (l w : Int) (hlr : -2147483648 ≤ l ∧ l ≤ 2147483647) (hwr : -2147483648 ≤ w ∧ w ≤ 2147483647) (hw4 : w ≠ 4) (hw7 : w ≠ 7) (hmt : 0 ≤ l → l < M 1 2 → 0 ≤ mt (wallF (M 1) (M 2) (M 3) (M 4)) (cutQ (M 8 l) (M 9 l)) (2 ^ (M 1 0).toNat - 2 : Int).toNat ∧ mt (wallF (M 1) (M 2) (M 3) (M 4)) (cutQ (M 8 l) (M 9 l)) (2 ^ (M 1 0).toNat - 2 : Int).toNat ≤ 2147483647) (hA : ∀ s, 0 ≤ s → s < 40 → 0 ≤ M 22 s ∧ M 22 s ≤ 100) (hN : NB M) : Ex LyC g (d + 15) mX7_told [vr 0, vi l, vi w] M (PI (if 0 ≤ l ∧ l < M 1 2 then (if w = 0 then M 7 l else if w = 1 then M 8 l else if w = 2 then M 9 l else if w = 3 then M 10 l else if w = 5 then ttC (M 22) l else if w = 6 then wallF (M 1) (M 2) (M 3) (M 4) (mt (wallF (M 1) (M 2) (M 3) (M 4)) (cutQ (M 8 l) (M 9 l)) (2 ^ (M 1 0).toNat - 2 : Int).toNat) else if w = 8 then (if M 7 l = 2 then M 23 l else -1) else if w = 9 then ptC (M 22) l else -1) else -1) M) := by
  refine Ex.in [some (vr 0), some (vi l), some (vi w)] (by decide +kernel) rfl (Nat.le_of_ble_eq_true rfl) ?_ rfl
  obtain ⟨hp0, hr, hl, hR, hL⟩ := id hN
  refine r_aldn iX7_told_0 rfl ?_
  refine r_getr iX7_told_1 flX7_12 rfl rfl ?_
  refine r_ldn iX7_told_4 rfl ?_
  refine call_V1i iX7_told_5 clX7_124 myX3_hasLoad rfl rfl rfl rfl (sX3_hasLoad _ _ (by omega) hN) ?_
  refine r_ifne iX7_told_8 (by split <;> omega) (fun h8 => ?_) (fun h8 => ?_)
  · rw [ne_eq, ite10n] at h8
    refine r_ldn iX7_told_13 rfl ?_
    by_cases hs0 : w = 0
    · refine r_tabIn (tgt := 68) (off := 54) iX7_told_14 (by omega) (by omega) (by omega) (by rw [hs0]; rfl) (by decide) ?_
      refine r_aldn iX7_told_68 rfl ?_
      refine r_getr iX7_told_69 flX7_12 rfl rfl ?_
      refine r_getr iX7_told_72 flX7_130 rfl rfl ?_
      refine r_ldn iX7_told_75 rfl ?_
      refine r_ial iX7_told_76 rfl (by omega) ?_
      refine r_iret iX7_told_77 rfl ?_
      exact ⟨by rw [if_pos h8, if_pos hs0], rfl⟩
    by_cases hs1 : w = 1
    · refine r_tabIn (tgt := 78) (off := 64) iX7_told_14 (by omega) (by omega) (by omega) (by rw [hs1]; rfl) (by decide) ?_
      refine r_aldn iX7_told_78 rfl ?_
      refine r_getr iX7_told_79 flX7_12 rfl rfl ?_
      refine r_getr iX7_told_82 flX7_139 rfl rfl ?_
      refine r_ldn iX7_told_85 rfl ?_
      refine r_ial iX7_told_86 rfl (by omega) ?_
      refine r_iret iX7_told_87 rfl ?_
      exact ⟨by rw [if_pos h8, if_neg hs0, if_pos hs1], rfl⟩
    by_cases hs2 : w = 2
    · refine r_tabIn (tgt := 88) (off := 74) iX7_told_14 (by omega) (by omega) (by omega) (by rw [hs2]; rfl) (by decide) ?_
      refine r_aldn iX7_told_88 rfl ?_
      refine r_getr iX7_told_89 flX7_12 rfl rfl ?_
      refine r_getr iX7_told_92 flX7_142 rfl rfl ?_
      refine r_ldn iX7_told_95 rfl ?_
      refine r_ial iX7_told_96 rfl (by omega) ?_
      refine r_iret iX7_told_97 rfl ?_
      exact ⟨by rw [if_pos h8, if_neg hs0, if_neg hs1, if_pos hs2], rfl⟩
    by_cases hs3 : w = 3
    · refine r_tabIn (tgt := 98) (off := 84) iX7_told_14 (by omega) (by omega) (by omega) (by rw [hs3]; rfl) (by decide) ?_
      refine r_aldn iX7_told_98 rfl ?_
      refine r_getr iX7_told_99 flX7_12 rfl rfl ?_
      refine r_getr iX7_told_102 flX7_127 rfl rfl ?_
      refine r_ldn iX7_told_105 rfl ?_
      refine r_ial iX7_told_106 rfl (by omega) ?_
      refine r_iret iX7_told_107 rfl ?_
      exact ⟨by rw [if_pos h8, if_neg hs0, if_neg hs1, if_neg hs2, if_pos hs3], rfl⟩
    by_cases hs4 : w = 4
    · refine r_tabIn (tgt := 108) (off := 94) iX7_told_14 (by omega) (by omega) (by omega) (by rw [hs4]; rfl) (by decide) ?_
      exact absurd hs4 hw4
    by_cases hs5 : w = 5
    · refine r_tabIn (tgt := 118) (off := 104) iX7_told_14 (by omega) (by omega) (by omega) (by rw [hs5]; rfl) (by decide) ?_
      refine r_aldn iX7_told_118 rfl ?_
      refine r_getr iX7_told_119 flX7_22 rfl rfl ?_
      refine r_ldn iX7_told_122 rfl ?_
      refine call_V1i iX7_told_123 clX7_148 myX4_total rfl rfl rfl rfl (sX4_total _ _ (by omega)) ?_
      refine r_iret iX7_told_126 rfl ?_
      exact ⟨by rw [if_pos h8, if_neg hs0, if_neg hs1, if_neg hs2, if_neg hs3, if_pos hs5], rfl⟩
    by_cases hs6 : w = 6
    · refine r_tabIn (tgt := 127) (off := 113) iX7_told_14 (by omega) (by omega) (by omega) (by rw [hs6]; rfl) (by decide) ?_
      refine r_aldn iX7_told_127 rfl ?_
      refine r_getr iX7_told_128 flX7_12 rfl rfl ?_
      refine r_aldn iX7_told_131 rfl ?_
      refine r_getr iX7_told_132 flX7_12 rfl rfl ?_
      refine r_ldn iX7_told_135 rfl ?_
      refine call_S2i iX7_told_136 clX7_152 myX1_meeting rfl (sX1_meeting _ _ h8 hN) ?_
      refine call_S2i iX7_told_139 clX7_158 myX1_wallOf rfl (sX1_wallF _ _ (hmt h8.1 h8.2) hN) ?_
      refine r_iret iX7_told_142 rfl ?_
      exact ⟨by rw [if_pos h8, if_neg hs0, if_neg hs1, if_neg hs2, if_neg hs3, if_neg hs5, if_pos hs6], rfl⟩
    by_cases hs7 : w = 7
    · refine r_tabIn (tgt := 143) (off := 129) iX7_told_14 (by omega) (by omega) (by omega) (by rw [hs7]; rfl) (by decide) ?_
      exact absurd hs7 hw7
    by_cases hs8 : w = 8
    · refine r_tabIn (tgt := 156) (off := 142) iX7_told_14 (by omega) (by omega) (by omega) (by rw [hs8]; rfl) (by decide) ?_
      have hll := hL l h8.1 h8.2
      refine r_aldn iX7_told_156 rfl ?_
      refine r_getr iX7_told_157 flX7_12 rfl rfl ?_
      refine r_getr iX7_told_160 flX7_130 rfl rfl ?_
      refine r_ldn iX7_told_163 rfl ?_
      refine r_ial iX7_told_164 rfl (by omega) ?_
      refine r_con iX7_told_165 ?_
      refine r_cne iX7_told_166 (by omega) (fun h166 => ?_) (fun h166 => ?_)
      · refine r_con iX7_told_181 ?_
        refine r_iret iX7_told_182 rfl ?_
        exact ⟨by rw [if_pos h8, if_neg hs0, if_neg hs1, if_neg hs2, if_neg hs3, if_neg hs5, if_neg hs6, if_pos hs8, if_neg h166], rfl⟩
      · refine r_aldn iX7_told_169 rfl ?_
        refine r_getr iX7_told_170 flX7_22 rfl rfl ?_
        refine r_getr iX7_told_173 flX7_136 rfl rfl ?_
        refine r_ldn iX7_told_176 rfl ?_
        refine r_ial iX7_told_177 rfl (by omega) ?_
        refine r_goto iX7_told_178 ?_
        refine r_iret iX7_told_182 rfl ?_
        exact ⟨by rw [if_pos h8, if_neg hs0, if_neg hs1, if_neg hs2, if_neg hs3, if_neg hs5, if_neg hs6, if_pos hs8, if_pos h166], rfl⟩
    by_cases hs9 : w = 9
    · refine r_tabIn (tgt := 183) (off := 169) iX7_told_14 (by omega) (by omega) (by omega) (by rw [hs9]; rfl) (by decide) ?_
      refine r_aldn iX7_told_183 rfl ?_
      refine r_getr iX7_told_184 flX7_22 rfl rfl ?_
      refine r_ldn iX7_told_187 rfl ?_
      refine call_V1i iX7_told_188 clX7_164 myX4_parts rfl rfl rfl rfl (sX4_parts_b _ _ (by omega) hA) ?_
      refine r_iret iX7_told_191 rfl ?_
      exact ⟨by rw [if_pos h8, if_neg hs0, if_neg hs1, if_neg hs2, if_neg hs3, if_neg hs5, if_neg hs6, if_neg hs8, if_pos hs9], rfl⟩
    refine r_tabOut (tgt := 192) iX7_told_14 (by omega) (by omega) (by decide) ?_
    refine r_con iX7_told_192 ?_
    refine r_iret iX7_told_193 rfl ?_
    exact ⟨by rw [if_pos h8, if_neg hs0, if_neg hs1, if_neg hs2, if_neg hs3, if_neg hs5, if_neg hs6, if_neg hs8, if_neg hs9], rfl⟩
  · rw [ite10] at h8
    refine r_con iX7_told_11 ?_
    refine r_iret iX7_told_12 rfl ?_
    exact ⟨by rw [if_neg h8], rfl⟩
theorem sX7_told_4 (d : Nat) (l w : Int) (h : 0 ≤ l ∧ l < M 1 2) (hw : w = 4) (hF : FO M) (hN : NB M) : Ex LyC g (d + 15) mX7_told [vr 0, vi l, vi w] M (fun q M' => q = some (vi (M' 28 l)) ∧ FD M M') := by
  refine Ex.in [some (vr 0), some (vi l), some (vi w)] (by decide +kernel) rfl (Nat.le_of_ble_eq_true rfl) ?_ rfl
  obtain ⟨hp0, hr, hl, hR, hL⟩ := id hN
  refine r_aldn iX7_told_0 rfl ?_
  refine r_getr iX7_told_1 flX7_12 rfl rfl ?_
  refine r_ldn iX7_told_4 rfl ?_
  refine call_V1i iX7_told_5 clX7_124 myX3_hasLoad rfl rfl rfl rfl (sX3_hasLoad _ _ (by omega) hN) ?_
  refine r_ifne iX7_told_8 (by split <;> omega) (fun h8 => ?_) (fun h8 => ?_)
  · rw [ne_eq, ite10n] at h8
    refine r_ldn iX7_told_13 rfl ?_
    by_cases hs0 : w = 0
    · refine r_tabIn (tgt := 68) (off := 54) iX7_told_14 (by omega) (by omega) (by omega) (by rw [hs0]; rfl) (by decide) ?_
      exfalso; omega
    by_cases hs1 : w = 1
    · refine r_tabIn (tgt := 78) (off := 64) iX7_told_14 (by omega) (by omega) (by omega) (by rw [hs1]; rfl) (by decide) ?_
      exfalso; omega
    by_cases hs2 : w = 2
    · refine r_tabIn (tgt := 88) (off := 74) iX7_told_14 (by omega) (by omega) (by omega) (by rw [hs2]; rfl) (by decide) ?_
      exfalso; omega
    by_cases hs3 : w = 3
    · refine r_tabIn (tgt := 98) (off := 84) iX7_told_14 (by omega) (by omega) (by omega) (by rw [hs3]; rfl) (by decide) ?_
      exfalso; omega
    by_cases hs4 : w = 4
    · refine r_tabIn (tgt := 108) (off := 94) iX7_told_14 (by omega) (by omega) (by omega) (by rw [hs4]; rfl) (by decide) ?_
      refine r_aldn iX7_told_108 rfl ?_
      refine call_V0p iX7_told_109 clX7_103 myX7_foundWays rfl rfl rfl rfl (sX7_foundWays _ hF hN) (fun r109 M109 h109 => ?_)
      obtain ⟨e1, e2⟩ := h109
      subst e1
      refine r_getr iX7_told_112 flX7_145 rfl rfl ?_
      refine r_ldn iX7_told_115 rfl ?_
      refine r_ial iX7_told_116 rfl (by omega) ?_
      refine r_iret iX7_told_117 rfl ?_
      exact ⟨rfl, e2⟩
    by_cases hs5 : w = 5
    · refine r_tabIn (tgt := 118) (off := 104) iX7_told_14 (by omega) (by omega) (by omega) (by rw [hs5]; rfl) (by decide) ?_
      exfalso; omega
    by_cases hs6 : w = 6
    · refine r_tabIn (tgt := 127) (off := 113) iX7_told_14 (by omega) (by omega) (by omega) (by rw [hs6]; rfl) (by decide) ?_
      exfalso; omega
    by_cases hs7 : w = 7
    · refine r_tabIn (tgt := 143) (off := 129) iX7_told_14 (by omega) (by omega) (by omega) (by rw [hs7]; rfl) (by decide) ?_
      exfalso; omega
    by_cases hs8 : w = 8
    · refine r_tabIn (tgt := 156) (off := 142) iX7_told_14 (by omega) (by omega) (by omega) (by rw [hs8]; rfl) (by decide) ?_
      exfalso; omega
    by_cases hs9 : w = 9
    · refine r_tabIn (tgt := 183) (off := 169) iX7_told_14 (by omega) (by omega) (by omega) (by rw [hs9]; rfl) (by decide) ?_
      exfalso; omega
    refine r_tabOut (tgt := 192) iX7_told_14 (by omega) (by omega) (by decide) ?_
    exfalso; omega
  · rw [ite10] at h8
    exact absurd h h8
theorem sX7_told_7 (d : Nat) (l w : Int) (h : 0 ≤ l ∧ l < M 1 2) (hw : w = 7) (hN : NB M) : Ex LyC g (d + 15) mX7_told [vr 0, vi l, vi w] M (PI (if (itF (M 2) (M 3) (M 6) (M 1 1) (ds0 (M 8 l) (M 38)) (M 1 0 - 1).toNat) (M 9 l) < 1000000 then (itF (M 2) (M 3) (M 6) (M 1 1) (ds0 (M 8 l) (M 38)) (M 1 0 - 1).toNat) (M 9 l) else -1) (mset M 38 (itF (M 2) (M 3) (M 6) (M 1 1) (ds0 (M 8 l) (M 38)) (M 1 0 - 1).toNat))) := by
  refine Ex.in [some (vr 0), some (vi l), some (vi w)] (by decide +kernel) rfl (Nat.le_of_ble_eq_true rfl) ?_ rfl
  obtain ⟨hp0, hr, hl, hR, hL⟩ := id hN
  refine r_aldn iX7_told_0 rfl ?_
  refine r_getr iX7_told_1 flX7_12 rfl rfl ?_
  refine r_ldn iX7_told_4 rfl ?_
  refine call_V1i iX7_told_5 clX7_124 myX3_hasLoad rfl rfl rfl rfl (sX3_hasLoad _ _ (by omega) hN) ?_
  refine r_ifne iX7_told_8 (by split <;> omega) (fun h8 => ?_) (fun h8 => ?_)
  · rw [ne_eq, ite10n] at h8
    refine r_ldn iX7_told_13 rfl ?_
    by_cases hs0 : w = 0
    · refine r_tabIn (tgt := 68) (off := 54) iX7_told_14 (by omega) (by omega) (by omega) (by rw [hs0]; rfl) (by decide) ?_
      exfalso; omega
    by_cases hs1 : w = 1
    · refine r_tabIn (tgt := 78) (off := 64) iX7_told_14 (by omega) (by omega) (by omega) (by rw [hs1]; rfl) (by decide) ?_
      exfalso; omega
    by_cases hs2 : w = 2
    · refine r_tabIn (tgt := 88) (off := 74) iX7_told_14 (by omega) (by omega) (by omega) (by rw [hs2]; rfl) (by decide) ?_
      exfalso; omega
    by_cases hs3 : w = 3
    · refine r_tabIn (tgt := 98) (off := 84) iX7_told_14 (by omega) (by omega) (by omega) (by rw [hs3]; rfl) (by decide) ?_
      exfalso; omega
    by_cases hs4 : w = 4
    · refine r_tabIn (tgt := 108) (off := 94) iX7_told_14 (by omega) (by omega) (by omega) (by rw [hs4]; rfl) (by decide) ?_
      exfalso; omega
    by_cases hs5 : w = 5
    · refine r_tabIn (tgt := 118) (off := 104) iX7_told_14 (by omega) (by omega) (by omega) (by rw [hs5]; rfl) (by decide) ?_
      exfalso; omega
    by_cases hs6 : w = 6
    · refine r_tabIn (tgt := 127) (off := 113) iX7_told_14 (by omega) (by omega) (by omega) (by rw [hs6]; rfl) (by decide) ?_
      exfalso; omega
    by_cases hs7 : w = 7
    · refine r_tabIn (tgt := 143) (off := 129) iX7_told_14 (by omega) (by omega) (by omega) (by rw [hs7]; rfl) (by decide) ?_
      refine r_aldn iX7_told_143 rfl ?_
      refine r_getr iX7_told_144 flX7_39 rfl rfl ?_
      refine r_aldn iX7_told_147 rfl ?_
      refine r_getr iX7_told_148 flX7_12 rfl rfl ?_
      refine r_ldn iX7_told_151 rfl ?_
      refine call_V2i iX7_told_152 clX7_161 myX2_farOf rfl rfl rfl rfl (sX2_farOf _ _ h hN) ?_
      refine r_iret iX7_told_155 rfl ?_
      exact ⟨rfl, rfl⟩
    by_cases hs8 : w = 8
    · refine r_tabIn (tgt := 156) (off := 142) iX7_told_14 (by omega) (by omega) (by omega) (by rw [hs8]; rfl) (by decide) ?_
      exfalso; omega
    by_cases hs9 : w = 9
    · refine r_tabIn (tgt := 183) (off := 169) iX7_told_14 (by omega) (by omega) (by omega) (by rw [hs9]; rfl) (by decide) ?_
      exfalso; omega
    refine r_tabOut (tgt := 192) iX7_told_14 (by omega) (by omega) (by decide) ?_
    exfalso; omega
  · rw [ite10] at h8
    exact absurd h h8
theorem sX7_told_x (d : Nat) (l w : Int) (hlr : -2147483648 ≤ l ∧ l ≤ 2147483647) (h : ¬ (0 ≤ l ∧ l < M 1 2)) (hN : NB M) : Ex LyC g (d + 15) mX7_told [vr 0, vi l, vi w] M (PI (-1) M) := by
  refine Ex.in [some (vr 0), some (vi l), some (vi w)] (by decide +kernel) rfl (Nat.le_of_ble_eq_true rfl) ?_ rfl
  obtain ⟨hp0, hr, hl, hR, hL⟩ := id hN
  refine r_aldn iX7_told_0 rfl ?_
  refine r_getr iX7_told_1 flX7_12 rfl rfl ?_
  refine r_ldn iX7_told_4 rfl ?_
  refine call_V1i iX7_told_5 clX7_124 myX3_hasLoad rfl rfl rfl rfl (sX3_hasLoad _ _ (by omega) hN) ?_
  refine r_ifne iX7_told_8 (by split <;> omega) (fun h8 => ?_) (fun h8 => ?_)
  · rw [ne_eq, ite10n] at h8
    exact absurd h8 h
  · rw [ite10] at h8
    refine r_con iX7_told_11 ?_
    refine r_iret iX7_told_12 rfl ?_
    exact ⟨rfl, rfl⟩
end CG
