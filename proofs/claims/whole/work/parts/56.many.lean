/-! the class: many -/
section CF
variable {g : Gt} {M : Mem}
theorem sX7_many (d : Nat) (w : Int) (hwr : -2147483648 ≤ w ∧ w ≤ 2147483647) (hw : ¬ (3 ≤ w ∧ w ≤ 6)) (hN : NB M) : Ex LyC g (d + 15) mX7_many [vr 0, vi w] M (PI (if w = 0 then M 1 0 else if w = 1 then M 1 1 else if w = 2 then M 1 2 else if w = 7 then sg (fun l => ttC (M 22) l) 5 else if w = 8 then sg (fun l => M 10 l) (M 1 2) else -1) M) := by
  refine Ex.in [some (vr 0), some (vi w)] (by decide +kernel) rfl (Nat.le_of_ble_eq_true rfl) ?_ rfl
  obtain ⟨hp0, hr, hl, hR, hL⟩ := id hN
  refine r_ldn iX7_many_0 rfl ?_
  by_cases hs0 : w = 0
  · refine r_tabIn (tgt := 52) (off := 51) iX7_many_1 (by omega) (by omega) (by omega) (by rw [hs0]; rfl) (by decide) ?_
    refine r_aldn iX7_many_52 rfl ?_
    refine r_getr iX7_many_53 flX7_12 rfl rfl ?_
    refine r_geti 0 iX7_many_56 flX7_208 rfl rfl rfl rfl ?_
    refine r_iret iX7_many_59 rfl ?_
    exact ⟨by rw [if_pos hs0], rfl⟩
  by_cases hs1 : w = 1
  · refine r_tabIn (tgt := 60) (off := 59) iX7_many_1 (by omega) (by omega) (by omega) (by rw [hs1]; rfl) (by decide) ?_
    refine r_aldn iX7_many_60 rfl ?_
    refine r_getr iX7_many_61 flX7_12 rfl rfl ?_
    refine r_geti 1 iX7_many_64 flX7_78 rfl rfl rfl rfl ?_
    refine r_iret iX7_many_67 rfl ?_
    exact ⟨by rw [if_neg hs0, if_pos hs1], rfl⟩
  by_cases hs2 : w = 2
  · refine r_tabIn (tgt := 68) (off := 67) iX7_many_1 (by omega) (by omega) (by omega) (by rw [hs2]; rfl) (by decide) ?_
    refine r_aldn iX7_many_68 rfl ?_
    refine r_getr iX7_many_69 flX7_12 rfl rfl ?_
    refine r_geti 2 iX7_many_72 flX7_118 rfl rfl rfl rfl ?_
    refine r_iret iX7_many_75 rfl ?_
    exact ⟨by rw [if_neg hs0, if_neg hs1, if_pos hs2], rfl⟩
  by_cases hs3 : w = 3
  · refine r_tabIn (tgt := 76) (off := 75) iX7_many_1 (by omega) (by omega) (by omega) (by rw [hs3]; rfl) (by decide) ?_
    exfalso; omega
  by_cases hs4 : w = 4
  · refine r_tabIn (tgt := 92) (off := 91) iX7_many_1 (by omega) (by omega) (by omega) (by rw [hs4]; rfl) (by decide) ?_
    exfalso; omega
  by_cases hs5 : w = 5
  · refine r_tabIn (tgt := 108) (off := 107) iX7_many_1 (by omega) (by omega) (by omega) (by rw [hs5]; rfl) (by decide) ?_
    exfalso; omega
  by_cases hs6 : w = 6
  · refine r_tabIn (tgt := 124) (off := 123) iX7_many_1 (by omega) (by omega) (by omega) (by rw [hs6]; rfl) (by decide) ?_
    exfalso; omega
  by_cases hs7 : w = 7
  · refine r_tabIn (tgt := 148) (off := 147) iX7_many_1 (by omega) (by omega) (by omega) (by rw [hs7]; rfl) (by decide) ?_
    refine r_aldn iX7_many_148 rfl ?_
    refine r_getr iX7_many_149 flX7_22 rfl rfl ?_
    refine call_V0i iX7_many_152 clX7_198 myX4_totalOfAll rfl rfl rfl rfl (sX4_totalOfAll _) ?_
    refine r_iret iX7_many_155 rfl ?_
    exact ⟨by rw [if_neg hs0, if_neg hs1, if_neg hs2, if_pos hs7], rfl⟩
  by_cases hs8 : w = 8
  · refine r_tabIn (tgt := 156) (off := 155) iX7_many_1 (by omega) (by omega) (by omega) (by rw [hs8]; rfl) (by decide) ?_
    refine r_aldn iX7_many_156 rfl ?_
    refine r_getr iX7_many_157 flX7_12 rfl rfl ?_
    refine call_V0i iX7_many_160 clX7_225 myX3_allSizes rfl rfl rfl rfl (sX3_allSizes _ hN) ?_
    refine r_iret iX7_many_163 rfl ?_
    exact ⟨by rw [if_neg hs0, if_neg hs1, if_neg hs2, if_neg hs7, if_pos hs8], rfl⟩
  refine r_tabOut (tgt := 164) iX7_many_1 (by omega) (by omega) (by decide) ?_
  refine r_con iX7_many_164 ?_
  refine r_iret iX7_many_165 rfl ?_
  exact ⟨by rw [if_neg hs0, if_neg hs1, if_neg hs2, if_neg hs7, if_neg hs8], rfl⟩
theorem sX7_many_3 (d : Nat) (w : Int) (hw : w = 3) (hA : AZ M) (hF : FO M) (hN : NB M) : Ex LyC g (d + 15) mX7_many [vr 0, vi w] M (fun q M' => q = some (vi (sg (fun r => if 0 < ovC (M' 22) (M' 30) (M' 4) r then 1 else 0) (M' 1 1))) ∧ FD M M') := by
  refine Ex.in [some (vr 0), some (vi w)] (by decide +kernel) rfl (Nat.le_of_ble_eq_true rfl) ?_ rfl
  obtain ⟨hp0, hr, hl, hR, hL⟩ := id hN
  refine r_ldn iX7_many_0 rfl ?_
  by_cases hs0 : w = 0
  · refine r_tabIn (tgt := 52) (off := 51) iX7_many_1 (by omega) (by omega) (by omega) (by rw [hs0]; rfl) (by decide) ?_
    exfalso; omega
  by_cases hs1 : w = 1
  · refine r_tabIn (tgt := 60) (off := 59) iX7_many_1 (by omega) (by omega) (by omega) (by rw [hs1]; rfl) (by decide) ?_
    exfalso; omega
  by_cases hs2 : w = 2
  · refine r_tabIn (tgt := 68) (off := 67) iX7_many_1 (by omega) (by omega) (by omega) (by rw [hs2]; rfl) (by decide) ?_
    exfalso; omega
  by_cases hs3 : w = 3
  · refine r_tabIn (tgt := 76) (off := 75) iX7_many_1 (by omega) (by omega) (by omega) (by rw [hs3]; rfl) (by decide) ?_
    refine r_aldn iX7_many_76 rfl ?_
    refine r_getr iX7_many_77 flX7_22 rfl rfl ?_
    refine r_aldn iX7_many_80 rfl ?_
    refine r_getr iX7_many_81 flX7_12 rfl rfl ?_
    refine r_aldn iX7_many_84 rfl ?_
    refine call_V0p iX7_many_85 clX7_103 myX7_foundWays rfl rfl rfl rfl (sX7_foundWays _ hF hN) (fun r85 M85 h85 => ?_)
    obtain ⟨e1, e2⟩ := h85
    subst e1
    have hN1 := e2.nb hN
    have hA1 := e2.av hN hA
    refine call_V2i iX7_many_88 clX7_211 myX4_roadsOver rfl rfl rfl rfl (sX4_roadsOver _ hA1 hN1) ?_
    refine r_iret iX7_many_91 rfl ?_
    exact ⟨rfl, e2⟩
  by_cases hs4 : w = 4
  · refine r_tabIn (tgt := 92) (off := 91) iX7_many_1 (by omega) (by omega) (by omega) (by rw [hs4]; rfl) (by decide) ?_
    exfalso; omega
  by_cases hs5 : w = 5
  · refine r_tabIn (tgt := 108) (off := 107) iX7_many_1 (by omega) (by omega) (by omega) (by rw [hs5]; rfl) (by decide) ?_
    exfalso; omega
  by_cases hs6 : w = 6
  · refine r_tabIn (tgt := 124) (off := 123) iX7_many_1 (by omega) (by omega) (by omega) (by rw [hs6]; rfl) (by decide) ?_
    exfalso; omega
  by_cases hs7 : w = 7
  · refine r_tabIn (tgt := 148) (off := 147) iX7_many_1 (by omega) (by omega) (by omega) (by rw [hs7]; rfl) (by decide) ?_
    exfalso; omega
  by_cases hs8 : w = 8
  · refine r_tabIn (tgt := 156) (off := 155) iX7_many_1 (by omega) (by omega) (by omega) (by rw [hs8]; rfl) (by decide) ?_
    exfalso; omega
  refine r_tabOut (tgt := 164) iX7_many_1 (by omega) (by omega) (by decide) ?_
  exfalso; omega
theorem sX7_many_4 (d : Nat) (w : Int) (hw : w = 4) (hA : AZ M) (hF : FO M) (hN : NB M) : Ex LyC g (d + 15) mX7_many [vr 0, vi w] M (fun q M' => q = some (vi (sg (fun r => ovC (M' 22) (M' 30) (M' 4) r) (M' 1 1))) ∧ FD M M') := by
  refine Ex.in [some (vr 0), some (vi w)] (by decide +kernel) rfl (Nat.le_of_ble_eq_true rfl) ?_ rfl
  obtain ⟨hp0, hr, hl, hR, hL⟩ := id hN
  refine r_ldn iX7_many_0 rfl ?_
  by_cases hs0 : w = 0
  · refine r_tabIn (tgt := 52) (off := 51) iX7_many_1 (by omega) (by omega) (by omega) (by rw [hs0]; rfl) (by decide) ?_
    exfalso; omega
  by_cases hs1 : w = 1
  · refine r_tabIn (tgt := 60) (off := 59) iX7_many_1 (by omega) (by omega) (by omega) (by rw [hs1]; rfl) (by decide) ?_
    exfalso; omega
  by_cases hs2 : w = 2
  · refine r_tabIn (tgt := 68) (off := 67) iX7_many_1 (by omega) (by omega) (by omega) (by rw [hs2]; rfl) (by decide) ?_
    exfalso; omega
  by_cases hs3 : w = 3
  · refine r_tabIn (tgt := 76) (off := 75) iX7_many_1 (by omega) (by omega) (by omega) (by rw [hs3]; rfl) (by decide) ?_
    exfalso; omega
  by_cases hs4 : w = 4
  · refine r_tabIn (tgt := 92) (off := 91) iX7_many_1 (by omega) (by omega) (by omega) (by rw [hs4]; rfl) (by decide) ?_
    refine r_aldn iX7_many_92 rfl ?_
    refine r_getr iX7_many_93 flX7_22 rfl rfl ?_
    refine r_aldn iX7_many_96 rfl ?_
    refine r_getr iX7_many_97 flX7_12 rfl rfl ?_
    refine r_aldn iX7_many_100 rfl ?_
    refine call_V0p iX7_many_101 clX7_103 myX7_foundWays rfl rfl rfl rfl (sX7_foundWays _ hF hN) (fun r101 M101 h101 => ?_)
    obtain ⟨e1, e2⟩ := h101
    subst e1
    have hN1 := e2.nb hN
    have hA1 := e2.av hN hA
    refine call_V2i iX7_many_104 clX7_215 myX4_overOnAll rfl rfl rfl rfl (sX4_overOnAll _ hA1 hN1) ?_
    refine r_iret iX7_many_107 rfl ?_
    exact ⟨rfl, e2⟩
  by_cases hs5 : w = 5
  · refine r_tabIn (tgt := 108) (off := 107) iX7_many_1 (by omega) (by omega) (by omega) (by rw [hs5]; rfl) (by decide) ?_
    exfalso; omega
  by_cases hs6 : w = 6
  · refine r_tabIn (tgt := 124) (off := 123) iX7_many_1 (by omega) (by omega) (by omega) (by rw [hs6]; rfl) (by decide) ?_
    exfalso; omega
  by_cases hs7 : w = 7
  · refine r_tabIn (tgt := 148) (off := 147) iX7_many_1 (by omega) (by omega) (by omega) (by rw [hs7]; rfl) (by decide) ?_
    exfalso; omega
  by_cases hs8 : w = 8
  · refine r_tabIn (tgt := 156) (off := 155) iX7_many_1 (by omega) (by omega) (by omega) (by rw [hs8]; rfl) (by decide) ?_
    exfalso; omega
  refine r_tabOut (tgt := 164) iX7_many_1 (by omega) (by omega) (by decide) ?_
  exfalso; omega
theorem sX7_many_5 (d : Nat) (w : Int) (hw : w = 5) (hA : AZ M) (hF : FO M) (hN : NB M) : Ex LyC g (d + 15) mX7_many [vr 0, vi w] M (fun q M' => q = some (vi (coC (M' 22) (M' 5) (M' 29) (M' 31))) ∧ FD M M') := by
  refine Ex.in [some (vr 0), some (vi w)] (by decide +kernel) rfl (Nat.le_of_ble_eq_true rfl) ?_ rfl
  obtain ⟨hp0, hr, hl, hR, hL⟩ := id hN
  refine r_ldn iX7_many_0 rfl ?_
  by_cases hs0 : w = 0
  · refine r_tabIn (tgt := 52) (off := 51) iX7_many_1 (by omega) (by omega) (by omega) (by rw [hs0]; rfl) (by decide) ?_
    exfalso; omega
  by_cases hs1 : w = 1
  · refine r_tabIn (tgt := 60) (off := 59) iX7_many_1 (by omega) (by omega) (by omega) (by rw [hs1]; rfl) (by decide) ?_
    exfalso; omega
  by_cases hs2 : w = 2
  · refine r_tabIn (tgt := 68) (off := 67) iX7_many_1 (by omega) (by omega) (by omega) (by rw [hs2]; rfl) (by decide) ?_
    exfalso; omega
  by_cases hs3 : w = 3
  · refine r_tabIn (tgt := 76) (off := 75) iX7_many_1 (by omega) (by omega) (by omega) (by rw [hs3]; rfl) (by decide) ?_
    exfalso; omega
  by_cases hs4 : w = 4
  · refine r_tabIn (tgt := 92) (off := 91) iX7_many_1 (by omega) (by omega) (by omega) (by rw [hs4]; rfl) (by decide) ?_
    exfalso; omega
  by_cases hs5 : w = 5
  · refine r_tabIn (tgt := 108) (off := 107) iX7_many_1 (by omega) (by omega) (by omega) (by rw [hs5]; rfl) (by decide) ?_
    refine r_aldn iX7_many_108 rfl ?_
    refine r_getr iX7_many_109 flX7_22 rfl rfl ?_
    refine r_aldn iX7_many_112 rfl ?_
    refine r_getr iX7_many_113 flX7_12 rfl rfl ?_
    refine r_aldn iX7_many_116 rfl ?_
    refine call_V0p iX7_many_117 clX7_103 myX7_foundWays rfl rfl rfl rfl (sX7_foundWays _ hF hN) (fun r117 M117 h117 => ?_)
    obtain ⟨e1, e2⟩ := h117
    subst e1
    have hN1 := e2.nb hN
    have hA1 := e2.av hN hA
    refine call_V2i iX7_many_120 clX7_218 myX4_cost rfl rfl rfl rfl (sX4_cost _ hA1 hN1) ?_
    refine r_iret iX7_many_123 rfl ?_
    exact ⟨rfl, e2⟩
  by_cases hs6 : w = 6
  · refine r_tabIn (tgt := 124) (off := 123) iX7_many_1 (by omega) (by omega) (by omega) (by rw [hs6]; rfl) (by decide) ?_
    exfalso; omega
  by_cases hs7 : w = 7
  · refine r_tabIn (tgt := 148) (off := 147) iX7_many_1 (by omega) (by omega) (by omega) (by rw [hs7]; rfl) (by decide) ?_
    exfalso; omega
  by_cases hs8 : w = 8
  · refine r_tabIn (tgt := 156) (off := 155) iX7_many_1 (by omega) (by omega) (by omega) (by rw [hs8]; rfl) (by decide) ?_
    exfalso; omega
  refine r_tabOut (tgt := 164) iX7_many_1 (by omega) (by omega) (by decide) ?_
  exfalso; omega
theorem sX7_many_6 (d : Nat) (w : Int) (hw : w = 6) (b : Int) (hb : b = 0 ∨ b = 1) (hbb : ∀ M1, FD M M1 → (b = 1 ↔ (∀ l, 0 ≤ l → l < M1 1 2 → ttC (M1 22) l = M1 10 l ∧ (M1 7 l = 0 ∨ ptC (M1 22) l = 1) ∧ (M1 7 l < 2 ∨ fpC (M1 22) l = M1 23 l)) ∧ fpt (fun r => ovC (M1 22) (M1 30) (M1 4) r) (M1 1 1).toNat < 0)) (hH : ∀ l, 0 ≤ l → l < 5 → 0 ≤ M 23 l ∧ M 23 l ≤ 7) (hA : AZ M) (hF : FO M) (hN : NB M) : Ex LyC g (d + 15) mX7_many [vr 0, vi w] M (fun q M' => q = some (vi (b)) ∧ FD M M') := by
  refine Ex.in [some (vr 0), some (vi w)] (by decide +kernel) rfl (Nat.le_of_ble_eq_true rfl) ?_ rfl
  obtain ⟨hp0, hr, hl, hR, hL⟩ := id hN
  refine r_ldn iX7_many_0 rfl ?_
  by_cases hs0 : w = 0
  · refine r_tabIn (tgt := 52) (off := 51) iX7_many_1 (by omega) (by omega) (by omega) (by rw [hs0]; rfl) (by decide) ?_
    exfalso; omega
  by_cases hs1 : w = 1
  · refine r_tabIn (tgt := 60) (off := 59) iX7_many_1 (by omega) (by omega) (by omega) (by rw [hs1]; rfl) (by decide) ?_
    exfalso; omega
  by_cases hs2 : w = 2
  · refine r_tabIn (tgt := 68) (off := 67) iX7_many_1 (by omega) (by omega) (by omega) (by rw [hs2]; rfl) (by decide) ?_
    exfalso; omega
  by_cases hs3 : w = 3
  · refine r_tabIn (tgt := 76) (off := 75) iX7_many_1 (by omega) (by omega) (by omega) (by rw [hs3]; rfl) (by decide) ?_
    exfalso; omega
  by_cases hs4 : w = 4
  · refine r_tabIn (tgt := 92) (off := 91) iX7_many_1 (by omega) (by omega) (by omega) (by rw [hs4]; rfl) (by decide) ?_
    exfalso; omega
  by_cases hs5 : w = 5
  · refine r_tabIn (tgt := 108) (off := 107) iX7_many_1 (by omega) (by omega) (by omega) (by rw [hs5]; rfl) (by decide) ?_
    exfalso; omega
  by_cases hs6 : w = 6
  · refine r_tabIn (tgt := 124) (off := 123) iX7_many_1 (by omega) (by omega) (by omega) (by rw [hs6]; rfl) (by decide) ?_
    refine r_aldn iX7_many_124 rfl ?_
    refine r_getr iX7_many_125 flX7_22 rfl rfl ?_
    refine r_aldn iX7_many_128 rfl ?_
    refine r_getr iX7_many_129 flX7_12 rfl rfl ?_
    refine r_aldn iX7_many_132 rfl ?_
    refine call_V0p iX7_many_133 clX7_103 myX7_foundWays rfl rfl rfl rfl (sX7_foundWays _ hF hN) (fun r133 M133 h133 => ?_)
    obtain ⟨e1, e2⟩ := h133
    subst e1
    have hN1 := e2.nb hN
    have hA1 := e2.av hN hA
    refine call_V2i iX7_many_136 clX7_221 myX4_fits rfl rfl rfl rfl (sX4_fits _ b hb (hbb _ e2) (by rw [e2.k (k := 23) (by omega)]; exact hH) hA1 hN1) ?_
    refine r_ifeq iX7_many_139 (by omega) (fun h139 => ?_) (fun h139 => ?_)
    · refine r_con iX7_many_146 ?_
      refine r_iret iX7_many_147 rfl ?_
      exact ⟨by congr 2; omega, e2⟩
    · refine r_con iX7_many_142 ?_
      refine r_goto iX7_many_143 ?_
      refine r_iret iX7_many_147 rfl ?_
      exact ⟨by congr 2; omega, e2⟩
  by_cases hs7 : w = 7
  · refine r_tabIn (tgt := 148) (off := 147) iX7_many_1 (by omega) (by omega) (by omega) (by rw [hs7]; rfl) (by decide) ?_
    exfalso; omega
  by_cases hs8 : w = 8
  · refine r_tabIn (tgt := 156) (off := 155) iX7_many_1 (by omega) (by omega) (by omega) (by rw [hs8]; rfl) (by decide) ?_
    exfalso; omega
  refine r_tabOut (tgt := 164) iX7_many_1 (by omega) (by omega) (by decide) ?_
  exfalso; omega
end CF
