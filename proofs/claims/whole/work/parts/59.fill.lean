/-! the class: fill, buy -/
section CI
variable {g : Gt} {M : Mem}
theorem sX7_fill_x (d : Nat) (l : Int) (hlr : -2147483648 ≤ l ∧ l ≤ 2147483647) (h : ¬ (0 ≤ l ∧ l < M 1 2)) (hN : NB M) : Ex LyC g (d + 15) mX7_fill [vr 0, vi l] M (PI (-1) M) := by
  refine Ex.in [some (vr 0), some (vi l)] (by decide +kernel) rfl (Nat.le_of_ble_eq_true rfl) ?_ rfl
  obtain ⟨hp0, hr, hl, hR, hL⟩ := id hN
  refine r_aldn iX7_fill_0 rfl ?_
  refine r_getr iX7_fill_1 flX7_12 rfl rfl ?_
  refine r_ldn iX7_fill_4 rfl ?_
  refine call_V1i iX7_fill_5 clX7_124 myX3_hasLoad rfl rfl rfl rfl (sX3_hasLoad _ _ (by omega) hN) ?_
  refine r_ifne iX7_fill_8 (by split <;> omega) (fun h8 => ?_) (fun h8 => ?_)
  · rw [ne_eq, ite10n] at h8
    exact absurd h8 h
  · rw [ite10] at h8
    refine r_con iX7_fill_11 ?_
    refine r_iret iX7_fill_12 rfl ?_
    exact ⟨rfl, rfl⟩
theorem sX7_fill_2y (d : Nat) (l : Int) (h : 0 ≤ l ∧ l < M 1 2) (hh : 0 ≤ M 23 l ∧ M 23 l ≤ 7) (hc : ∀ M1, FD M M1 → M1 23 l < M1 28 l) (hk : M 7 l = 2) (hA : AZ M) (hF : FO M) (hN : NB M) : Ex LyC g (d + 15) mX7_fill [vr 0, vi l] M (fun q M' => ∃ M1, FD M M1 ∧ q = some (vi ((if frC (M1 22) (M1 30) (M1 4) (M1 29) (M1 31) (8 * l + M1 23 l) < (if 0 < M1 10 l - ttC (M1 22) l then M1 10 l - ttC (M1 22) l else 0) then frC (M1 22) (M1 30) (M1 4) (M1 29) (M1 31) (8 * l + M1 23 l) else (if 0 < M1 10 l - ttC (M1 22) l then M1 10 l - ttC (M1 22) l else 0)))) ∧ M' = mset M1 22 (fset (M1 22) (8 * l + M1 23 l) (M1 22 (8 * l + M1 23 l) + (if frC (M1 22) (M1 30) (M1 4) (M1 29) (M1 31) (8 * l + M1 23 l) < (if 0 < M1 10 l - ttC (M1 22) l then M1 10 l - ttC (M1 22) l else 0) then frC (M1 22) (M1 30) (M1 4) (M1 29) (M1 31) (8 * l + M1 23 l) else (if 0 < M1 10 l - ttC (M1 22) l then M1 10 l - ttC (M1 22) l else 0))))) := by
  refine Ex.in [some (vr 0), some (vi l)] (by decide +kernel) rfl (Nat.le_of_ble_eq_true rfl) ?_ rfl
  obtain ⟨hp0, hr, hl, hR, hL⟩ := id hN
  have hll := hL l h.1 h.2
  refine r_aldn iX7_fill_0 rfl ?_
  refine r_getr iX7_fill_1 flX7_12 rfl rfl ?_
  refine r_ldn iX7_fill_4 rfl ?_
  refine call_V1i iX7_fill_5 clX7_124 myX3_hasLoad rfl rfl rfl rfl (sX3_hasLoad _ _ (by omega) hN) ?_
  refine r_ifne iX7_fill_8 (by split <;> omega) (fun h8 => ?_) (fun h8 => ?_)
  · rw [ne_eq, ite10n] at h8
    refine r_aldn iX7_fill_13 rfl ?_
    refine r_getr iX7_fill_14 flX7_12 rfl rfl ?_
    refine r_getr iX7_fill_17 flX7_130 rfl rfl ?_
    refine r_ldn iX7_fill_20 rfl ?_
    refine r_ial iX7_fill_21 rfl (by omega) ?_
    by_cases hs1 : M 7 l = 1
    · refine r_look (tgt := 65) (off := 43) iX7_fill_22 (by omega) (by decide) (by rw [hs1]; rfl) (by decide) ?_
      exfalso; omega
    by_cases hs2 : M 7 l = 2
    · refine r_look (tgt := 48) (off := 26) iX7_fill_22 (by omega) (by decide) (by rw [hs2]; rfl) (by decide) ?_
      refine r_aldn iX7_fill_48 rfl ?_
      refine r_getr iX7_fill_49 flX7_22 rfl rfl ?_
      refine r_aldn iX7_fill_52 rfl ?_
      refine r_getr iX7_fill_53 flX7_12 rfl rfl ?_
      refine r_aldn iX7_fill_56 rfl ?_
      refine call_V0p iX7_fill_57 clX7_103 myX7_foundWays rfl rfl rfl rfl (sX7_foundWays _ hF hN) (fun r57 M57 h57 => ?_)
      obtain ⟨e1, e2⟩ := h57
      subst e1
      have hN1 := e2.nb hN
      have hA1 := e2.av hN hA
      have hW1 := e2.wb hN
      have hl1 : M57 1 2 = M 1 2 := by rw [e2.k (k := 1) (by omega)]
      have hr1 : M57 1 1 = M 1 1 := by rw [e2.k (k := 1) (by omega)]
      refine r_ldn iX7_fill_60 rfl ?_
      refine call_V3i iX7_fill_61 clX7_189 myX4_fillHeld rfl rfl rfl rfl (sX4_fillHeld_y _ _ (by omega) (by rw [e2.k (k := 23) (by omega)]; exact hh) (hc _ e2) hW1 hA1 hN1) ?_
      refine r_iret iX7_fill_64 rfl ?_
      exact ⟨_, e2, rfl, rfl⟩
    have hsd : M 7 l = 0 := by omega
    refine r_look (tgt := 82) (off := 60) iX7_fill_22 (by omega) (by decide) (by rw [hsd]; rfl) (by decide) ?_
    exfalso; omega
  · rw [ite10] at h8
    exact absurd h h8
theorem sX7_fill_2n (d : Nat) (l : Int) (h : 0 ≤ l ∧ l < M 1 2) (hh : 0 ≤ M 23 l ∧ M 23 l ≤ 7) (hc : ∀ M1, FD M M1 → M1 28 l ≤ M1 23 l) (hk : M 7 l = 2) (hA : AZ M) (hF : FO M) (hN : NB M) : Ex LyC g (d + 15) mX7_fill [vr 0, vi l] M (fun q M' => ∃ M1, FD M M1 ∧ q = some (vi (0)) ∧ M' = M1) := by
  refine Ex.in [some (vr 0), some (vi l)] (by decide +kernel) rfl (Nat.le_of_ble_eq_true rfl) ?_ rfl
  obtain ⟨hp0, hr, hl, hR, hL⟩ := id hN
  have hll := hL l h.1 h.2
  refine r_aldn iX7_fill_0 rfl ?_
  refine r_getr iX7_fill_1 flX7_12 rfl rfl ?_
  refine r_ldn iX7_fill_4 rfl ?_
  refine call_V1i iX7_fill_5 clX7_124 myX3_hasLoad rfl rfl rfl rfl (sX3_hasLoad _ _ (by omega) hN) ?_
  refine r_ifne iX7_fill_8 (by split <;> omega) (fun h8 => ?_) (fun h8 => ?_)
  · rw [ne_eq, ite10n] at h8
    refine r_aldn iX7_fill_13 rfl ?_
    refine r_getr iX7_fill_14 flX7_12 rfl rfl ?_
    refine r_getr iX7_fill_17 flX7_130 rfl rfl ?_
    refine r_ldn iX7_fill_20 rfl ?_
    refine r_ial iX7_fill_21 rfl (by omega) ?_
    by_cases hs1 : M 7 l = 1
    · refine r_look (tgt := 65) (off := 43) iX7_fill_22 (by omega) (by decide) (by rw [hs1]; rfl) (by decide) ?_
      exfalso; omega
    by_cases hs2 : M 7 l = 2
    · refine r_look (tgt := 48) (off := 26) iX7_fill_22 (by omega) (by decide) (by rw [hs2]; rfl) (by decide) ?_
      refine r_aldn iX7_fill_48 rfl ?_
      refine r_getr iX7_fill_49 flX7_22 rfl rfl ?_
      refine r_aldn iX7_fill_52 rfl ?_
      refine r_getr iX7_fill_53 flX7_12 rfl rfl ?_
      refine r_aldn iX7_fill_56 rfl ?_
      refine call_V0p iX7_fill_57 clX7_103 myX7_foundWays rfl rfl rfl rfl (sX7_foundWays _ hF hN) (fun r57 M57 h57 => ?_)
      obtain ⟨e1, e2⟩ := h57
      subst e1
      have hN1 := e2.nb hN
      have hA1 := e2.av hN hA
      have hW1 := e2.wb hN
      have hl1 : M57 1 2 = M 1 2 := by rw [e2.k (k := 1) (by omega)]
      have hr1 : M57 1 1 = M 1 1 := by rw [e2.k (k := 1) (by omega)]
      refine r_ldn iX7_fill_60 rfl ?_
      refine call_V3i iX7_fill_61 clX7_189 myX4_fillHeld rfl rfl rfl rfl (sX4_fillHeld_n _ _ (by omega) (by rw [e2.k (k := 23) (by omega)]; exact hh) (hc _ e2) hW1 hA1 hN1) ?_
      refine r_iret iX7_fill_64 rfl ?_
      exact ⟨_, e2, rfl, rfl⟩
    have hsd : M 7 l = 0 := by omega
    refine r_look (tgt := 82) (off := 60) iX7_fill_22 (by omega) (by decide) (by rw [hsd]; rfl) (by decide) ?_
    exfalso; omega
  · rw [ite10] at h8
    exact absurd h h8
theorem sX7_fill_1n (d : Nat) (l : Int) (h : 0 ≤ l ∧ l < M 1 2) (hc : ptC (M 22) l ≠ 0) (hk : M 7 l = 1) (hA : AZ M) (hF : FO M) (hN : NB M) : Ex LyC g (d + 15) mX7_fill [vr 0, vi l] M (fun q M' => ∃ M1, FD M M1 ∧ q = some (vi (0)) ∧ M' = M1) := by
  refine Ex.in [some (vr 0), some (vi l)] (by decide +kernel) rfl (Nat.le_of_ble_eq_true rfl) ?_ rfl
  obtain ⟨hp0, hr, hl, hR, hL⟩ := id hN
  have hll := hL l h.1 h.2
  refine r_aldn iX7_fill_0 rfl ?_
  refine r_getr iX7_fill_1 flX7_12 rfl rfl ?_
  refine r_ldn iX7_fill_4 rfl ?_
  refine call_V1i iX7_fill_5 clX7_124 myX3_hasLoad rfl rfl rfl rfl (sX3_hasLoad _ _ (by omega) hN) ?_
  refine r_ifne iX7_fill_8 (by split <;> omega) (fun h8 => ?_) (fun h8 => ?_)
  · rw [ne_eq, ite10n] at h8
    refine r_aldn iX7_fill_13 rfl ?_
    refine r_getr iX7_fill_14 flX7_12 rfl rfl ?_
    refine r_getr iX7_fill_17 flX7_130 rfl rfl ?_
    refine r_ldn iX7_fill_20 rfl ?_
    refine r_ial iX7_fill_21 rfl (by omega) ?_
    by_cases hs1 : M 7 l = 1
    · refine r_look (tgt := 65) (off := 43) iX7_fill_22 (by omega) (by decide) (by rw [hs1]; rfl) (by decide) ?_
      refine r_aldn iX7_fill_65 rfl ?_
      refine r_getr iX7_fill_66 flX7_22 rfl rfl ?_
      refine r_aldn iX7_fill_69 rfl ?_
      refine r_getr iX7_fill_70 flX7_12 rfl rfl ?_
      refine r_aldn iX7_fill_73 rfl ?_
      refine call_V0p iX7_fill_74 clX7_103 myX7_foundWays rfl rfl rfl rfl (sX7_foundWays _ hF hN) (fun r74 M74 h74 => ?_)
      obtain ⟨e1, e2⟩ := h74
      subst e1
      have hN1 := e2.nb hN
      have hA1 := e2.av hN hA
      have hW1 := e2.wb hN
      have hl1 : M74 1 2 = M 1 2 := by rw [e2.k (k := 1) (by omega)]
      have hr1 : M74 1 1 = M 1 1 := by rw [e2.k (k := 1) (by omega)]
      refine r_ldn iX7_fill_77 rfl ?_
      refine call_V3i iX7_fill_78 clX7_192 myX4_fillOne rfl rfl rfl rfl (sX4_fillOne_n _ _ (by omega) (by rw [e2.k (k := 22) (by omega)]; exact hc) hA1 hN1) ?_
      refine r_iret iX7_fill_81 rfl ?_
      exact ⟨_, e2, rfl, rfl⟩
    by_cases hs2 : M 7 l = 2
    · refine r_look (tgt := 48) (off := 26) iX7_fill_22 (by omega) (by decide) (by rw [hs2]; rfl) (by decide) ?_
      exfalso; omega
    have hsd : M 7 l = 0 := by omega
    refine r_look (tgt := 82) (off := 60) iX7_fill_22 (by omega) (by decide) (by rw [hsd]; rfl) (by decide) ?_
    exfalso; omega
  · rw [ite10] at h8
    exact absurd h h8
theorem sX7_fill_1y (d : Nat) (l : Int) (h : 0 ≤ l ∧ l < M 1 2) (hc : ptC (M 22) l = 0) (hk : M 7 l = 1) (hA : AZ M) (hF : FO M) (hN : NB M) : Ex LyC g (d + 15) mX7_fill [vr 0, vi l] M (fun q M' => ∃ M1, FD M M1 ∧ q = some (vi (if 0 ≤ (fpt (fun i => if M1 10 l ≤ frC (M1 22) (M1 30) (M1 4) (M1 29) (M1 31) (8 * l + i) then (1 : Int) else 0) (M1 28 l).toNat) then M1 10 l else 0)) ∧ M' = if 0 ≤ (fpt (fun i => if M1 10 l ≤ frC (M1 22) (M1 30) (M1 4) (M1 29) (M1 31) (8 * l + i) then (1 : Int) else 0) (M1 28 l).toNat) then mset M1 22 (fset (M1 22) (8 * l + (fpt (fun i => if M1 10 l ≤ frC (M1 22) (M1 30) (M1 4) (M1 29) (M1 31) (8 * l + i) then (1 : Int) else 0) (M1 28 l).toNat)) (M1 10 l)) else M1) := by
  refine Ex.in [some (vr 0), some (vi l)] (by decide +kernel) rfl (Nat.le_of_ble_eq_true rfl) ?_ rfl
  obtain ⟨hp0, hr, hl, hR, hL⟩ := id hN
  have hll := hL l h.1 h.2
  refine r_aldn iX7_fill_0 rfl ?_
  refine r_getr iX7_fill_1 flX7_12 rfl rfl ?_
  refine r_ldn iX7_fill_4 rfl ?_
  refine call_V1i iX7_fill_5 clX7_124 myX3_hasLoad rfl rfl rfl rfl (sX3_hasLoad _ _ (by omega) hN) ?_
  refine r_ifne iX7_fill_8 (by split <;> omega) (fun h8 => ?_) (fun h8 => ?_)
  · rw [ne_eq, ite10n] at h8
    refine r_aldn iX7_fill_13 rfl ?_
    refine r_getr iX7_fill_14 flX7_12 rfl rfl ?_
    refine r_getr iX7_fill_17 flX7_130 rfl rfl ?_
    refine r_ldn iX7_fill_20 rfl ?_
    refine r_ial iX7_fill_21 rfl (by omega) ?_
    by_cases hs1 : M 7 l = 1
    · refine r_look (tgt := 65) (off := 43) iX7_fill_22 (by omega) (by decide) (by rw [hs1]; rfl) (by decide) ?_
      refine r_aldn iX7_fill_65 rfl ?_
      refine r_getr iX7_fill_66 flX7_22 rfl rfl ?_
      refine r_aldn iX7_fill_69 rfl ?_
      refine r_getr iX7_fill_70 flX7_12 rfl rfl ?_
      refine r_aldn iX7_fill_73 rfl ?_
      refine call_V0p iX7_fill_74 clX7_103 myX7_foundWays rfl rfl rfl rfl (sX7_foundWays _ hF hN) (fun r74 M74 h74 => ?_)
      obtain ⟨e1, e2⟩ := h74
      subst e1
      have hN1 := e2.nb hN
      have hA1 := e2.av hN hA
      have hW1 := e2.wb hN
      have hl1 : M74 1 2 = M 1 2 := by rw [e2.k (k := 1) (by omega)]
      have hr1 : M74 1 1 = M 1 1 := by rw [e2.k (k := 1) (by omega)]
      refine r_ldn iX7_fill_77 rfl ?_
      refine call_V3i iX7_fill_78 clX7_192 myX4_fillOne rfl rfl rfl rfl (sX4_fillOne_y _ _ (by omega) (by rw [e2.k (k := 22) (by omega)]; exact hc) hW1 hA1 hN1) ?_
      refine r_iret iX7_fill_81 rfl ?_
      exact ⟨_, e2, rfl, rfl⟩
    by_cases hs2 : M 7 l = 2
    · refine r_look (tgt := 48) (off := 26) iX7_fill_22 (by omega) (by decide) (by rw [hs2]; rfl) (by decide) ?_
      exfalso; omega
    have hsd : M 7 l = 0 := by omega
    refine r_look (tgt := 82) (off := 60) iX7_fill_22 (by omega) (by decide) (by rw [hsd]; rfl) (by decide) ?_
    exfalso; omega
  · rw [ite10] at h8
    exact absurd h h8
theorem sX7_fill_0 (d : Nat) (l : Int) (h : 0 ≤ l ∧ l < M 1 2) (hk : M 7 l = 0) (hA : AZ M) (hF : FO M) (hN : NB M) : Ex LyC g (d + 15) mX7_fill [vr 0, vi l] M (fun q M' => ∃ M1, FD M M1 ∧ q = some (vi ((fls (fun am s => frC am (M1 30) (M1 4) (M1 29) (M1 31) s) (8 * l) (if 0 < M1 10 l - ttC (M1 22) l then M1 10 l - ttC (M1 22) l else 0) (M1 22) (M1 28 l).toNat).2)) ∧ M' = mset M1 22 (fls (fun am s => frC am (M1 30) (M1 4) (M1 29) (M1 31) s) (8 * l) (if 0 < M1 10 l - ttC (M1 22) l then M1 10 l - ttC (M1 22) l else 0) (M1 22) (M1 28 l).toNat).1) := by
  refine Ex.in [some (vr 0), some (vi l)] (by decide +kernel) rfl (Nat.le_of_ble_eq_true rfl) ?_ rfl
  obtain ⟨hp0, hr, hl, hR, hL⟩ := id hN
  have hll := hL l h.1 h.2
  refine r_aldn iX7_fill_0 rfl ?_
  refine r_getr iX7_fill_1 flX7_12 rfl rfl ?_
  refine r_ldn iX7_fill_4 rfl ?_
  refine call_V1i iX7_fill_5 clX7_124 myX3_hasLoad rfl rfl rfl rfl (sX3_hasLoad _ _ (by omega) hN) ?_
  refine r_ifne iX7_fill_8 (by split <;> omega) (fun h8 => ?_) (fun h8 => ?_)
  · rw [ne_eq, ite10n] at h8
    refine r_aldn iX7_fill_13 rfl ?_
    refine r_getr iX7_fill_14 flX7_12 rfl rfl ?_
    refine r_getr iX7_fill_17 flX7_130 rfl rfl ?_
    refine r_ldn iX7_fill_20 rfl ?_
    refine r_ial iX7_fill_21 rfl (by omega) ?_
    by_cases hs1 : M 7 l = 1
    · refine r_look (tgt := 65) (off := 43) iX7_fill_22 (by omega) (by decide) (by rw [hs1]; rfl) (by decide) ?_
      exfalso; omega
    by_cases hs2 : M 7 l = 2
    · refine r_look (tgt := 48) (off := 26) iX7_fill_22 (by omega) (by decide) (by rw [hs2]; rfl) (by decide) ?_
      exfalso; omega
    have hsd : M 7 l = 0 := by omega
    refine r_look (tgt := 82) (off := 60) iX7_fill_22 (by omega) (by decide) (by rw [hsd]; rfl) (by decide) ?_
    refine r_aldn iX7_fill_82 rfl ?_
    refine r_getr iX7_fill_83 flX7_22 rfl rfl ?_
    refine r_aldn iX7_fill_86 rfl ?_
    refine r_getr iX7_fill_87 flX7_12 rfl rfl ?_
    refine r_aldn iX7_fill_90 rfl ?_
    refine call_V0p iX7_fill_91 clX7_103 myX7_foundWays rfl rfl rfl rfl (sX7_foundWays _ hF hN) (fun r91 M91 h91 => ?_)
    obtain ⟨e1, e2⟩ := h91
    subst e1
    have hN1 := e2.nb hN
    have hA1 := e2.av hN hA
    have hW1 := e2.wb hN
    have hl1 : M91 1 2 = M 1 2 := by rw [e2.k (k := 1) (by omega)]
    have hr1 : M91 1 1 = M 1 1 := by rw [e2.k (k := 1) (by omega)]
    refine r_ldn iX7_fill_94 rfl ?_
    refine call_V3i iX7_fill_95 clX7_195 myX4_fillParted rfl rfl rfl rfl (sX4_fillParted _ _ (by omega) hW1 hA1 hN1) ?_
    refine r_iret iX7_fill_98 rfl ?_
    exact ⟨_, e2, rfl, rfl⟩
  · rw [ite10] at h8
    exact absurd h h8
theorem sX7_buy_x (d : Nat) (rx : Int) (hx : 0 ≤ rx ∧ rx < M 1 1) (hb : ∀ M1, FD M M1 → 100 < usC (M1 22) (M1 30) rx) (hA : AZ M) (hF : FO M) (hN : NB M) : Ex LyC g (d + 15) mX7_buy [vr 0] M (fun q M' => q = some (vi (-5)) ∧ FD M M') := by
  refine Ex.in [some (vr 0), none, none, none, none] (by decide +kernel) rfl (Nat.le_of_ble_eq_true rfl) ?_ rfl
  obtain ⟨hp0, hr, hl, hR, hL⟩ := id hN
  have L : ∀ (n9 : Nat) (M1 : Mem) (e2 : FD M M1) (i : Int), (NB M1) → (AV M1) → (M1 1 1 = M 1 1) → (0 ≤ i) → (i ≤ rx) → M1 1 1 - i < n9 → R LyC g mX7_buy (d + 15) 7 [some (vr 0), some (vr 27), some (vi i), none, none] [] M1 (fun q M' => q = some (vi (-5)) ∧ FD M M') := by
    intro n9
    induction n9 with
    | zero =>
      intro M1 e2 i hN1 hA1 hr1 h0 h1 hm9
      omega
    | succ n9 ih =>
      intro M1 e2 i hN1 hA1 hr1 h0 h1 hm9
      refine r_ldn iX7_buy_7 rfl ?_
      refine r_aldn iX7_buy_8 rfl ?_
      refine r_getr iX7_buy_9 flX7_12 rfl rfl ?_
      refine r_geti 1 iX7_buy_12 flX7_78 rfl rfl rfl rfl ?_
      refine r_cge iX7_buy_15 (by omega) (fun h15 => ?_) (fun h15 => ?_)
      · exfalso; omega
      · refine r_aldn iX7_buy_18 rfl ?_
        refine r_getr iX7_buy_19 flX7_22 rfl rfl ?_
        refine r_aldn iX7_buy_22 rfl ?_
        refine r_ldn iX7_buy_23 rfl ?_
        have hub := us_bd (am := M1 22) (mk := M1 30) (fun s a b => (hA1 s a b).1) i
        refine call_V2i iX7_buy_24 clX7_107 myX4_usedOn rfl rfl rfl rfl (sX4_usedOn _ _ (by omega) hA1) ?_
        refine r_bip iX7_buy_27 (by decide) ?_
        refine r_cle iX7_buy_29 (by omega) (fun h29 => ?_) (fun h29 => ?_)
        · refine r_inc iX7_buy_35 rfl (by decide) rfl ?_
          refine r_goto iX7_buy_38 ?_
          have hbx := hb _ e2
          have hne : i ≠ rx := fun e => by rw [e] at h29; omega
          exact ih M1 e2 (i + 1) hN1 hA1 hr1 (by omega) (by omega) (by omega)
        · refine r_bip iX7_buy_32 (by decide) ?_
          refine r_iret iX7_buy_34 rfl ?_
          exact ⟨rfl, e2⟩
  refine r_aldn iX7_buy_0 rfl ?_
  refine call_V0p iX7_buy_1 clX7_103 myX7_foundWays rfl rfl rfl rfl (sX7_foundWays _ hF hN) (fun r1 M1 h1 => ?_)
  obtain ⟨e1, e2⟩ := h1
  subst e1
  have hN1 := e2.nb hN
  have hA1 := e2.av hN hA
  have hW1 := e2.wb hN
  have hl1 : M1 1 2 = M 1 2 := by rw [e2.k (k := 1) (by omega)]
  have hr1 : M1 1 1 = M 1 1 := by rw [e2.k (k := 1) (by omega)]
  refine r_astn iX7_buy_4 (by decide) rfl ?_
  refine r_con iX7_buy_5 ?_
  refine r_stn iX7_buy_6 (by decide) rfl ?_
  exact L 21 _ e2 0 hN1 hA1 hr1 (by omega) (by omega) (by omega)
theorem ini_at {f v : Int → Int} {i : Int} : ini f v i i = f i := by
  unfold ini
  rw [if_neg (by omega)]
theorem ov_ini {am mk f v : Int → Int} {i : Int} : ovC am mk (ini f v i) i = ovC am mk f i := by
  unfold ovC
  rw [ini_at]
theorem NB_rooms {M : Mem} {f : Int → Int} (hN : NB M) (h : ∀ r, 0 ≤ r → r < M 1 1 → 0 ≤ f r ∧ f r ≤ 100) : NB (mset M 4 f) := by
  obtain ⟨hp0, hr, hl, hR, hL⟩ := hN
  exact ⟨hp0, hr, hl, fun r a b => ⟨(hR r a b).1, h r a b, (hR r a b).2.2⟩, hL⟩
theorem sX7_buy_o (d : Nat) (hb : ∀ M1, FD M M1 → ∀ r, 0 ≤ r → r < M 1 1 → usC (M1 22) (M1 30) r ≤ 100) (hA : AZ M) (hF : FO M) (hN : NB M) : Ex LyC g (d + 15) mX7_buy [vr 0] M (fun q M' => ∃ M1, FD M M1 ∧ q = some (vi (sg (fun r => ovC (M1 22) (M1 30) (M1 4) r) (M1 1 1))) ∧ M' = mset M1 4 (ini (M1 4) (fun r => M1 4 r + ovC (M1 22) (M1 30) (M1 4) r) (M1 1 1))) := by
  refine Ex.in [some (vr 0), none, none, none, none] (by decide +kernel) rfl (Nat.le_of_ble_eq_true rfl) ?_ rfl
  obtain ⟨hp0, hr, hl, hR, hL⟩ := id hN
  have K : ∀ (n9 : Nat) (M1 : Mem) (e2 : FD M M1) (i : Int) (w4 : Option MV), (NB M1) → (AV M1) → (M1 1 1 = M 1 1) → (∀ r, 0 ≤ r → r < M 1 1 → usC (M1 22) (M1 30) r ≤ 100) → (0 ≤ i) → (i ≤ M1 1 1) → M1 1 1 - i < n9 → R LyC g mX7_buy (d + 15) 45 [some (vr 0), some (vr 27), some (vi (sg (fun r => ovC (M1 22) (M1 30) (M1 4) r) i)), some (vi i), w4] [] (mset M1 4 (ini (M1 4) (fun r => M1 4 r + ovC (M1 22) (M1 30) (M1 4) r) i)) (fun q M' => ∃ M1, FD M M1 ∧ q = some (vi (sg (fun r => ovC (M1 22) (M1 30) (M1 4) r) (M1 1 1))) ∧ M' = mset M1 4 (ini (M1 4) (fun r => M1 4 r + ovC (M1 22) (M1 30) (M1 4) r) (M1 1 1))) := by
    intro n9
    induction n9 with
    | zero =>
      intro M1 e2 i w4 hN1 hA1 hr1 hu h0 h1 hm9
      omega
    | succ n9 ih =>
      intro M1 e2 i w4 hN1 hA1 hr1 hu h0 h1 hm9
      refine r_ldn iX7_buy_45 rfl ?_
      refine r_aldn iX7_buy_46 rfl ?_
      refine r_getr iX7_buy_47 flX7_12 rfl rfl ?_
      refine r_geti 1 iX7_buy_50 flX7_78 rfl rfl rfl rfl ?_
      try simp only [mset_s, mset_n, mset_mset, ne_eq, Nat.reduceEqDiff, not_false_eq_true]
      refine r_cge iX7_buy_53 (by omega) (fun h53 => ?_) (fun h53 => ?_)
      · refine r_ldn iX7_buy_96 rfl ?_
        refine r_iret iX7_buy_97 rfl ?_
        have hi : i = M1 1 1 := by omega
        rw [hi]
        exact ⟨M1, e2, rfl, rfl⟩
      · have hNi : NB (mset M1 4 (ini (M1 4) (fun r => M1 4 r + ovC (M1 22) (M1 30) (M1 4) r) i)) := NB_rooms hN1 (fun r a b => by
          have q1 := hN1.2.2.2.1 r a b
          have q2 := hu r a (by omega)
          simp only [ini, ovC]
          split <;> (try split) <;> omega)
        refine r_aldn iX7_buy_56 rfl ?_
        refine r_getr iX7_buy_57 flX7_22 rfl rfl ?_
        refine r_aldn iX7_buy_60 rfl ?_
        refine r_getr iX7_buy_61 flX7_12 rfl rfl ?_
        refine r_aldn iX7_buy_64 rfl ?_
        refine r_ldn iX7_buy_65 rfl ?_
        refine call_V3i iX7_buy_66 clX7_111 myX4_overOn rfl rfl rfl rfl (sX4_overOn (M := mset M1 4 (ini (M1 4) (fun r => M1 4 r + ovC (M1 22) (M1 30) (M1 4) r) i)) _ _ (by exact ⟨h0, h53⟩) hA1 hNi) ?_
        rw [show ovC ((mset M1 4 (ini (M1 4) (fun r => M1 4 r + ovC (M1 22) (M1 30) (M1 4) r) i)) 22) ((mset M1 4 (ini (M1 4) (fun r => M1 4 r + ovC (M1 22) (M1 30) (M1 4) r) i)) 30) ((mset M1 4 (ini (M1 4) (fun r => M1 4 r + ovC (M1 22) (M1 30) (M1 4) r) i)) 4) i = ovC (M1 22) (M1 30) (M1 4) i from ov_ini]
        refine r_st iX7_buy_69 (by decide) rfl ?_
        refine r_aldn iX7_buy_71 rfl ?_
        refine r_getr iX7_buy_72 flX7_12 rfl rfl ?_
        refine r_getr iX7_buy_75 flX7_90 rfl rfl ?_
        refine r_ldn iX7_buy_78 rfl ?_
        refine r_dup2 iX7_buy_79 rfl rfl ?_
        refine r_ial iX7_buy_80 rfl (by omega) ?_
        refine r_ld iX7_buy_81 rfl ?_
        refine r_add iX7_buy_83 ?_
        refine r_ias iX7_buy_84 rfl (by omega) ?_
        refine r_ldn iX7_buy_85 rfl ?_
        refine r_ld iX7_buy_86 rfl ?_
        refine r_add iX7_buy_88 ?_
        refine r_stn iX7_buy_89 (by decide) rfl ?_
        refine r_inc iX7_buy_90 rfl (by decide) rfl ?_
        refine r_goto iX7_buy_93 ?_
        have K1 := ih M1 e2 (i + 1) (some (vi (ovC (M1 22) (M1 30) (M1 4) i))) hN1 hA1 hr1 hu (by omega) (by omega) (by omega)
        rw [sg_1 h0, ← ini_1 h0] at K1
        rw [mset_mset]
        simp only [mset_s]
        rw [ini_at]
        exact K1
  have L : ∀ (n9 : Nat) (M1 : Mem) (e2 : FD M M1) (i : Int), (NB M1) → (AV M1) → (M1 1 1 = M 1 1) → (0 ≤ i) → (i ≤ M1 1 1) → M1 1 1 - i < n9 → R LyC g mX7_buy (d + 15) 7 [some (vr 0), some (vr 27), some (vi i), none, none] [] M1 (fun q M' => ∃ M1, FD M M1 ∧ q = some (vi (sg (fun r => ovC (M1 22) (M1 30) (M1 4) r) (M1 1 1))) ∧ M' = mset M1 4 (ini (M1 4) (fun r => M1 4 r + ovC (M1 22) (M1 30) (M1 4) r) (M1 1 1))) := by
    intro n9
    induction n9 with
    | zero =>
      intro M1 e2 i hN1 hA1 hr1 h0 h1 hm9
      omega
    | succ n9 ih =>
      intro M1 e2 i hN1 hA1 hr1 h0 h1 hm9
      refine r_ldn iX7_buy_7 rfl ?_
      refine r_aldn iX7_buy_8 rfl ?_
      refine r_getr iX7_buy_9 flX7_12 rfl rfl ?_
      refine r_geti 1 iX7_buy_12 flX7_78 rfl rfl rfl rfl ?_
      refine r_cge iX7_buy_15 (by omega) (fun h15 => ?_) (fun h15 => ?_)
      · refine r_con iX7_buy_41 ?_
        refine r_stn iX7_buy_42 (by decide) rfl ?_
        refine r_con iX7_buy_43 ?_
        refine r_stn iX7_buy_44 (by decide) rfl ?_
        have K0 := K 21 M1 e2 0 none hN1 hA1 hr1 (hb _ e2) (by omega) (by omega) (by omega)
        rw [ini_0, mset_eq rfl] at K0
        exact K0
      · refine r_aldn iX7_buy_18 rfl ?_
        refine r_getr iX7_buy_19 flX7_22 rfl rfl ?_
        refine r_aldn iX7_buy_22 rfl ?_
        refine r_ldn iX7_buy_23 rfl ?_
        have hub := us_bd (am := M1 22) (mk := M1 30) (fun s a b => (hA1 s a b).1) i
        have hux := hb _ e2 i h0 (by omega)
        refine call_V2i iX7_buy_24 clX7_107 myX4_usedOn rfl rfl rfl rfl (sX4_usedOn _ _ (by omega) hA1) ?_
        refine r_bip iX7_buy_27 (by decide) ?_
        refine r_cle iX7_buy_29 (by omega) (fun h29 => ?_) (fun h29 => ?_)
        · refine r_inc iX7_buy_35 rfl (by decide) rfl ?_
          refine r_goto iX7_buy_38 ?_
          exact ih M1 e2 (i + 1) hN1 hA1 hr1 (by omega) (by omega) (by omega)
        · exfalso; omega
  refine r_aldn iX7_buy_0 rfl ?_
  refine call_V0p iX7_buy_1 clX7_103 myX7_foundWays rfl rfl rfl rfl (sX7_foundWays _ hF hN) (fun r1 M1 h1 => ?_)
  obtain ⟨e1, e2⟩ := h1
  subst e1
  have hN1 := e2.nb hN
  have hA1 := e2.av hN hA
  have hW1 := e2.wb hN
  have hl1 : M1 1 2 = M 1 2 := by rw [e2.k (k := 1) (by omega)]
  have hr1 : M1 1 1 = M 1 1 := by rw [e2.k (k := 1) (by omega)]
  refine r_astn iX7_buy_4 (by decide) rfl ?_
  refine r_con iX7_buy_5 ?_
  refine r_stn iX7_buy_6 (by decide) rfl ?_
  exact L 21 _ e2 0 hN1 hA1 hr1 (by omega) (by omega) (by omega)
end CI
