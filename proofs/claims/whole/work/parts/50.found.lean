/-! the class: its ways found -/
def FO (M : Mem) : Prop := (∀ r, 0 ≤ r → r < 20 → M 35 r = 1) ∧ (∀ l, 0 ≤ l → l < 5 → M 32 l = 0 ∨ M 32 l = 1) ∧ (∀ l, 0 ≤ l → l < M 1 2 → M 32 l = 1 → WL M l)
def FD (M M' : Mem) : Prop := (∀ l, 0 ≤ l → l < M 1 2 → WL M' l ∧ M' 32 l = 1) ∧ (∀ l, 5 ≤ l ∨ M 1 2 ≤ l → M' 32 l = M 32 l) ∧ Fw M M'
theorem FD.k {M M' : Mem} (h : FD M M') {k : Nat} (h1 : k < 28 ∨ 37 ≤ k ∨ k = 33 ∨ k = 35) : M' k = M k := h.2.2 k (by omega) (by omega) (by omega) (by omega) (by omega) (by omega) (by omega)
theorem FD.nb {M M' : Mem} (h : FD M M') (hN : NB M) : NB M' := by
  unfold NB
  rw [h.k (k := 1) (by omega), h.k (k := 2) (by omega), h.k (k := 3) (by omega), h.k (k := 4) (by omega), h.k (k := 5) (by omega), h.k (k := 6) (by omega), h.k (k := 7) (by omega), h.k (k := 8) (by omega), h.k (k := 9) (by omega), h.k (k := 10) (by omega)]
  exact hN
theorem WL.cnt {M : Mem} {l : Int} (h : WL M l) : 0 ≤ M 28 l ∧ M 28 l ≤ 8 := by
  have := wsL_len (M 1) (M 2) (M 3) (M 8 l) (M 9 l)
  rw [h.1]
  omega
section CA
variable {g : Gt} {M : Mem}
theorem sX7_foundWays (d : Nat) (hF : FO M) (hN : NB M) : Ex LyC g (d + 13) mX7_foundWays [vr 0] M (fun r M' => r = some (vr 27) ∧ FD M M') := by
  refine Ex.in [some (vr 0)] (by decide +kernel) rfl (Nat.le_of_ble_eq_true rfl) ?_ rfl
  refine r_aldn iX7_foundWays_0 rfl ?_
  refine r_getr iX7_foundWays_1 flX7_32 rfl rfl ?_
  refine r_aldn iX7_foundWays_4 rfl ?_
  refine r_getr iX7_foundWays_5 flX7_12 rfl rfl ?_
  refine call_V1p iX7_foundWays_8 clX7_283 myX6_find rfl rfl rfl rfl (sX6_find _ M hF.1 hF.2.1 hF.2.2 hN) (fun r8 M8 h8 => ?_)
  obtain ⟨e1, e2, e3, e4⟩ := h8
  subst e1
  refine r_aldn iX7_foundWays_11 rfl ?_
  refine r_getr iX7_foundWays_12 flX7_32 rfl rfl ?_
  refine r_aret iX7_foundWays_15 rfl ?_
  exact ⟨rfl, e2, e3, e4⟩
theorem sX7_refusalOfWay_x (d : Nat) (l i : Int) (hlr : -2147483648 ≤ l ∧ l ≤ 2147483647) (h : ¬ (0 ≤ l ∧ l < M 1 2)) (hN : NB M) : Ex LyC g (d + 14) mX7_refusalOfWay [vr 0, vi l, vi i] M (PI (-1) M) := by
  refine Ex.in [some (vr 0), some (vi l), some (vi i)] (by decide +kernel) rfl (Nat.le_of_ble_eq_true rfl) ?_ rfl
  obtain ⟨hp0, hr, hl, hR, hL⟩ := id hN
  refine r_aldn iX7_refusalOfWay_0 rfl ?_
  refine r_getr iX7_refusalOfWay_1 flX7_12 rfl rfl ?_
  refine r_ldn iX7_refusalOfWay_4 rfl ?_
  refine call_V1i iX7_refusalOfWay_5 clX7_124 myX3_hasLoad rfl rfl rfl rfl (sX3_hasLoad _ _ (by omega) hN) ?_
  refine r_ifne iX7_refusalOfWay_8 (by split <;> omega) (fun h8 => ?_) (fun h8 => ?_)
  · rw [ne_eq, ite10n] at h8
    exact absurd h8 h
  · rw [ite10] at h8
    refine r_con iX7_refusalOfWay_11 ?_
    refine r_iret iX7_refusalOfWay_12 rfl ?_
    exact ⟨rfl, rfl⟩
theorem sX7_refusalOfWay_o (d : Nat) (l i : Int) (hir : -2147483648 ≤ i ∧ i ≤ 2147483647) (h : 0 ≤ l ∧ l < M 1 2) (hF : FO M) (hN : NB M) : Ex LyC g (d + 14) mX7_refusalOfWay [vr 0, vi l, vi i] M (fun r M' => r = some (vi (if 0 ≤ i ∧ i < M' 28 l then 0 else -4)) ∧ FD M M') := by
  refine Ex.in [some (vr 0), some (vi l), some (vi i)] (by decide +kernel) rfl (Nat.le_of_ble_eq_true rfl) ?_ rfl
  obtain ⟨hp0, hr, hl, hR, hL⟩ := id hN
  refine r_aldn iX7_refusalOfWay_0 rfl ?_
  refine r_getr iX7_refusalOfWay_1 flX7_12 rfl rfl ?_
  refine r_ldn iX7_refusalOfWay_4 rfl ?_
  refine call_V1i iX7_refusalOfWay_5 clX7_124 myX3_hasLoad rfl rfl rfl rfl (sX3_hasLoad _ _ (by omega) hN) ?_
  refine r_ifne iX7_refusalOfWay_8 (by split <;> omega) (fun h8 => ?_) (fun h8 => ?_)
  · rw [ne_eq, ite10n] at h8
    refine r_aldn iX7_refusalOfWay_13 rfl ?_
    refine call_V0p iX7_refusalOfWay_14 clX7_103 myX7_foundWays rfl rfl rfl rfl (sX7_foundWays _ hF hN) (fun r14 M14 h14 => ?_)
    obtain ⟨e1, e2⟩ := h14
    subst e1
    refine r_ldn iX7_refusalOfWay_17 rfl ?_
    refine r_ldn iX7_refusalOfWay_18 rfl ?_
    refine call_V2i iX7_refusalOfWay_19 clX7_133 myX6_has rfl rfl rfl rfl (sX6_has _ _ _ (by omega) (by omega) (e2.1 l h.1 h.2).1.cnt) ?_
    refine r_ifeq iX7_refusalOfWay_22 (by split <;> omega) (fun h22 => ?_) (fun h22 => ?_)
    · rw [ite10] at h22
      refine r_bip iX7_refusalOfWay_29 (by decide) ?_
      refine r_iret iX7_refusalOfWay_31 rfl ?_
      exact ⟨by rw [if_neg h22], e2⟩
    · rw [ne_eq, ite10n] at h22
      refine r_con iX7_refusalOfWay_25 ?_
      refine r_goto iX7_refusalOfWay_26 ?_
      refine r_iret iX7_refusalOfWay_31 rfl ?_
      exact ⟨by rw [if_pos h22], e2⟩
  · rw [ite10] at h8
    exact absurd h h8
end CA
