/-! the class: ones -/
/-- what ones leaves -/
def OX (M1 M' : Mem) (z : Int) : Prop := (∀ k, k ≠ 22 → (k < 39 ∨ 46 < k) → M' k = M1 k) ∧ ((z = -4 ∧ BsN (M1 1 2).toNat (fsM (M1 7) (M1 23)) (lsM (M1 7) (M1 23) (M1 28)) (fun c => feF (M1 29) (M1 31) (M1 10) (M1 4) (M1 1 2) (M1 1 1) c) 32768 ∧ M' 22 = M1 22) ∨ (0 ≤ z ∧ ∃ b, BsS (M1 1 2).toNat (fsM (M1 7) (M1 23)) (lsM (M1 7) (M1 23) (M1 28)) (fun c => coF (M1 29) (M1 31) (M1 10) (M1 5) c (M1 1 2)) (fun c => feF (M1 29) (M1 31) (M1 10) (M1 4) (M1 1 2) (M1 1 1) c) 32768 z b ∧ M' 22 = onA (fillN (M1 22) 40 0) b (M1 10) (M1 1 2).toNat))
section CO
variable {g : Gt} {M : Mem}
theorem sX7_ones_0 (d : Nat) (h : M 1 2 = 0) : Ex LyC g (d + 15) mX7_ones [vr 0] M (PI (-4) M) := by
  refine Ex.in [some (vr 0), none] (by decide +kernel) rfl (Nat.le_of_ble_eq_true rfl) ?_ rfl
  refine r_aldn iX7_ones_0 rfl ?_
  refine r_getr iX7_ones_1 flX7_12 rfl rfl ?_
  refine r_geti 2 iX7_ones_4 flX7_118 rfl rfl rfl rfl ?_
  refine r_ifeq iX7_ones_7 (by omega) (fun h7 => ?_) (fun h7 => ?_)
  · refine r_bip iX7_ones_32 (by decide) ?_
    refine r_iret iX7_ones_34 rfl ?_
    exact ⟨rfl, rfl⟩
  · exact absurd h h7
theorem sX7_ones_o (d : Nat) (h : M 1 2 ≠ 0) (hH : ∀ l, 0 ≤ l → l < M 1 2 → 0 ≤ M 23 l ∧ M 23 l ≤ 7) (hF : FO M) (hN : NB M) : Ex LyC g (d + 15) mX7_ones [vr 0] M (fun q M' => ∃ M1 z, FD M M1 ∧ q = some (vi z) ∧ OX M1 M' z) := by
  refine Ex.in [some (vr 0), none] (by decide +kernel) rfl (Nat.le_of_ble_eq_true rfl) ?_ rfl
  obtain ⟨hp0, hr, hl, hR, hL⟩ := id hN
  refine r_aldn iX7_ones_0 rfl ?_
  refine r_getr iX7_ones_1 flX7_12 rfl rfl ?_
  refine r_geti 2 iX7_ones_4 flX7_118 rfl rfl rfl rfl ?_
  refine r_ifeq iX7_ones_7 (by omega) (fun h7 => ?_) (fun h7 => ?_)
  · exfalso; omega
  · refine r_aldn iX7_ones_10 rfl ?_
    refine r_getr iX7_ones_11 flX7_46 rfl rfl ?_
    refine r_aldn iX7_ones_14 rfl ?_
    refine r_getr iX7_ones_15 flX7_12 rfl rfl ?_
    refine r_aldn iX7_ones_18 rfl ?_
    refine call_V0p iX7_ones_19 clX7_103 myX7_foundWays rfl rfl rfl rfl (sX7_foundWays _ hF hN) (fun r19 M19 h19 => ?_)
    obtain ⟨e1, e2⟩ := h19
    subst e1
    have hN1 := e2.nb hN
    have hl1 : M19 1 2 = M 1 2 := by rw [e2.k (k := 1) (by omega)]
    have hH1 : ∀ l, 0 ≤ l → l < M19 1 2 → 0 ≤ M19 23 l ∧ M19 23 l ≤ 7 := fun l a b => by rw [e2.k (k := 23) (by omega)]; exact hH l a (by omega)
    refine r_aldn iX7_ones_22 rfl ?_
    refine r_getr iX7_ones_23 flX7_22 rfl rfl ?_
    refine call_V3p iX7_ones_26 clX7_231 myX0_search rfl rfl rfl rfl (sX0_search _ hH1 (fun l a b => e2.wl a b) hN1) (fun r26 M26 h26 => ?_)
    obtain ⟨z, f1, f2, f3⟩ := h26
    subst f1
    have hz : z = 0 ∨ z = 1 := by rcases f3 with f | f; exact Or.inl f.1; exact Or.inr f.1
    refine r_ifne iX7_ones_29 (by omega) (fun h29 => ?_) (fun h29 => ?_)
    · have f3 := f3.resolve_left (fun x => h29 x.1)
      obtain ⟨_, f4, f5⟩ := f3
      have hl2 : M26 1 2 = M 1 2 := by rw [f2 1 (by omega)]; exact hl1
      have hbb : ∀ j : Int, 0 ≤ j → j < (((M19 1 2).toNat : Nat) : Int) → 0 ≤ fsM (M19 7) (M19 23) j ∧ lsM (M19 7) (M19 23) (M19 28) j ≤ 7 := fun j a b => by
        have q1 := hH1 j a (by omega)
        have q2 := (e2.wl (l := j) a (by omega)).cnt
        unfold fsM lsM
        refine ⟨?_, ?_⟩ <;> split <;> omega
      have L : ∀ (n9 : Nat) (i : Int), (0 ≤ i) → (i ≤ M26 1 2) → M26 1 2 - i < n9 → R LyC g mX7_ones (d + 15) 44 [some (vr 0), some (vi i)] [] (mset M26 22 (onA (fillN (M26 22) 40 0) (M26 40) (M26 10) i.toNat)) (fun q M' => ∃ M1 z, FD M M1 ∧ q = some (vi z) ∧ OX M1 M' z) := by
        intro n9
        induction n9 with
        | zero =>
          intro i h0 h1 hm9
          omega
        | succ n9 ih =>
          intro i h0 h1 hm9
          refine r_ldn iX7_ones_44 rfl ?_
          refine r_aldn iX7_ones_45 rfl ?_
          refine r_getr iX7_ones_46 flX7_12 rfl rfl ?_
          refine r_geti 2 iX7_ones_49 flX7_118 rfl rfl rfl rfl ?_
          try simp only [mset_n, ne_eq, Nat.reduceEqDiff, not_false_eq_true]
          refine r_cge iX7_ones_52 (by omega) (fun h52 => ?_) (fun h52 => ?_)
          · refine r_aldn iX7_ones_91 rfl ?_
            refine r_getr iX7_ones_92 flX7_46 rfl rfl ?_
            refine r_geti 0 iX7_ones_95 flX7_238 rfl rfl rfl rfl ?_
            refine r_iret iX7_ones_98 rfl ?_
            have hi : i = M26 1 2 := by omega
            rw [hi]
            refine ⟨M19, _, e2, rfl, fun k q0 q1 => ?_, Or.inr ⟨f4, _, f5, ?_⟩⟩
            · rw [mset_n q0]; exact f2 k q1
            · rw [mset_s, f2 22 (by omega), f2 10 (by omega), f2 1 (by omega)]
          · have hbi := Bx.dg hbb f5.1 i h0 (by omega)
            refine r_aldn iX7_ones_55 rfl ?_
            refine r_getr iX7_ones_56 flX7_22 rfl rfl ?_
            refine r_getr iX7_ones_59 flX7_186 rfl rfl ?_
            refine r_ldn iX7_ones_62 rfl ?_
            refine r_aldn iX7_ones_63 rfl ?_
            refine r_getr iX7_ones_64 flX7_46 rfl rfl ?_
            refine r_getr iX7_ones_67 flX7_235 rfl rfl ?_
            refine r_ldn iX7_ones_70 rfl ?_
            refine r_ial iX7_ones_71 rfl (by omega) ?_
            try simp only [mset_n, ne_eq, Nat.reduceEqDiff, not_false_eq_true]
            refine call_S2i iX7_ones_72 clX7_174 myX7_slot rfl (sX7_slot _ _ _) ?_
            refine r_aldn iX7_ones_75 rfl ?_
            refine r_getr iX7_ones_76 flX7_12 rfl rfl ?_
            refine r_getr iX7_ones_79 flX7_127 rfl rfl ?_
            refine r_ldn iX7_ones_82 rfl ?_
            refine r_ial iX7_ones_83 rfl (by omega) ?_
            try simp only [mset_n, mset_s, ne_eq, Nat.reduceEqDiff, not_false_eq_true]
            refine r_ias iX7_ones_84 rfl (by omega) ?_
            refine r_inc iX7_ones_85 rfl (by decide) rfl ?_
            refine r_goto iX7_ones_88 ?_
            have L1 := ih (i + 1) (by omega) (by omega) (by omega)
            rw [onA_1 h0] at L1
            rw [mset_mset]
            exact L1
      refine r_aldn iX7_ones_35 rfl ?_
      refine r_getr iX7_ones_36 flX7_22 rfl rfl ?_
      refine call_V0v iX7_ones_39 clX7_202 myX4_clearAmounts rfl rfl rfl rfl (sX4_clearAmounts _) ?_
      refine r_con iX7_ones_42 ?_
      refine r_stn iX7_ones_43 (by decide) rfl ?_
      exact L 6 0 (by omega) (by omega) (by omega)
    · refine r_bip iX7_ones_32 (by decide) ?_
      refine r_iret iX7_ones_34 rfl ?_
      have f3 := f3.resolve_right (fun x => by have := x.1; omega)
      exact ⟨M19, _, e2, rfl, fun k q0 q1 => f2 k q1, Or.inl ⟨rfl, f3.2, f2 22 (by omega)⟩⟩
end CO
