/-! the reference: filling, emptying -/
theorem seM_part {wm am : Int → Int} {l : Int} (h : ∀ i, 0 ≤ i → i < wm l → 0 ≤ am (8 * l + i)) {i : Int} (h0 : 0 ≤ i) (h1 : i < wm l) : am (8 * l + i) ≤ seM wm am l :=
  sm_part (f := fun i => am (8 * l + i)) (n := (wm l).toNat) (fun i h0 h1 => h i h0 (by omega)) i h0 (by omega)
theorem seM_fset {wm am : Int → Int} {l i v : Int} (h0 : 0 ≤ i) (h1 : i < wm l) : seM wm (fset am (8 * l + i) v) l = seM wm am l - am (8 * l + i) + v := by
  have e : (fun k => fset am (8 * l + i) v (8 * l + k)) = fset (fun k => am (8 * l + k)) i v := by
    funext k
    by_cases hk : k = i
    · subst hk; rw [fset_s, fset_s]
    · rw [fset_n hk, fset_n (by omega)]
  unfold seM sg
  rw [e]
  exact (sm_fset (n := (wm l).toNat) h0).1 (by omega)
section RG
variable {g : Gt} {M : Mem}
theorem sX8_cheap_x (d : Nat) (l : Int) (hlr : -2147483648 ≤ l ∧ l ≤ 2147483647) (h : ¬ (0 ≤ l ∧ l < M 0 6)) (hN : NBm M) : Ex LyM g (d + 2) mX8_cheap [vr 0, vi l] M (PI (-1) M) := by
  refine Ex.in [some (vr 0), some (vi l), none, none] (by decide +kernel) rfl (Nat.le_of_ble_eq_true rfl) ?_ rfl
  refine r_aldn iX8_cheap_0 rfl ?_
  refine r_ldn iX8_cheap_1 rfl ?_
  refine call_V1i iX8_cheap_2 clX8_142 myX8_isLoad rfl rfl rfl rfl (sX8_isLoad _ _ (by omega) hN) ?_
  refine r_ifne iX8_cheap_5 (by split <;> omega) (fun h5 => ?_) (fun h5 => ?_)
  · rw [ne_eq, ite10n] at h5
    exact absurd h5 h
  · rw [ite10] at h5
    refine r_con iX8_cheap_8 ?_
    refine r_iret iX8_cheap_9 rfl ?_
    exact ⟨rfl, rfl⟩
theorem sX8_cheap_o (d : Nat) (l : Int) (h : 0 ≤ l ∧ l < M 0 6) (hW : WBm M) (hN : NBm M) : Ex LyM g (d + 2) mX8_cheap [vr 0, vi l] M (PI (chM (fun i => prM (M 12) (M 13) (M 3) (M 0 1) (8 * l + i)) (M 11 l)) M) := by
  refine Ex.in [some (vr 0), some (vi l), none, none] (by decide +kernel) rfl (Nat.le_of_ble_eq_true rfl) ?_ rfl
  obtain ⟨hp0, hr, hl, hR, hL⟩ := id hN
  have hwl := hW l h.1 h.2
  have L : ∀ (n9 : Nat) (i a : Int), (0 ≤ i) → (i ≤ M 11 l) → (a = chM (fun i => prM (M 12) (M 13) (M 3) (M 0 1) (8 * l + i)) i) → M 11 l - i < n9 → R LyM g mX8_cheap (d + 2) 15 [some (vr 0), some (vi l), some (vi a), some (vi i)] [] M (PI (chM (fun i => prM (M 12) (M 13) (M 3) (M 0 1) (8 * l + i)) (M 11 l)) M) := by
    intro n9
    induction n9 with
    | zero =>
      intro i a h0 h1 ha hm9
      omega
    | succ n9 ih =>
      intro i a h0 h1 ha hm9
      have hab : (i ≤ 0 ∧ a = -4) ∨ (0 < i ∧ a = mn (fun i => prM (M 12) (M 13) (M 3) (M 0 1) (8 * l + i)) (i - 1).toNat ∧ 0 ≤ a ∧ a < i) := by
        unfold chM at ha
        by_cases q : i ≤ 0
        · rw [if_pos q] at ha; exact Or.inl ⟨q, ha⟩
        · rw [if_neg q] at ha
          have := mn_rng (fun i => prM (M 12) (M 13) (M 3) (M 0 1) (8 * l + i)) (i - 1).toNat
          exact Or.inr ⟨by omega, ha, by omega, by omega⟩
      refine r_ldn iX8_cheap_15 rfl ?_
      refine r_aldn iX8_cheap_16 rfl ?_
      refine r_getr iX8_cheap_17 flX8_44 rfl rfl ?_
      refine r_ldn iX8_cheap_20 rfl ?_
      refine r_ial iX8_cheap_21 rfl (by omega) ?_
      refine r_cge iX8_cheap_22 (by omega) (fun h22 => ?_) (fun h22 => ?_)
      · refine r_ldn iX8_cheap_56 rfl ?_
        refine r_iret iX8_cheap_57 rfl ?_
        exact ⟨by rw [ha, show i = M 11 l by omega], rfl⟩
      · refine r_ldn iX8_cheap_25 rfl ?_
        refine r_iflt iX8_cheap_26 (by omega) (fun h26 => ?_) (fun h26 => ?_)
        · refine r_ldn iX8_cheap_44 rfl ?_
          refine r_goto iX8_cheap_45 ?_
          refine r_stn iX8_cheap_49 (by decide) rfl ?_
          refine r_inc iX8_cheap_50 rfl (by decide) rfl ?_
          refine r_goto iX8_cheap_53 ?_
          refine ih (i + 1) _ (by omega) (by omega) ?_ (by omega)
          unfold chM
          rw [if_neg (by omega)]
          rw [show (i + 1 - 1).toNat = 0 by omega]
          show i = 0
          omega
        · have hv1 := hwl.2 i h0 (by omega)
          have hv2 := hwl.2 a (by omega) (by omega)
          have hp1 := prM_bd hN (8 * l + i)
          have hp2 := prM_bd hN (8 * l + a)
          refine r_aldn iX8_cheap_29 rfl ?_
          refine r_ldn iX8_cheap_30 rfl ?_
          refine r_ldn iX8_cheap_31 rfl ?_
          refine call_V2i iX8_cheap_32 clX8_164 myX8_priceOf rfl rfl rfl rfl (sX8_priceOf _ _ _ (by omega) hv1 hN) ?_
          refine r_aldn iX8_cheap_35 rfl ?_
          refine r_ldn iX8_cheap_36 rfl ?_
          refine r_ldn iX8_cheap_37 rfl ?_
          refine call_V2i iX8_cheap_38 clX8_164 myX8_priceOf rfl rfl rfl rfl (sX8_priceOf _ _ _ (by omega) hv2 hN) ?_
          refine r_cge iX8_cheap_41 (by omega) (fun h41 => ?_) (fun h41 => ?_)
          · refine r_ldn iX8_cheap_48 rfl ?_
            refine r_stn iX8_cheap_49 (by decide) rfl ?_
            refine r_inc iX8_cheap_50 rfl (by decide) rfl ?_
            refine r_goto iX8_cheap_53 ?_
            refine ih (i + 1) _ (by omega) (by omega) ?_ (by omega)
            unfold chM
            rw [if_neg (by omega)]
            have e1 : a = mn (fun i => prM (M 12) (M 13) (M 3) (M 0 1) (8 * l + i)) (i - 1).toNat := by omega
            rw [show (i + 1 - 1).toNat = (i - 1).toNat + 1 by omega]
            simp only [mn]
            rw [← e1, show (((i - 1).toNat : Nat) : Int) + 1 = i by omega]
            rw [if_neg (by omega)]
          · refine r_ldn iX8_cheap_44 rfl ?_
            refine r_goto iX8_cheap_45 ?_
            refine r_stn iX8_cheap_49 (by decide) rfl ?_
            refine r_inc iX8_cheap_50 rfl (by decide) rfl ?_
            refine r_goto iX8_cheap_53 ?_
            refine ih (i + 1) _ (by omega) (by omega) ?_ (by omega)
            unfold chM
            rw [if_neg (by omega)]
            have e1 : a = mn (fun i => prM (M 12) (M 13) (M 3) (M 0 1) (8 * l + i)) (i - 1).toNat := by omega
            rw [show (i + 1 - 1).toNat = (i - 1).toNat + 1 by omega]
            simp only [mn]
            rw [← e1, show (((i - 1).toNat : Nat) : Int) + 1 = i by omega]
            rw [if_pos h41]
  refine r_aldn iX8_cheap_0 rfl ?_
  refine r_ldn iX8_cheap_1 rfl ?_
  refine call_V1i iX8_cheap_2 clX8_142 myX8_isLoad rfl rfl rfl rfl (sX8_isLoad _ _ (by omega) hN) ?_
  refine r_ifne iX8_cheap_5 (by split <;> omega) (fun h5 => ?_) (fun h5 => ?_)
  · rw [ne_eq, ite10n] at h5
    refine r_bip iX8_cheap_10 (by decide) ?_
    refine r_stn iX8_cheap_12 (by decide) rfl ?_
    refine r_con iX8_cheap_13 ?_
    refine r_stn iX8_cheap_14 (by decide) rfl ?_
    exact L 9 0 (-4) (by omega) (by omega) (by unfold chM; rw [if_pos (by omega)]) (by omega)
  · rw [ite10] at h5
    exact absurd h h5
theorem sX8_empty_x (d : Nat) (l : Int) (hlr : -2147483648 ≤ l ∧ l ≤ 2147483647) (h : l ≠ -1) (h2 : ¬ (0 ≤ l ∧ l < M 0 6)) (hN : NBm M) : Ex LyM g (d + 1) mX8_empty [vr 0, vi l] M (PI (-1) M) := by
  refine Ex.in [some (vr 0), some (vi l), none, none, none] (by decide +kernel) rfl (Nat.le_of_ble_eq_true rfl) ?_ rfl
  refine r_ldn iX8_empty_0 rfl ?_
  refine r_con iX8_empty_1 ?_
  refine r_ceq iX8_empty_2 (by omega) (fun hq2 => ?_) (fun hq2 => ?_)
  · exact absurd hq2 h
  · refine r_aldn iX8_empty_5 rfl ?_
    refine r_ldn iX8_empty_6 rfl ?_
    refine call_V1i iX8_empty_7 clX8_142 myX8_isLoad rfl rfl rfl rfl (sX8_isLoad _ _ (by omega) hN) ?_
    refine r_ifne iX8_empty_10 (by split <;> omega) (fun h10 => ?_) (fun h10 => ?_)
    · rw [ne_eq, ite10n] at h10
      exact absurd h10 h2
    · rw [ite10] at h10
      refine r_con iX8_empty_13 ?_
      refine r_iret iX8_empty_14 rfl ?_
      exact ⟨rfl, rfl⟩
theorem sX8_empty_o (d : Nat) (l : Int) (h : 0 ≤ l ∧ l < M 0 6) (hW : WBm M) (hN : NBm M) : Ex LyM g (d + 1) mX8_empty [vr 0, vi l] M (PI (seM (M 11) (M 10) l) (mset M 10 (clr (M 10) (8 * l) 8))) := by
  refine Ex.in [some (vr 0), some (vi l), none, none, none] (by decide +kernel) rfl (Nat.le_of_ble_eq_true rfl) ?_ rfl
  obtain ⟨hp0, hr, hl, hR, hL⟩ := id hN
  have L2 : ∀ (n9 : Nat) (j : Int) (w : Option MV), (l < j) → (j ≤ M 0 6) → M 0 6 - j < n9 → R LyM g mX8_empty (d + 1) 19 [some (vr 0), some (vi l), some (vi (seM (M 11) (M 10) l)), some (vi j), w] [] (mset M 10 (clr (M 10) (8 * l) 8)) (PI (seM (M 11) (M 10) l) (mset M 10 (clr (M 10) (8 * l) 8))) := by
    intro n9
    induction n9 with
    | zero =>
      intro j w h0 h1 hm9
      omega
    | succ n9 ih =>
      intro j w h0 h1 hm9
      refine r_ldn iX8_empty_19 rfl ?_
      refine r_aldn iX8_empty_20 rfl ?_
      refine r_geti 6 iX8_empty_21 flX8_100 rfl rfl rfl rfl ?_
      try simp only [mset_s, mset_n, mset_mset, fset_s, ne_eq, Nat.reduceEqDiff, not_false_eq_true]
      refine r_cge iX8_empty_24 (by omega) (fun h24 => ?_) (fun h24 => ?_)
      · refine r_ldn iX8_empty_80 rfl ?_
        refine r_iret iX8_empty_81 rfl ?_
        exact ⟨rfl, rfl⟩
      · refine r_ldn iX8_empty_27 rfl ?_
        refine r_con iX8_empty_28 ?_
        refine r_ceq iX8_empty_29 (by omega) (fun h29 => ?_) (fun h29 => ?_)
        · exfalso; omega
        · refine r_ldn iX8_empty_32 rfl ?_
          refine r_ldn iX8_empty_33 rfl ?_
          refine r_cne iX8_empty_34 (by omega) (fun h34 => ?_) (fun h34 => ?_)
          · refine r_inc iX8_empty_74 rfl (by decide) rfl ?_
            refine r_goto iX8_empty_77 ?_
            exact ih (j + 1) _ (by omega) (by omega) (by omega)
          · exfalso; omega
  have I : ∀ (n9 : Nat) (i : Int), (0 ≤ i) → (i ≤ 8) → 8 - i < n9 → R LyM g mX8_empty (d + 1) 48 [some (vr 0), some (vi l), some (vi (seM (M 11) (M 10) l)), some (vi l), some (vi i)] [] (mset M 10 (clr (M 10) (8 * l) i)) (PI (seM (M 11) (M 10) l) (mset M 10 (clr (M 10) (8 * l) 8))) := by
    intro n9
    induction n9 with
    | zero =>
      intro i h0 h1 hm9
      omega
    | succ n9 ih =>
      intro i h0 h1 hm9
      refine r_ld iX8_empty_48 rfl ?_
      refine r_bip iX8_empty_50 (by decide) ?_
      refine r_cge iX8_empty_52 (by omega) (fun h52 => ?_) (fun h52 => ?_)
      · refine r_inc iX8_empty_74 rfl (by decide) rfl ?_
        refine r_goto iX8_empty_77 ?_
        rw [show i = 8 by omega]
        exact L2 6 (l + 1) _ (by omega) (by omega) (by omega)
      · refine r_aldn iX8_empty_55 rfl ?_
        refine r_getr iX8_empty_56 flX8_41 rfl rfl ?_
        refine r_bip iX8_empty_59 (by decide) ?_
        refine r_ldn iX8_empty_61 rfl ?_
        refine r_mul iX8_empty_62 ?_
        refine r_ld iX8_empty_63 rfl ?_
        refine r_add iX8_empty_65 ?_
        refine r_con iX8_empty_66 ?_
        refine r_ias iX8_empty_67 rfl (by omega) ?_
        refine r_inc iX8_empty_68 rfl (by decide) rfl ?_
        refine r_goto iX8_empty_71 ?_
        try simp only [mset_s, mset_n, mset_mset, fset_s, ne_eq, Nat.reduceEqDiff, not_false_eq_true]
        rw [clr_1 h0]
        exact ih (i + 1) (by omega) (by omega) (by omega)
  have L1 : ∀ (n9 : Nat) (j : Int), (0 ≤ j) → (j ≤ l) → M 0 6 - j < n9 → R LyM g mX8_empty (d + 1) 19 [some (vr 0), some (vi l), some (vi 0), some (vi j), none] [] M (PI (seM (M 11) (M 10) l) (mset M 10 (clr (M 10) (8 * l) 8))) := by
    intro n9
    induction n9 with
    | zero =>
      intro j h0 h1 hm9
      omega
    | succ n9 ih =>
      intro j h0 h1 hm9
      refine r_ldn iX8_empty_19 rfl ?_
      refine r_aldn iX8_empty_20 rfl ?_
      refine r_geti 6 iX8_empty_21 flX8_100 rfl rfl rfl rfl ?_
      refine r_cge iX8_empty_24 (by omega) (fun h24 => ?_) (fun h24 => ?_)
      · exfalso; omega
      · refine r_ldn iX8_empty_27 rfl ?_
        refine r_con iX8_empty_28 ?_
        refine r_ceq iX8_empty_29 (by omega) (fun h29 => ?_) (fun h29 => ?_)
        · refine r_ldn iX8_empty_37 rfl ?_
          refine r_aldn iX8_empty_38 rfl ?_
          refine r_ldn iX8_empty_39 rfl ?_
          refine call_V1i iX8_empty_40 clX8_148 myX8_sentOf rfl rfl rfl rfl (sX8_sentOf _ _ (by omega) hW hN) ?_
          refine r_add iX8_empty_43 ?_
          refine r_stn iX8_empty_44 (by decide) rfl ?_
          refine r_con iX8_empty_45 ?_
          refine r_st iX8_empty_46 (by decide) rfl ?_
          exfalso; omega
        · refine r_ldn iX8_empty_32 rfl ?_
          refine r_ldn iX8_empty_33 rfl ?_
          refine r_cne iX8_empty_34 (by omega) (fun h34 => ?_) (fun h34 => ?_)
          · refine r_inc iX8_empty_74 rfl (by decide) rfl ?_
            refine r_goto iX8_empty_77 ?_
            exact ih (j + 1) (by omega) (by omega) (by omega)
          · refine r_ldn iX8_empty_37 rfl ?_
            refine r_aldn iX8_empty_38 rfl ?_
            refine r_ldn iX8_empty_39 rfl ?_
            refine call_V1i iX8_empty_40 clX8_148 myX8_sentOf rfl rfl rfl rfl (sX8_sentOf _ _ (by omega) hW hN) ?_
            refine r_add iX8_empty_43 ?_
            refine r_stn iX8_empty_44 (by decide) rfl ?_
            refine r_con iX8_empty_45 ?_
            refine r_st iX8_empty_46 (by decide) rfl ?_
            have e1 : j = l := by omega
            rw [e1, Int.zero_add]
            have L0 := I 9 0 (by omega) (by omega) (by omega)
            rw [clr_0, mset_eq rfl] at L0
            exact L0
  refine r_ldn iX8_empty_0 rfl ?_
  refine r_con iX8_empty_1 ?_
  refine r_ceq iX8_empty_2 (by omega) (fun h2 => ?_) (fun h2 => ?_)
  · refine r_con iX8_empty_15 ?_
    refine r_stn iX8_empty_16 (by decide) rfl ?_
    refine r_con iX8_empty_17 ?_
    refine r_stn iX8_empty_18 (by decide) rfl ?_
    exact L1 6 0 (by omega) (by omega) (by omega)
  · refine r_aldn iX8_empty_5 rfl ?_
    refine r_ldn iX8_empty_6 rfl ?_
    refine call_V1i iX8_empty_7 clX8_142 myX8_isLoad rfl rfl rfl rfl (sX8_isLoad _ _ (by omega) hN) ?_
    refine r_ifne iX8_empty_10 (by split <;> omega) (fun h10 => ?_) (fun h10 => ?_)
    · rw [ne_eq, ite10n] at h10
      refine r_con iX8_empty_15 ?_
      refine r_stn iX8_empty_16 (by decide) rfl ?_
      refine r_con iX8_empty_17 ?_
      refine r_stn iX8_empty_18 (by decide) rfl ?_
      exact L1 6 0 (by omega) (by omega) (by omega)
    · rw [ite10] at h10
      exact absurd h h10
theorem sX8_empty_a (d : Nat) (hW : WBm M) (hN : NBm M) : Ex LyM g (d + 1) mX8_empty [vr 0, vi (-1)] M (PI (sg (fun l => seM (M 11) (M 10) l) (M 0 6)) (mset M 10 (clr (M 10) 0 (8 * M 0 6)))) := by
  refine Ex.in [some (vr 0), some (vi (-1)), none, none, none] (by decide +kernel) rfl (Nat.le_of_ble_eq_true rfl) ?_ rfl
  obtain ⟨hp0, hr, hl, hR, hL⟩ := id hN
  have L : ∀ (n9 : Nat) (j : Int) (w : Option MV), (0 ≤ j) → (j ≤ M 0 6) → M 0 6 - j < n9 → R LyM g mX8_empty (d + 1) 19 [some (vr 0), some (vi (-1)), some (vi (sg (fun l => seM (M 11) (M 10) l) j)), some (vi j), w] [] (mset M 10 (clr (M 10) 0 (8 * j))) (PI (sg (fun l => seM (M 11) (M 10) l) (M 0 6)) (mset M 10 (clr (M 10) 0 (8 * M 0 6)))) := by
    intro n9
    induction n9 with
    | zero =>
      intro j w h0 h1 hm9
      omega
    | succ n9 ih =>
      intro j w h0 h1 hm9
      have I : ∀ (n8 : Nat) (i : Int), (0 ≤ i) → (i ≤ 8) → (j < M 0 6) → 8 - i < n8 → R LyM g mX8_empty (d + 1) 48 [some (vr 0), some (vi (-1)), some (vi (sg (fun l => seM (M 11) (M 10) l) (j + 1))), some (vi j), some (vi i)] [] (mset M 10 (clr (M 10) 0 (8 * j + i))) (PI (sg (fun l => seM (M 11) (M 10) l) (M 0 6)) (mset M 10 (clr (M 10) 0 (8 * M 0 6)))) := by
        intro n8
        induction n8 with
        | zero =>
          intro i h0i h1i hj6 hm9
          omega
        | succ n8 ih2 =>
          intro i h0i h1i hj6 hm9
          refine r_ld iX8_empty_48 rfl ?_
          refine r_bip iX8_empty_50 (by decide) ?_
          refine r_cge iX8_empty_52 (by omega) (fun h52 => ?_) (fun h52 => ?_)
          · refine r_inc iX8_empty_74 rfl (by decide) rfl ?_
            refine r_goto iX8_empty_77 ?_
            rw [show 8 * j + i = 8 * (j + 1) by omega]
            exact ih (j + 1) _ (by omega) (by omega) (by omega)
          · refine r_aldn iX8_empty_55 rfl ?_
            refine r_getr iX8_empty_56 flX8_41 rfl rfl ?_
            refine r_bip iX8_empty_59 (by decide) ?_
            refine r_ldn iX8_empty_61 rfl ?_
            refine r_mul iX8_empty_62 ?_
            refine r_ld iX8_empty_63 rfl ?_
            refine r_add iX8_empty_65 ?_
            refine r_con iX8_empty_66 ?_
            refine r_ias iX8_empty_67 rfl (by omega) ?_
            refine r_inc iX8_empty_68 rfl (by decide) rfl ?_
            refine r_goto iX8_empty_71 ?_
            try simp only [mset_s, mset_n, mset_mset, fset_s, ne_eq, Nat.reduceEqDiff, not_false_eq_true]
            have e1 := clr_1 (f := M 10) (b := 0) (i := 8 * j + i) (by omega)
            rw [Int.zero_add] at e1
            rw [e1, show 8 * j + i + 1 = 8 * j + (i + 1) by omega]
            exact ih2 (i + 1) (by omega) (by omega) hj6 (by omega)
      refine r_ldn iX8_empty_19 rfl ?_
      refine r_aldn iX8_empty_20 rfl ?_
      refine r_geti 6 iX8_empty_21 flX8_100 rfl rfl rfl rfl ?_
      try simp only [mset_s, mset_n, mset_mset, fset_s, ne_eq, Nat.reduceEqDiff, not_false_eq_true]
      refine r_cge iX8_empty_24 (by omega) (fun h24 => ?_) (fun h24 => ?_)
      · refine r_ldn iX8_empty_80 rfl ?_
        refine r_iret iX8_empty_81 rfl ?_
        rw [show j = M 0 6 by omega]
        exact ⟨rfl, rfl⟩
      · refine r_ldn iX8_empty_27 rfl ?_
        refine r_con iX8_empty_28 ?_
        refine r_ceq iX8_empty_29 (by omega) (fun h29 => ?_) (fun h29 => ?_)
        · refine r_ldn iX8_empty_37 rfl ?_
          refine r_aldn iX8_empty_38 rfl ?_
          refine r_ldn iX8_empty_39 rfl ?_
          refine call_V1i iX8_empty_40 clX8_148 myX8_sentOf rfl rfl rfl rfl (sX8_sentOf (M := mset M 10 (clr (M 10) 0 (8 * j))) _ _ (by exact ⟨h0, h24⟩) hW hN) ?_
          refine r_add iX8_empty_43 ?_
          refine r_stn iX8_empty_44 (by decide) rfl ?_
          refine r_con iX8_empty_45 ?_
          refine r_st iX8_empty_46 (by decide) rfl ?_
          have e1 : seM (M 11) (clr (M 10) 0 (8 * j)) j = seM (M 11) (M 10) j := by
            unfold seM
            refine sg_congr (fun k h2 h3 => ?_)
            simp only [clr]
            rw [if_neg (by omega)]
          simp only [mset_s, mset_n, ne_eq, Nat.reduceEqDiff, not_false_eq_true]
          rw [e1, ← sg_1 (f := fun l => seM (M 11) (M 10) l) h0]
          have L0 := I 9 0 (by omega) (by omega) (by omega) (by omega)
          rw [Int.add_zero] at L0
          exact L0
        · exact absurd rfl h29
  refine r_ldn iX8_empty_0 rfl ?_
  refine r_con iX8_empty_1 ?_
  refine r_ceq iX8_empty_2 (by omega) (fun h2 => ?_) (fun h2 => ?_)
  · refine r_con iX8_empty_15 ?_
    refine r_stn iX8_empty_16 (by decide) rfl ?_
    refine r_con iX8_empty_17 ?_
    refine r_stn iX8_empty_18 (by decide) rfl ?_
    have L0 := L 6 0 none (by omega) (by omega) (by omega)
    rw [Int.mul_zero, clr_0, mset_eq rfl] at L0
    exact L0
  · exact absurd rfl h2
theorem sX8_fits (d : Nat) (b : Int) (hb : b = 0 ∨ b = 1) (hbb : b = 1 ↔ sg (fun r => if 0 < ovM (M 11) (M 12) (M 13) (M 10) (M 2) (M 0 6) r then 1 else 0) (M 0 1) = 0 ∧ ∀ l, 0 ≤ l → l < M 0 6 → (seM (M 11) (M 10) l = M 8 l ∧ (M 5 l = 0 ∨ nzM (M 11) (M 10) l = 1) ∧ (M 5 l < 2 ∨ 0 < M 10 (8 * l + M 9 l)))) (hH : ∀ l, 0 ≤ l → l < M 0 6 → 0 ≤ M 9 l ∧ M 9 l ≤ 7) (hW : WBm M) (hA : AVm M) (hN : NBm M) : Ex LyM g (d + 4) mX8_fits [vr 0] M (PI b M) := by
  refine Ex.in [some (vr 0), none, none] (by decide +kernel) rfl (Nat.le_of_ble_eq_true rfl) ?_ rfl
  obtain ⟨hp0, hr, hl, hR, hL⟩ := id hN
  have hvb := sg_nn (f := fun r => if 0 < ovM (M 11) (M 12) (M 13) (M 10) (M 2) (M 0 6) r then 1 else 0) (hi := 1) hr.1 (by omega) (fun i h0 h1 => by split <;> omega) (k := 20) hr.2
  have L : ∀ (n9 : Nat) (i a : Int), (0 ≤ i) → (i ≤ M 0 6) → (a = 0 ∨ a = 1) → (a = 1 ↔ sg (fun r => if 0 < ovM (M 11) (M 12) (M 13) (M 10) (M 2) (M 0 6) r then 1 else 0) (M 0 1) = 0 ∧ ∀ l, 0 ≤ l → l < i → (seM (M 11) (M 10) l = M 8 l ∧ (M 5 l = 0 ∨ nzM (M 11) (M 10) l = 1) ∧ (M 5 l < 2 ∨ 0 < M 10 (8 * l + M 9 l)))) → M 0 6 - i < n9 → R LyM g mX8_fits (d + 4) 15 [some (vr 0), some (vi a), some (vi i)] [] M (PI b M) := by
    intro n9
    induction n9 with
    | zero =>
      intro i a h0 h1 hz ha hm9
      omega
    | succ n9 ih =>
      intro i a h0 h1 hz ha hm9
      refine r_ldn iX8_fits_15 rfl ?_
      refine r_aldn iX8_fits_16 rfl ?_
      refine r_geti 6 iX8_fits_17 flX8_100 rfl rfl rfl rfl ?_
      refine r_cge iX8_fits_20 (by omega) (fun h20 => ?_) (fun h20 => ?_)
      · refine r_ldn iX8_fits_100 rfl ?_
        refine r_zret iX8_fits_101 rfl (by omega) ?_
        rw [show i = M 0 6 by omega] at ha
        have e1 : a = b := by
          rcases hz with z | z
          · rcases hb with y | y
            · rw [z, y]
            · have := ha.mpr (hbb.mp y); omega
          · have := hbb.mpr (ha.mp z); omega
        exact ⟨by rw [e1], rfl⟩
      · have hwi := hW i h0 (by omega)
        have hli := hL i h0 (by omega)
        have hsb := seM_bd hW hA (l := i) (by omega)
        have hnb := nzM_bd hW (l := i) (by omega)
        have hhi := hH i h0 (by omega)
        have hai := hA i h0 (by omega) (M 9 i) hhi.1 (by omega)
        refine r_ldn iX8_fits_23 rfl ?_
        refine r_ifeq iX8_fits_24 (by omega) (fun h24 => ?_) (fun h24 => ?_)
        · refine r_con iX8_fits_92 ?_
          refine r_stn iX8_fits_93 (by decide) rfl ?_
          refine r_inc iX8_fits_94 rfl (by decide) rfl ?_
          refine r_goto iX8_fits_97 ?_
          refine ih (i + 1) 0 (by omega) (by omega) (Or.inl rfl) ?_ (by omega)
          refine ⟨fun z => by omega, fun z => ?_⟩
          have zi := z.2 i h0 (by omega)
          have := ha.mpr ⟨z.1, fun l h2 h3 => z.2 l h2 (by omega)⟩
          omega
        · refine r_aldn iX8_fits_27 rfl ?_
          refine r_ldn iX8_fits_28 rfl ?_
          refine call_V1i iX8_fits_29 clX8_148 myX8_sentOf rfl rfl rfl rfl (sX8_sentOf _ _ (by omega) hW hN) ?_
          refine r_aldn iX8_fits_32 rfl ?_
          refine r_getr iX8_fits_33 flX8_35 rfl rfl ?_
          refine r_ldn iX8_fits_36 rfl ?_
          refine r_ial iX8_fits_37 rfl (by omega) ?_
          refine r_cne iX8_fits_38 (by omega) (fun h38 => ?_) (fun h38 => ?_)
          · refine r_con iX8_fits_92 ?_
            refine r_stn iX8_fits_93 (by decide) rfl ?_
            refine r_inc iX8_fits_94 rfl (by decide) rfl ?_
            refine r_goto iX8_fits_97 ?_
            refine ih (i + 1) 0 (by omega) (by omega) (Or.inl rfl) ?_ (by omega)
            refine ⟨fun z => by omega, fun z => ?_⟩
            have zi := z.2 i h0 (by omega)
            exfalso; omega
          · refine r_aldn iX8_fits_41 rfl ?_
            refine r_getr iX8_fits_42 flX8_26 rfl rfl ?_
            refine r_ldn iX8_fits_45 rfl ?_
            refine r_ial iX8_fits_46 rfl (by omega) ?_
            refine r_ifeq iX8_fits_47 (by omega) (fun h47 => ?_) (fun h47 => ?_)
            · refine r_aldn iX8_fits_59 rfl ?_
              refine r_getr iX8_fits_60 flX8_26 rfl rfl ?_
              refine r_ldn iX8_fits_63 rfl ?_
              refine r_ial iX8_fits_64 rfl (by omega) ?_
              refine r_con iX8_fits_65 ?_
              refine r_clt iX8_fits_66 (by omega) (fun h66 => ?_) (fun h66 => ?_)
              · refine r_con iX8_fits_88 ?_
                refine r_goto iX8_fits_89 ?_
                refine r_stn iX8_fits_93 (by decide) rfl ?_
                refine r_inc iX8_fits_94 rfl (by decide) rfl ?_
                refine r_goto iX8_fits_97 ?_
                refine ih (i + 1) 1 (by omega) (by omega) (Or.inr rfl) ?_ (by omega)
                have ha1 := ha.mp (by omega)
                refine ⟨fun _ => ⟨ha1.1, fun l h2 h3 => ?_⟩, fun _ => rfl⟩
                by_cases e : l = i
                · rw [e]; exact ⟨h38, by omega, by omega⟩
                · exact ha1.2 l h2 (by omega)
              · refine r_aldn iX8_fits_69 rfl ?_
                refine r_getr iX8_fits_70 flX8_41 rfl rfl ?_
                refine r_bip iX8_fits_73 (by decide) ?_
                refine r_ldn iX8_fits_75 rfl ?_
                refine r_mul iX8_fits_76 ?_
                refine r_aldn iX8_fits_77 rfl ?_
                refine r_getr iX8_fits_78 flX8_38 rfl rfl ?_
                refine r_ldn iX8_fits_81 rfl ?_
                refine r_ial iX8_fits_82 rfl (by omega) ?_
                refine r_add iX8_fits_83 ?_
                refine r_ial iX8_fits_84 rfl (by omega) ?_
                refine r_ifle iX8_fits_85 (by omega) (fun h85 => ?_) (fun h85 => ?_)
                · refine r_con iX8_fits_92 ?_
                  refine r_stn iX8_fits_93 (by decide) rfl ?_
                  refine r_inc iX8_fits_94 rfl (by decide) rfl ?_
                  refine r_goto iX8_fits_97 ?_
                  refine ih (i + 1) 0 (by omega) (by omega) (Or.inl rfl) ?_ (by omega)
                  refine ⟨fun z => by omega, fun z => ?_⟩
                  have zi := z.2 i h0 (by omega)
                  exfalso; omega
                · refine r_con iX8_fits_88 ?_
                  refine r_goto iX8_fits_89 ?_
                  refine r_stn iX8_fits_93 (by decide) rfl ?_
                  refine r_inc iX8_fits_94 rfl (by decide) rfl ?_
                  refine r_goto iX8_fits_97 ?_
                  refine ih (i + 1) 1 (by omega) (by omega) (Or.inr rfl) ?_ (by omega)
                  have ha1 := ha.mp (by omega)
                  refine ⟨fun _ => ⟨ha1.1, fun l h2 h3 => ?_⟩, fun _ => rfl⟩
                  by_cases e : l = i
                  · rw [e]; exact ⟨h38, by omega, by omega⟩
                  · exact ha1.2 l h2 (by omega)
            · refine r_aldn iX8_fits_50 rfl ?_
              refine r_ldn iX8_fits_51 rfl ?_
              refine call_V1i iX8_fits_52 clX8_161 myX8_amountMany rfl rfl rfl rfl (sX8_amountMany _ _ (by omega) hW hA hN) ?_
              refine r_con iX8_fits_55 ?_
              refine r_cne iX8_fits_56 (by omega) (fun h56 => ?_) (fun h56 => ?_)
              · refine r_con iX8_fits_92 ?_
                refine r_stn iX8_fits_93 (by decide) rfl ?_
                refine r_inc iX8_fits_94 rfl (by decide) rfl ?_
                refine r_goto iX8_fits_97 ?_
                refine ih (i + 1) 0 (by omega) (by omega) (Or.inl rfl) ?_ (by omega)
                refine ⟨fun z => by omega, fun z => ?_⟩
                have zi := z.2 i h0 (by omega)
                exfalso; omega
              · refine r_aldn iX8_fits_59 rfl ?_
                refine r_getr iX8_fits_60 flX8_26 rfl rfl ?_
                refine r_ldn iX8_fits_63 rfl ?_
                refine r_ial iX8_fits_64 rfl (by omega) ?_
                refine r_con iX8_fits_65 ?_
                refine r_clt iX8_fits_66 (by omega) (fun h66 => ?_) (fun h66 => ?_)
                · refine r_con iX8_fits_88 ?_
                  refine r_goto iX8_fits_89 ?_
                  refine r_stn iX8_fits_93 (by decide) rfl ?_
                  refine r_inc iX8_fits_94 rfl (by decide) rfl ?_
                  refine r_goto iX8_fits_97 ?_
                  refine ih (i + 1) 1 (by omega) (by omega) (Or.inr rfl) ?_ (by omega)
                  have ha1 := ha.mp (by omega)
                  refine ⟨fun _ => ⟨ha1.1, fun l h2 h3 => ?_⟩, fun _ => rfl⟩
                  by_cases e : l = i
                  · rw [e]; exact ⟨h38, by omega, by omega⟩
                  · exact ha1.2 l h2 (by omega)
                · refine r_aldn iX8_fits_69 rfl ?_
                  refine r_getr iX8_fits_70 flX8_41 rfl rfl ?_
                  refine r_bip iX8_fits_73 (by decide) ?_
                  refine r_ldn iX8_fits_75 rfl ?_
                  refine r_mul iX8_fits_76 ?_
                  refine r_aldn iX8_fits_77 rfl ?_
                  refine r_getr iX8_fits_78 flX8_38 rfl rfl ?_
                  refine r_ldn iX8_fits_81 rfl ?_
                  refine r_ial iX8_fits_82 rfl (by omega) ?_
                  refine r_add iX8_fits_83 ?_
                  refine r_ial iX8_fits_84 rfl (by omega) ?_
                  refine r_ifle iX8_fits_85 (by omega) (fun h85 => ?_) (fun h85 => ?_)
                  · refine r_con iX8_fits_92 ?_
                    refine r_stn iX8_fits_93 (by decide) rfl ?_
                    refine r_inc iX8_fits_94 rfl (by decide) rfl ?_
                    refine r_goto iX8_fits_97 ?_
                    refine ih (i + 1) 0 (by omega) (by omega) (Or.inl rfl) ?_ (by omega)
                    refine ⟨fun z => by omega, fun z => ?_⟩
                    have zi := z.2 i h0 (by omega)
                    exfalso; omega
                  · refine r_con iX8_fits_88 ?_
                    refine r_goto iX8_fits_89 ?_
                    refine r_stn iX8_fits_93 (by decide) rfl ?_
                    refine r_inc iX8_fits_94 rfl (by decide) rfl ?_
                    refine r_goto iX8_fits_97 ?_
                    refine ih (i + 1) 1 (by omega) (by omega) (Or.inr rfl) ?_ (by omega)
                    have ha1 := ha.mp (by omega)
                    refine ⟨fun _ => ⟨ha1.1, fun l h2 h3 => ?_⟩, fun _ => rfl⟩
                    by_cases e : l = i
                    · rw [e]; exact ⟨h38, by omega, by omega⟩
                    · exact ha1.2 l h2 (by omega)
  refine r_aldn iX8_fits_0 rfl ?_
  refine call_V0i iX8_fits_1 clX8_174 myX8_overMany rfl rfl rfl rfl (sX8_overMany _ hW hA hN) ?_
  refine r_ifne iX8_fits_4 (by omega) (fun h4 => ?_) (fun h4 => ?_)
  · refine r_con iX8_fits_11 ?_
    refine r_stn iX8_fits_12 (by decide) rfl ?_
    refine r_con iX8_fits_13 ?_
    refine r_stn iX8_fits_14 (by decide) rfl ?_
    exact L 6 0 0 (by omega) (by omega) (by omega) ⟨fun z => by omega, fun z => absurd z.1 h4⟩ (by omega)
  · refine r_con iX8_fits_7 ?_
    refine r_goto iX8_fits_8 ?_
    refine r_stn iX8_fits_12 (by decide) rfl ?_
    refine r_con iX8_fits_13 ?_
    refine r_stn iX8_fits_14 (by decide) rfl ?_
    exact L 6 0 1 (by omega) (by omega) (by omega) ⟨fun _ => ⟨h4, fun l h2 h3 => by omega⟩, fun _ => rfl⟩ (by omega)
end RG
