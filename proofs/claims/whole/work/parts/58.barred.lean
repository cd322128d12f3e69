/-! the class: barred -/
section CH
variable {g : Gt} {M : Mem}
theorem sX7_barred_x (d : Nat) (D : Int → Int) (hD : ∀ f l, 0 ≤ l → l < M 1 2 → itF (M 2) (M 3) (M 6) (M 1 1) (ds0 (M 8 l) f) (M 1 0 - 1).toNat (M 9 l) = D l) (hDb : ∀ l, 0 ≤ l → l < M 1 2 → 0 ≤ D l ∧ D l ≤ 1000000) (lx : Int) (hx : 0 ≤ lx ∧ lx < M 1 2) (hfar : D lx = 1000000) (hN : NB M) : Ex LyC g (d + 3) mX7_barred [vr 0] M (fun q M' => q = some (vi (-2)) ∧ ∃ f, M' = mset M 38 f) := by
  refine Ex.in [some (vr 0), none, none, none] (by decide +kernel) rfl (Nat.le_of_ble_eq_true rfl) ?_ rfl
  obtain ⟨hp0, hr, hl, hR, hL⟩ := id hN
  have L : ∀ (n9 : Nat) (i a : Int) (f : Int → Int) (w3 : Option MV), (0 ≤ i) → (i ≤ lx) → M 1 2 - i < n9 → R LyC g mX7_barred (d + 3) 4 [some (vr 0), some (vi a), some (vi i), w3] [] (mset M 38 f) (fun q M' => q = some (vi (-2)) ∧ ∃ f, M' = mset M 38 f) := by
    intro n9
    induction n9 with
    | zero =>
      intro i a f w3 h0 h1 hm9
      omega
    | succ n9 ih =>
      intro i a f w3 h0 h1 hm9
      refine r_ldn iX7_barred_4 rfl ?_
      refine r_aldn iX7_barred_5 rfl ?_
      refine r_getr iX7_barred_6 flX7_12 rfl rfl ?_
      refine r_geti 2 iX7_barred_9 flX7_118 rfl rfl rfl rfl ?_
      try simp only [mset_s, mset_n, mset_mset, ne_eq, Nat.reduceEqDiff, not_false_eq_true]
      refine r_cge iX7_barred_12 (by omega) (fun h12 => ?_) (fun h12 => ?_)
      · exfalso; omega
      · have hdi := hDb i h0 h12
        refine r_aldn iX7_barred_15 rfl ?_
        refine r_getr iX7_barred_16 flX7_39 rfl rfl ?_
        refine r_aldn iX7_barred_19 rfl ?_
        refine r_getr iX7_barred_20 flX7_12 rfl rfl ?_
        refine r_ldn iX7_barred_23 rfl ?_
        refine call_V2i iX7_barred_24 clX7_161 myX2_farOf rfl rfl rfl rfl (sX2_farOf (M := mset M 38 f) _ _ (by exact ⟨h0, h12⟩) hN) ?_
        try simp only [mset_s, mset_n, mset_mset, ne_eq, Nat.reduceEqDiff, not_false_eq_true]
        rw [hD f i h0 h12]
        refine r_stn iX7_barred_27 (by decide) rfl ?_
        refine r_ldn iX7_barred_28 rfl ?_
        refine r_ifge iX7_barred_29 (by split <;> omega) (fun h29 => ?_) (fun h29 => ?_)
        · refine r_ldn iX7_barred_35 rfl ?_
          refine r_aldn iX7_barred_36 rfl ?_
          refine r_getr iX7_barred_37 flX7_12 rfl rfl ?_
          refine r_getr iX7_barred_40 flX7_127 rfl rfl ?_
          refine r_ldn iX7_barred_43 rfl ?_
          refine r_ial iX7_barred_44 rfl (by omega) ?_
          refine r_ldn iX7_barred_45 rfl ?_
          refine r_mul iX7_barred_46 ?_
          refine r_add iX7_barred_47 ?_
          refine r_stn iX7_barred_48 (by decide) rfl ?_
          refine r_inc iX7_barred_49 rfl (by decide) rfl ?_
          refine r_goto iX7_barred_52 ?_
          have hne : i ≠ lx := fun e => by rw [e, hfar] at h29; rw [if_neg (by omega)] at h29; omega
          exact ih (i + 1) _ _ _ (by omega) (by omega) (by omega)
        · refine r_bip iX7_barred_32 (by decide) ?_
          refine r_iret iX7_barred_34 rfl ?_
          exact ⟨rfl, _, rfl⟩
  refine r_con iX7_barred_0 ?_
  refine r_stn iX7_barred_1 (by decide) rfl ?_
  refine r_con iX7_barred_2 ?_
  refine r_stn iX7_barred_3 (by decide) rfl ?_
  have L0 := fun w3 => L 6 0 0 (M 38) w3 (by omega) (by omega) (by omega)
  rw [mset_eq rfl] at L0
  exact L0 _
theorem sX7_barred_o (d : Nat) (D : Int → Int) (hD : ∀ f l, 0 ≤ l → l < M 1 2 → itF (M 2) (M 3) (M 6) (M 1 1) (ds0 (M 8 l) f) (M 1 0 - 1).toNat (M 9 l) = D l) (hDb : ∀ l, 0 ≤ l → l < M 1 2 → 0 ≤ D l ∧ D l < 1000000) (hN : NB M) : Ex LyC g (d + 3) mX7_barred [vr 0] M (fun q M' => q = some (vi (if 0 < (sg (fun l => M 10 l * D l) (M 1 2) - sg (fun r => M 4 r * M 6 r) (M 1 1)) then (sg (fun l => M 10 l * D l) (M 1 2) - sg (fun r => M 4 r * M 6 r) (M 1 1)) else 0)) ∧ ∃ f, M' = mset M 38 f) := by
  refine Ex.in [some (vr 0), none, none, none] (by decide +kernel) rfl (Nat.le_of_ble_eq_true rfl) ?_ rfl
  obtain ⟨hp0, hr, hl, hR, hL⟩ := id hN
  have hz1 := sg_bd (f := fun l => M 10 l * D l) (lo := 0) (hi := 100000000) hl.1 (fun i h0 h1 => by
    have q1 := hL i h0 h1
    have q2 := hDb i h0 h1
    exact ⟨Int.mul_nonneg (by omega) (by omega), Int.le_trans (Int.mul_le_mul (c := 100) (d := 1000000) (by omega) (by omega) (by omega) (by omega)) (by decide)⟩)
  have hz2 := sg_bd (f := fun r => M 4 r * M 6 r) (lo := 0) (hi := 2000) hr.1 (fun i h0 h1 => by
    have q1 := hR i h0 h1
    exact ⟨Int.mul_nonneg (by omega) (by omega), Int.le_trans (Int.mul_le_mul (c := 100) (d := 20) (by omega) (by omega) (by omega) (by omega)) (by decide)⟩)
  have L : ∀ (n9 : Nat) (i : Int) (f : Int → Int) (w3 : Option MV), (0 ≤ i) → (i ≤ M 1 2) → M 1 2 - i < n9 → R LyC g mX7_barred (d + 3) 4 [some (vr 0), some (vi (sg (fun l => M 10 l * D l) i)), some (vi i), w3] [] (mset M 38 f) (fun q M' => q = some (vi (if 0 < (sg (fun l => M 10 l * D l) (M 1 2) - sg (fun r => M 4 r * M 6 r) (M 1 1)) then (sg (fun l => M 10 l * D l) (M 1 2) - sg (fun r => M 4 r * M 6 r) (M 1 1)) else 0)) ∧ ∃ f, M' = mset M 38 f) := by
    intro n9
    induction n9 with
    | zero =>
      intro i f w3 h0 h1 hm9
      omega
    | succ n9 ih =>
      intro i f w3 h0 h1 hm9
      refine r_ldn iX7_barred_4 rfl ?_
      refine r_aldn iX7_barred_5 rfl ?_
      refine r_getr iX7_barred_6 flX7_12 rfl rfl ?_
      refine r_geti 2 iX7_barred_9 flX7_118 rfl rfl rfl rfl ?_
      try simp only [mset_s, mset_n, mset_mset, ne_eq, Nat.reduceEqDiff, not_false_eq_true]
      refine r_cge iX7_barred_12 (by omega) (fun h12 => ?_) (fun h12 => ?_)
      · have hi : i = M 1 2 := by omega
        rw [hi]
        refine r_con iX7_barred_55 ?_
        refine r_ldn iX7_barred_56 rfl ?_
        refine r_aldn iX7_barred_57 rfl ?_
        refine r_getr iX7_barred_58 flX7_12 rfl rfl ?_
        refine call_V0i iX7_barred_61 clX7_255 myX3_roomTimesLength rfl rfl rfl rfl (sX3_roomTimesLength (M := mset M 38 f) _ hN) ?_
        try simp only [mset_s, mset_n, mset_mset, ne_eq, Nat.reduceEqDiff, not_false_eq_true]
        refine r_sub iX7_barred_64 ?_
        refine r_max iX7_barred_65 clX7_258 rfl (by omega) ?_
        refine r_iret iX7_barred_68 rfl ?_
        exact ⟨rfl, _, rfl⟩
      · have hdi := hDb i h0 h12
        refine r_aldn iX7_barred_15 rfl ?_
        refine r_getr iX7_barred_16 flX7_39 rfl rfl ?_
        refine r_aldn iX7_barred_19 rfl ?_
        refine r_getr iX7_barred_20 flX7_12 rfl rfl ?_
        refine r_ldn iX7_barred_23 rfl ?_
        refine call_V2i iX7_barred_24 clX7_161 myX2_farOf rfl rfl rfl rfl (sX2_farOf (M := mset M 38 f) _ _ (by exact ⟨h0, h12⟩) hN) ?_
        try simp only [mset_s, mset_n, mset_mset, ne_eq, Nat.reduceEqDiff, not_false_eq_true]
        rw [hD f i h0 h12, if_pos (hDb i h0 h12).2]
        refine r_stn iX7_barred_27 (by decide) rfl ?_
        refine r_ldn iX7_barred_28 rfl ?_
        refine r_ifge iX7_barred_29 (by omega) (fun h29 => ?_) (fun h29 => ?_)
        · refine r_ldn iX7_barred_35 rfl ?_
          refine r_aldn iX7_barred_36 rfl ?_
          refine r_getr iX7_barred_37 flX7_12 rfl rfl ?_
          refine r_getr iX7_barred_40 flX7_127 rfl rfl ?_
          refine r_ldn iX7_barred_43 rfl ?_
          refine r_ial iX7_barred_44 rfl (by omega) ?_
          refine r_ldn iX7_barred_45 rfl ?_
          refine r_mul iX7_barred_46 ?_
          refine r_add iX7_barred_47 ?_
          refine r_stn iX7_barred_48 (by decide) rfl ?_
          refine r_inc iX7_barred_49 rfl (by decide) rfl ?_
          refine r_goto iX7_barred_52 ?_
          have L1 := ih (i + 1) (itF (M 2) (M 3) (M 6) (M 1 1) (ds0 (M 8 i) f) (M 1 0 - 1).toNat) (some (vi (D i))) (by omega) (by omega) (by omega)
          rw [sg_1 h0] at L1
          exact L1
        · exfalso; omega
  refine r_con iX7_barred_0 ?_
  refine r_stn iX7_barred_1 (by decide) rfl ?_
  refine r_con iX7_barred_2 ?_
  refine r_stn iX7_barred_3 (by decide) rfl ?_
  have L0 := fun w3 => L 6 0 (M 38) w3 (by omega) (by omega) (by omega)
  rw [mset_eq rfl] at L0
  exact L0 _
end CH
