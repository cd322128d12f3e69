/-! the sending -/
def clr (f : Int → Int) (b n : Int) : Int → Int := fun j => if b ≤ j ∧ j < b + n then 0 else f j
theorem clr_0 (f : Int → Int) (b : Int) : clr f b 0 = f := by funext j; simp only [clr]; rw [if_neg (by omega)]
theorem clr_1 {f : Int → Int} {b i : Int} (h : 0 ≤ i) : fset (clr f b i) (b + i) 0 = clr f b (i + 1) := by
  funext j
  simp only [clr, fset]
  by_cases hj : j = b + i
  · rw [if_pos hj, if_pos (by omega)]
  · rw [if_neg hj]
    by_cases h2 : b ≤ j ∧ j < b + i
    · rw [if_pos h2, if_pos (by omega)]
    · rw [if_neg h2, if_neg (by omega)]
theorem ov_bd {am mk rm : Int → Int} {r : Int} (h : ∀ s, 0 ≤ s → s < 40 → 0 ≤ am s ∧ am s ≤ 100) (hr : 0 ≤ rm r ∧ rm r ≤ 100) : 0 ≤ ovC am mk rm r ∧ ovC am mk rm r ≤ 4000 := by
  have := us_bd (mk := mk) h r
  unfold ovC
  split <;> omega
theorem mi_le (f : Int → Int) (c : Int) : ∀ n : Nat, mi f c n ≤ c
  | 0 => by simp [mi]
  | n + 1 => by
    have := mi_le f c n
    simp only [mi]
    split <;> omega
theorem fr_bd {am mk rm st rd : Int → Int} (s : Int) : 0 ≤ frC am mk rm st rd s ∧ frC am mk rm st rd s ≤ 100 := by
  have := mi_le (fun k => rm (rd (8 * s + k)) - usC am mk (rd (8 * s + k))) 100 (st s).toNat
  unfold frC
  split <;> omega
theorem pt_bd {am : Int → Int} (l : Int) : 0 ≤ ptC am l ∧ ptC am l ≤ 8 := by
  have h1 := sg_bd (f := fun i => if am (8 * l + i) = 0 then 0 else 1) (lo := 0) (hi := 1) (n := 8) (by omega) (fun i h0 h1 => by split <;> omega)
  unfold ptC
  omega
theorem fpt_bd (f : Int → Int) : ∀ n : Nat, -1 ≤ fpt f n ∧ fpt f n ≤ n
  | 0 => by simp [fpt]
  | n + 1 => by
    have := fpt_bd f n
    simp only [fpt]
    split
    · omega
    · split <;> omega
theorem fpC_bd (am : Int → Int) (l : Int) : -1 ≤ fpC am l ∧ fpC am l ≤ 8 := by
  have := fpt_bd (fun i => am (8 * l + i)) 8
  unfold fpC
  omega
section LG
variable {g : Gt} {M : Mem}
theorem sX4_clearAmounts (d : Nat) : Ex LyC g (d + 1) mX4_clearAmounts [vr 21] M (PV (mset M 22 (fillN (M 22) 40 0))) := by
  refine Ex.in [some (vr 21)] (by decide +kernel) rfl (Nat.le_of_ble_eq_true rfl) ?_ rfl
  refine r_aldn iX4_clearAmounts_0 rfl ?_
  refine r_getr iX4_clearAmounts_1 flX4_9 rfl rfl ?_
  refine r_con iX4_clearAmounts_4 ?_
  refine call_S2v iX4_clearAmounts_5 clX4_21 myJ_fill rfl (sJ_fill _ _ 40 _ rfl (by decide)) ?_
  refine r_vret iX4_clearAmounts_8 rfl ?_
  exact ⟨rfl, rfl⟩
theorem sX4_clear (d : Nat) : Ex LyC g (d + 2) mX4_clear [vr 21] M (PV (mset (mset M 22 (fillN (M 22) 40 0)) 23 (fillN (M 23) 5 0))) := by
  refine Ex.in [some (vr 21)] (by decide +kernel) rfl (Nat.le_of_ble_eq_true rfl) ?_ rfl
  refine r_aldn iX4_clear_0 rfl ?_
  refine call_V0v iX4_clear_1 clX4_18 myX4_clearAmounts rfl rfl rfl rfl (sX4_clearAmounts _) ?_
  refine r_aldn iX4_clear_4 rfl ?_
  refine r_getr iX4_clear_5 flX4_15 rfl rfl ?_
  refine r_con iX4_clear_8 ?_
  refine call_S2v iX4_clear_9 clX4_21 myJ_fill rfl (sJ_fill _ _ 5 _ rfl (by decide)) ?_
  refine r_vret iX4_clear_12 rfl ?_
  exact ⟨rfl, by simp [mset_n]⟩
theorem sX4_clearAmountsOf (d : Nat) (l : Int) (hl0 : 0 ≤ l ∧ l < 5) : Ex LyC g (d + 1) mX4_clearAmountsOf [vr 21, vi l] M (PV (mset M 22 (clr (M 22) (8 * l) 8))) := by
  refine Ex.in [some (vr 21), some (vi l), none] (by decide +kernel) rfl (Nat.le_of_ble_eq_true rfl) ?_ rfl
  have L : ∀ (n9 : Nat) (i : Int), (0 ≤ i) → (i ≤ 8) → 8 - i < n9 → R LyC g mX4_clearAmountsOf (d + 1) 2 [some (vr 21), some (vi l), some (vi i)] [] (mset M 22 (clr (M 22) (8 * l) i)) (PV (mset M 22 (clr (M 22) (8 * l) 8))) := by
    intro n9
    induction n9 with
    | zero =>
      intro i h0 h1 hm9
      omega
    | succ n9 ih =>
      intro i h0 h1 hm9
      refine r_ldn iX4_clearAmountsOf_2 rfl ?_
      refine r_bip iX4_clearAmountsOf_3 (by decide) ?_
      refine r_cge iX4_clearAmountsOf_5 (by omega) (fun h5 => ?_) (fun h5 => ?_)
      · refine r_vret iX4_clearAmountsOf_25 rfl ?_
        rw [show i = 8 by omega]
        exact ⟨rfl, rfl⟩
      · refine r_aldn iX4_clearAmountsOf_8 rfl ?_
        refine r_getr iX4_clearAmountsOf_9 flX4_9 rfl rfl ?_
        refine r_ldn iX4_clearAmountsOf_12 rfl ?_
        refine r_ldn iX4_clearAmountsOf_13 rfl ?_
        refine call_N2i iX4_clearAmountsOf_14 clX4_27 myX7_slot rfl (sX7_slot _ _ _) ?_
        refine r_con iX4_clearAmountsOf_17 ?_
        refine r_ias iX4_clearAmountsOf_18 rfl (by omega) ?_
        refine r_inc iX4_clearAmountsOf_19 rfl (by decide) rfl ?_
        refine r_goto iX4_clearAmountsOf_22 ?_
        rw [mset_s, mset_mset, clr_1 h0]
        exact ih (i + 1) (by omega) (by omega) (by omega)
  refine r_con iX4_clearAmountsOf_0 ?_
  refine r_stn iX4_clearAmountsOf_1 (by decide) rfl ?_
  have L0 := L 9 0 (by omega) (by omega) (by omega)
  rw [clr_0, mset_eq rfl] at L0
  exact L0
theorem sX4_copy_21 (d : Nat) : Ex LyC g (d + 1) mX4_copy [vr 21, vr 24] M (PV (mset (mset M 22 (M 25)) 23 (M 26))) := by
  refine Ex.in [some (vr 21), some (vr 24)] (by decide +kernel) rfl (Nat.le_of_ble_eq_true rfl) ?_ rfl
  refine r_aldn iX4_copy_0 rfl ?_
  refine r_getr iX4_copy_1 flX4_9 rfl rfl ?_
  refine r_con iX4_copy_4 ?_
  refine r_aldn iX4_copy_5 rfl ?_
  refine r_getr iX4_copy_6 flX4_9 rfl rfl ?_
  refine r_con iX4_copy_9 ?_
  refine r_bip iX4_copy_10 (by decide) ?_
  refine r_copy iX4_copy_12 clX4_31 rfl rfl rfl rfl ?_
  refine r_aldn iX4_copy_15 rfl ?_
  refine r_getr iX4_copy_16 flX4_15 rfl rfl ?_
  refine r_con iX4_copy_19 ?_
  refine r_aldn iX4_copy_20 rfl ?_
  refine r_getr iX4_copy_21 flX4_15 rfl rfl ?_
  refine r_con iX4_copy_24 ?_
  refine r_con iX4_copy_25 ?_
  refine r_copy iX4_copy_26 clX4_31 rfl rfl rfl rfl ?_
  refine r_vret iX4_copy_29 rfl ?_
  exact ⟨rfl, by simp [mset_n]⟩
theorem sX4_copy_24 (d : Nat) : Ex LyC g (d + 1) mX4_copy [vr 24, vr 21] M (PV (mset (mset M 25 (M 22)) 26 (M 23))) := by
  refine Ex.in [some (vr 24), some (vr 21)] (by decide +kernel) rfl (Nat.le_of_ble_eq_true rfl) ?_ rfl
  refine r_aldn iX4_copy_0 rfl ?_
  refine r_getr iX4_copy_1 flX4_9 rfl rfl ?_
  refine r_con iX4_copy_4 ?_
  refine r_aldn iX4_copy_5 rfl ?_
  refine r_getr iX4_copy_6 flX4_9 rfl rfl ?_
  refine r_con iX4_copy_9 ?_
  refine r_bip iX4_copy_10 (by decide) ?_
  refine r_copy iX4_copy_12 clX4_31 rfl rfl rfl rfl ?_
  refine r_aldn iX4_copy_15 rfl ?_
  refine r_getr iX4_copy_16 flX4_15 rfl rfl ?_
  refine r_con iX4_copy_19 ?_
  refine r_aldn iX4_copy_20 rfl ?_
  refine r_getr iX4_copy_21 flX4_15 rfl rfl ?_
  refine r_con iX4_copy_24 ?_
  refine r_con iX4_copy_25 ?_
  refine r_copy iX4_copy_26 clX4_31 rfl rfl rfl rfl ?_
  refine r_vret iX4_copy_29 rfl ?_
  exact ⟨rfl, by simp [mset_n]⟩
theorem sX4_total (d : Nat) (l : Int) (hl0 : 0 ≤ l ∧ l < 5) : Ex LyC g (d + 1) mX4_total [vr 21, vi l] M (PI (ttC (M 22) l) M) := by
  refine Ex.in [some (vr 21), some (vi l), none, none] (by decide +kernel) rfl (Nat.le_of_ble_eq_true rfl) ?_ rfl
  have L : ∀ (n9 : Nat) (i a : Int), (0 ≤ i) → (i ≤ 8) → (a = sg (fun i => M 22 (8 * l + i)) i) → 8 - i < n9 → R LyC g mX4_total (d + 1) 4 [some (vr 21), some (vi l), some (vi a), some (vi i)] [] M (PI (ttC (M 22) l) M) := by
    intro n9
    induction n9 with
    | zero =>
      intro i a h0 h1 ha hm9
      omega
    | succ n9 ih =>
      intro i a h0 h1 ha hm9
      refine r_ldn iX4_total_4 rfl ?_
      refine r_bip iX4_total_5 (by decide) ?_
      refine r_cge iX4_total_7 (by omega) (fun h7 => ?_) (fun h7 => ?_)
      · refine r_ldn iX4_total_29 rfl ?_
        refine r_iret iX4_total_30 rfl ?_
        exact ⟨by rw [ha, show i = 8 by omega] <;> rfl, rfl⟩
      · refine r_ldn iX4_total_10 rfl ?_
        refine r_aldn iX4_total_11 rfl ?_
        refine r_getr iX4_total_12 flX4_9 rfl rfl ?_
        refine r_ldn iX4_total_15 rfl ?_
        refine r_ldn iX4_total_16 rfl ?_
        refine call_N2i iX4_total_17 clX4_27 myX7_slot rfl (sX7_slot _ _ _) ?_
        refine r_ial iX4_total_20 rfl (by omega) ?_
        refine r_add iX4_total_21 ?_
        refine r_stn iX4_total_22 (by decide) rfl ?_
        refine r_inc iX4_total_23 rfl (by decide) rfl ?_
        refine r_goto iX4_total_26 ?_
        exact ih (i + 1) _ (by omega) (by omega) (by rw [sg_1 h0, ha]) (by omega)
  refine r_con iX4_total_0 ?_
  refine r_stn iX4_total_1 (by decide) rfl ?_
  refine r_con iX4_total_2 ?_
  refine r_stn iX4_total_3 (by decide) rfl ?_
  exact L 9 0 0 (by omega) (by omega) rfl (by omega)
theorem sX4_totalOfAll (d : Nat) : Ex LyC g (d + 2) mX4_totalOfAll [vr 21] M (PI (sg (fun l => ttC (M 22) l) 5) M) := by
  refine Ex.in [some (vr 21), none, none] (by decide +kernel) rfl (Nat.le_of_ble_eq_true rfl) ?_ rfl
  have L : ∀ (n9 : Nat) (i a : Int), (0 ≤ i) → (i ≤ 5) → (a = sg (fun l => ttC (M 22) l) i) → 5 - i < n9 → R LyC g mX4_totalOfAll (d + 2) 4 [some (vr 21), some (vi a), some (vi i)] [] M (PI (sg (fun l => ttC (M 22) l) 5) M) := by
    intro n9
    induction n9 with
    | zero =>
      intro i a h0 h1 ha hm9
      omega
    | succ n9 ih =>
      intro i a h0 h1 ha hm9
      refine r_ldn iX4_totalOfAll_4 rfl ?_
      refine r_con iX4_totalOfAll_5 ?_
      refine r_cge iX4_totalOfAll_6 (by omega) (fun h6 => ?_) (fun h6 => ?_)
      · refine r_ldn iX4_totalOfAll_23 rfl ?_
        refine r_iret iX4_totalOfAll_24 rfl ?_
        exact ⟨by rw [ha, show i = 5 by omega] <;> rfl, rfl⟩
      · refine r_ldn iX4_totalOfAll_9 rfl ?_
        refine r_aldn iX4_totalOfAll_10 rfl ?_
        refine r_ldn iX4_totalOfAll_11 rfl ?_
        refine call_V1i iX4_totalOfAll_12 clX4_37 myX4_total rfl rfl rfl rfl (sX4_total _ _ (by omega)) ?_
        refine r_add iX4_totalOfAll_15 ?_
        refine r_stn iX4_totalOfAll_16 (by decide) rfl ?_
        refine r_inc iX4_totalOfAll_17 rfl (by decide) rfl ?_
        refine r_goto iX4_totalOfAll_20 ?_
        exact ih (i + 1) _ (by omega) (by omega) (by rw [sg_1 h0, ha]) (by omega)
  refine r_con iX4_totalOfAll_0 ?_
  refine r_stn iX4_totalOfAll_1 (by decide) rfl ?_
  refine r_con iX4_totalOfAll_2 ?_
  refine r_stn iX4_totalOfAll_3 (by decide) rfl ?_
  exact L 6 0 0 (by omega) (by omega) rfl (by omega)
theorem sX4_parts (d : Nat) (l : Int) (hl0 : 0 ≤ l ∧ l < 5) (hA : AV M) : Ex LyC g (d + 1) mX4_parts [vr 21, vi l] M (PI (ptC (M 22) l) M) := by
  refine Ex.in [some (vr 21), some (vi l), none, none] (by decide +kernel) rfl (Nat.le_of_ble_eq_true rfl) ?_ rfl
  have L : ∀ (n9 : Nat) (i a : Int), (0 ≤ i) → (i ≤ 8) → (a = sg (fun i => if M 22 (8 * l + i) = 0 then 0 else 1) i) → 8 - i < n9 → R LyC g mX4_parts (d + 1) 4 [some (vr 21), some (vi l), some (vi a), some (vi i)] [] M (PI (ptC (M 22) l) M) := by
    intro n9
    induction n9 with
    | zero =>
      intro i a h0 h1 ha hm9
      omega
    | succ n9 ih =>
      intro i a h0 h1 ha hm9
      refine r_ldn iX4_parts_4 rfl ?_
      refine r_bip iX4_parts_5 (by decide) ?_
      refine r_cge iX4_parts_7 (by omega) (fun h7 => ?_) (fun h7 => ?_)
      · refine r_ldn iX4_parts_32 rfl ?_
        refine r_iret iX4_parts_33 rfl ?_
        exact ⟨by rw [ha, show i = 8 by omega] <;> rfl, rfl⟩
      · have hai := hA (8 * l + i) (by omega) (by omega)
        refine r_aldn iX4_parts_10 rfl ?_
        refine r_getr iX4_parts_11 flX4_9 rfl rfl ?_
        refine r_ldn iX4_parts_14 rfl ?_
        refine r_ldn iX4_parts_15 rfl ?_
        refine call_N2i iX4_parts_16 clX4_27 myX7_slot rfl (sX7_slot _ _ _) ?_
        refine r_ial iX4_parts_19 rfl (by omega) ?_
        refine r_ifeq iX4_parts_20 (by omega) (fun h20 => ?_) (fun h20 => ?_)
        · refine r_inc iX4_parts_26 rfl (by decide) rfl ?_
          refine r_goto iX4_parts_29 ?_
          exact ih (i + 1) _ (by omega) (by omega) (by rw [sg_1 h0, ha, if_pos h20, Int.add_zero]) (by omega)
        · refine r_inc iX4_parts_23 rfl (by decide) rfl ?_
          refine r_inc iX4_parts_26 rfl (by decide) rfl ?_
          refine r_goto iX4_parts_29 ?_
          exact ih (i + 1) _ (by omega) (by omega) (by rw [sg_1 h0, ha, if_neg h20]) (by omega)
  refine r_con iX4_parts_0 ?_
  refine r_stn iX4_parts_1 (by decide) rfl ?_
  refine r_con iX4_parts_2 ?_
  refine r_stn iX4_parts_3 (by decide) rfl ?_
  exact L 9 0 0 (by omega) (by omega) rfl (by omega)
theorem sX4_firstPart (d : Nat) (l : Int) (hl0 : 0 ≤ l ∧ l < 5) (hA : AV M) : Ex LyC g (d + 1) mX4_firstPart [vr 21, vi l] M (PI (fpC (M 22) l) M) := by
  refine Ex.in [some (vr 21), some (vi l), none] (by decide +kernel) rfl (Nat.le_of_ble_eq_true rfl) ?_ rfl
  have L : ∀ (n9 : Nat) (i : Int), (0 ≤ i) → (i ≤ 8) → (∀ j : Int, 0 ≤ j → j < i → M 22 (8 * l + j) = 0) → 8 - i < n9 → R LyC g mX4_firstPart (d + 1) 2 [some (vr 21), some (vi l), some (vi i)] [] M (PI (fpC (M 22) l) M) := by
    intro n9
    induction n9 with
    | zero =>
      intro i h0 h1 hz hm9
      omega
    | succ n9 ih =>
      intro i h0 h1 hz hm9
      refine r_ldn iX4_firstPart_2 rfl ?_
      refine r_bip iX4_firstPart_3 (by decide) ?_
      refine r_cge iX4_firstPart_5 (by omega) (fun h5 => ?_) (fun h5 => ?_)
      · refine r_con iX4_firstPart_29 ?_
        refine r_iret iX4_firstPart_30 rfl ?_
        exact ⟨by unfold fpC; rw [fpt_no (f := fun i => M 22 (8 * l + i)) (fun j h2 h3 => hz j h2 (by omega))], rfl⟩
      · have hai := hA (8 * l + i) (by omega) (by omega)
        refine r_aldn iX4_firstPart_8 rfl ?_
        refine r_getr iX4_firstPart_9 flX4_9 rfl rfl ?_
        refine r_ldn iX4_firstPart_12 rfl ?_
        refine r_ldn iX4_firstPart_13 rfl ?_
        refine call_N2i iX4_firstPart_14 clX4_27 myX7_slot rfl (sX7_slot _ _ _) ?_
        refine r_ial iX4_firstPart_17 rfl (by omega) ?_
        refine r_ifeq iX4_firstPart_18 (by omega) (fun h18 => ?_) (fun h18 => ?_)
        · refine r_inc iX4_firstPart_23 rfl (by decide) rfl ?_
          refine r_goto iX4_firstPart_26 ?_
          exact ih (i + 1) (by omega) (by omega) (fun j h2 h3 => by by_cases e : j = i; rw [e]; exact h18; exact hz j h2 (by omega)) (by omega)
        · refine r_ldn iX4_firstPart_21 rfl ?_
          refine r_iret iX4_firstPart_22 rfl ?_
          exact ⟨by unfold fpC; rw [fpt_at (f := fun i => M 22 (8 * l + i)) h0 hz h18 (by omega)], rfl⟩
  refine r_con iX4_firstPart_0 ?_
  refine r_stn iX4_firstPart_1 (by decide) rfl ?_
  exact L 9 0 (by omega) (by omega) (fun j h2 h3 => by omega) (by omega)
theorem sX4_usedOn (d : Nat) (r : Int) (hr0 : 0 ≤ r ∧ r ≤ 31) (hA : AV M) : Ex LyC g (d + 1) mX4_usedOn [vr 21, vr 27, vi r] M (PI (usC (M 22) (M 30) r) M) := by
  refine Ex.in [some (vr 21), some (vr 27), some (vi r), none, none] (by decide +kernel) rfl (Nat.le_of_ble_eq_true rfl) ?_ rfl
  have L : ∀ (n9 : Nat) (i a : Int), (0 ≤ i) → (i ≤ 40) → (a = sg (fun s => if M 22 s = 0 then 0 else if bt (M 30 s) r = 0 then 0 else M 22 s) i) → 40 - i < n9 → R LyC g mX4_usedOn (d + 1) 5 [some (vr 21), some (vr 27), some (vi r), some (vi a), some (vi i)] [] M (PI (usC (M 22) (M 30) r) M) := by
    intro n9
    induction n9 with
    | zero =>
      intro i a h0 h1 ha hm9
      omega
    | succ n9 ih =>
      intro i a h0 h1 ha hm9
      refine r_ld iX4_usedOn_5 rfl ?_
      refine r_bip iX4_usedOn_7 (by decide) ?_
      refine r_cge iX4_usedOn_9 (by omega) (fun h9 => ?_) (fun h9 => ?_)
      · refine r_ldn iX4_usedOn_48 rfl ?_
        refine r_iret iX4_usedOn_49 rfl ?_
        exact ⟨by rw [ha, show i = 40 by omega] <;> rfl, rfl⟩
      · have hai := hA i h0 (by omega)
        refine r_aldn iX4_usedOn_12 rfl ?_
        refine r_getr iX4_usedOn_13 flX4_9 rfl rfl ?_
        refine r_ld iX4_usedOn_16 rfl ?_
        refine r_ial iX4_usedOn_18 rfl (by omega) ?_
        refine r_ifeq iX4_usedOn_19 (by omega) (fun h19 => ?_) (fun h19 => ?_)
        · refine r_inc iX4_usedOn_42 rfl (by decide) rfl ?_
          refine r_goto iX4_usedOn_45 ?_
          exact ih (i + 1) _ (by omega) (by omega) (by rw [sg_1 h0, ha, if_pos h19, Int.add_zero]) (by omega)
        · have hvi := (hai.2 h19).2.1
          refine r_aldn iX4_usedOn_22 rfl ?_
          refine r_ld iX4_usedOn_23 rfl ?_
          refine r_ldn iX4_usedOn_25 rfl ?_
          refine call_V2i iX4_usedOn_26 clX4_41 myX6_goesOver rfl rfl rfl rfl (sX6_goesOver _ _ _ (by omega) hr0 (by omega)) ?_
          refine r_ifeq iX4_usedOn_29 (by split <;> omega) (fun h29 => ?_) (fun h29 => ?_)
          · rw [ite01] at h29
            refine r_inc iX4_usedOn_42 rfl (by decide) rfl ?_
            refine r_goto iX4_usedOn_45 ?_
            exact ih (i + 1) _ (by omega) (by omega) (by rw [sg_1 h0, ha, if_neg h19, if_pos h29, Int.add_zero]) (by omega)
          · rw [ne_eq, ite01] at h29
            refine r_ldn iX4_usedOn_32 rfl ?_
            refine r_aldn iX4_usedOn_33 rfl ?_
            refine r_getr iX4_usedOn_34 flX4_9 rfl rfl ?_
            refine r_ld iX4_usedOn_37 rfl ?_
            refine r_ial iX4_usedOn_39 rfl (by omega) ?_
            refine r_add iX4_usedOn_40 ?_
            refine r_stn iX4_usedOn_41 (by decide) rfl ?_
            refine r_inc iX4_usedOn_42 rfl (by decide) rfl ?_
            refine r_goto iX4_usedOn_45 ?_
            exact ih (i + 1) _ (by omega) (by omega) (by rw [sg_1 h0, ha, if_neg h19, if_neg h29]) (by omega)
  refine r_con iX4_usedOn_0 ?_
  refine r_stn iX4_usedOn_1 (by decide) rfl ?_
  refine r_con iX4_usedOn_2 ?_
  refine r_st iX4_usedOn_3 (by decide) rfl ?_
  exact L 41 0 0 (by omega) (by omega) rfl (by omega)
theorem sX4_overOn (d : Nat) (r : Int) (hr0 : 0 ≤ r ∧ r < M 1 1) (hA : AV M) (hN : NB M) : Ex LyC g (d + 2) mX4_overOn [vr 21, vr 1, vr 27, vi r] M (PI (ovC (M 22) (M 30) (M 4) r) M) := by
  refine Ex.in [some (vr 21), some (vr 1), some (vr 27), some (vi r)] (by decide +kernel) rfl (Nat.le_of_ble_eq_true rfl) ?_ rfl
  obtain ⟨hp0, hr, hl, hR, hL⟩ := id hN
  have hri := hR r hr0.1 hr0.2
  have hub := us_bd (mk := M 30) (fun s h0 h1 => (hA s h0 h1).1) r
  refine r_con iX4_overOn_0 ?_
  refine r_aldn iX4_overOn_1 rfl ?_
  refine r_aldn iX4_overOn_2 rfl ?_
  refine r_ldn iX4_overOn_3 rfl ?_
  refine call_V2i iX4_overOn_4 clX4_47 myX4_usedOn rfl rfl rfl rfl (sX4_usedOn _ _ (by omega) hA) ?_
  refine r_aldn iX4_overOn_7 rfl ?_
  refine r_getr iX4_overOn_8 flX4_51 rfl rfl ?_
  refine r_ldn iX4_overOn_11 rfl ?_
  refine r_ial iX4_overOn_12 rfl (by omega) ?_
  refine r_sub iX4_overOn_13 ?_
  refine r_max iX4_overOn_14 clX4_56 rfl (by omega) ?_
  refine r_iret iX4_overOn_17 rfl ?_
  exact ⟨rfl, rfl⟩
theorem sX4_overOnAll (d : Nat) (hA : AV M) (hN : NB M) : Ex LyC g (d + 3) mX4_overOnAll [vr 21, vr 1, vr 27] M (PI (sg (fun r => ovC (M 22) (M 30) (M 4) r) (M 1 1)) M) := by
  refine Ex.in [some (vr 21), some (vr 1), some (vr 27), none, none] (by decide +kernel) rfl (Nat.le_of_ble_eq_true rfl) ?_ rfl
  obtain ⟨hp0, hr, hl, hR, hL⟩ := id hN
  have L : ∀ (n9 : Nat) (i a : Int), (0 ≤ i) → (i ≤ M 1 1) → (a = sg (fun r => ovC (M 22) (M 30) (M 4) r) i) → M 1 1 - i < n9 → R LyC g mX4_overOnAll (d + 3) 5 [some (vr 21), some (vr 1), some (vr 27), some (vi a), some (vi i)] [] M (PI (sg (fun r => ovC (M 22) (M 30) (M 4) r) (M 1 1)) M) := by
    intro n9
    induction n9 with
    | zero =>
      intro i a h0 h1 ha hm9
      omega
    | succ n9 ih =>
      intro i a h0 h1 ha hm9
      refine r_ld iX4_overOnAll_5 rfl ?_
      refine r_aldn iX4_overOnAll_7 rfl ?_
      refine r_geti 1 iX4_overOnAll_8 flX4_61 rfl rfl rfl rfl ?_
      refine r_cge iX4_overOnAll_11 (by omega) (fun h11 => ?_) (fun h11 => ?_)
      · refine r_ldn iX4_overOnAll_31 rfl ?_
        refine r_iret iX4_overOnAll_32 rfl ?_
        exact ⟨by rw [ha, show i = M 1 1 by omega] <;> rfl, rfl⟩
      · refine r_ldn iX4_overOnAll_14 rfl ?_
        refine r_aldn iX4_overOnAll_15 rfl ?_
        refine r_aldn iX4_overOnAll_16 rfl ?_
        refine r_aldn iX4_overOnAll_17 rfl ?_
        refine r_ld iX4_overOnAll_18 rfl ?_
        refine call_V3i iX4_overOnAll_20 clX4_65 myX4_overOn rfl rfl rfl rfl (sX4_overOn _ _ (by omega) hA hN) ?_
        refine r_add iX4_overOnAll_23 ?_
        refine r_stn iX4_overOnAll_24 (by decide) rfl ?_
        refine r_inc iX4_overOnAll_25 rfl (by decide) rfl ?_
        refine r_goto iX4_overOnAll_28 ?_
        exact ih (i + 1) _ (by omega) (by omega) (by rw [sg_1 h0, ha]) (by omega)
  refine r_con iX4_overOnAll_0 ?_
  refine r_stn iX4_overOnAll_1 (by decide) rfl ?_
  refine r_con iX4_overOnAll_2 ?_
  refine r_st iX4_overOnAll_3 (by decide) rfl ?_
  exact L 21 0 0 (by omega) (by omega) rfl (by omega)
theorem sX4_roadsOver (d : Nat) (hA : AV M) (hN : NB M) : Ex LyC g (d + 3) mX4_roadsOver [vr 21, vr 1, vr 27] M (PI (sg (fun r => if 0 < ovC (M 22) (M 30) (M 4) r then 1 else 0) (M 1 1)) M) := by
  refine Ex.in [some (vr 21), some (vr 1), some (vr 27), none, none] (by decide +kernel) rfl (Nat.le_of_ble_eq_true rfl) ?_ rfl
  obtain ⟨hp0, hr, hl, hR, hL⟩ := id hN
  have L : ∀ (n9 : Nat) (i a : Int), (0 ≤ i) → (i ≤ M 1 1) → (a = sg (fun r => if 0 < ovC (M 22) (M 30) (M 4) r then 1 else 0) i) → M 1 1 - i < n9 → R LyC g mX4_roadsOver (d + 3) 5 [some (vr 21), some (vr 1), some (vr 27), some (vi a), some (vi i)] [] M (PI (sg (fun r => if 0 < ovC (M 22) (M 30) (M 4) r then 1 else 0) (M 1 1)) M) := by
    intro n9
    induction n9 with
    | zero =>
      intro i a h0 h1 ha hm9
      omega
    | succ n9 ih =>
      intro i a h0 h1 ha hm9
      refine r_ld iX4_roadsOver_5 rfl ?_
      refine r_aldn iX4_roadsOver_7 rfl ?_
      refine r_geti 1 iX4_roadsOver_8 flX4_61 rfl rfl rfl rfl ?_
      refine r_cge iX4_roadsOver_11 (by omega) (fun h11 => ?_) (fun h11 => ?_)
      · refine r_ldn iX4_roadsOver_34 rfl ?_
        refine r_iret iX4_roadsOver_35 rfl ?_
        exact ⟨by rw [ha, show i = M 1 1 by omega] <;> rfl, rfl⟩
      · have hov := ov_bd (mk := M 30) (fun s h0 h1 => (hA s h0 h1).1) (hR i h0 (by omega)).2.1
        refine r_aldn iX4_roadsOver_14 rfl ?_
        refine r_aldn iX4_roadsOver_15 rfl ?_
        refine r_aldn iX4_roadsOver_16 rfl ?_
        refine r_ld iX4_roadsOver_17 rfl ?_
        refine call_V3i iX4_roadsOver_19 clX4_65 myX4_overOn rfl rfl rfl rfl (sX4_overOn _ _ (by omega) hA hN) ?_
        refine r_ifle iX4_roadsOver_22 (by omega) (fun h22 => ?_) (fun h22 => ?_)
        · refine r_inc iX4_roadsOver_28 rfl (by decide) rfl ?_
          refine r_goto iX4_roadsOver_31 ?_
          exact ih (i + 1) _ (by omega) (by omega) (by rw [sg_1 h0, ha, if_neg (by omega), Int.add_zero]) (by omega)
        · refine r_inc iX4_roadsOver_25 rfl (by decide) rfl ?_
          refine r_inc iX4_roadsOver_28 rfl (by decide) rfl ?_
          refine r_goto iX4_roadsOver_31 ?_
          exact ih (i + 1) _ (by omega) (by omega) (by rw [sg_1 h0, ha, if_pos h22]) (by omega)
  refine r_con iX4_roadsOver_0 ?_
  refine r_stn iX4_roadsOver_1 (by decide) rfl ?_
  refine r_con iX4_roadsOver_2 ?_
  refine r_st iX4_roadsOver_3 (by decide) rfl ?_
  exact L 21 0 0 (by omega) (by omega) rfl (by omega)
theorem sX4_firstOver (d : Nat) (hA : AV M) (hN : NB M) : Ex LyC g (d + 3) mX4_firstOver [vr 21, vr 1, vr 27] M (PI (fpt (fun r => ovC (M 22) (M 30) (M 4) r) (M 1 1).toNat) M) := by
  refine Ex.in [some (vr 21), some (vr 1), some (vr 27), none] (by decide +kernel) rfl (Nat.le_of_ble_eq_true rfl) ?_ rfl
  obtain ⟨hp0, hr, hl, hR, hL⟩ := id hN
  have L : ∀ (n9 : Nat) (i : Int), (0 ≤ i) → (i ≤ M 1 1) → (∀ j : Int, 0 ≤ j → j < i → ovC (M 22) (M 30) (M 4) j = 0) → M 1 1 - i < n9 → R LyC g mX4_firstOver (d + 3) 2 [some (vr 21), some (vr 1), some (vr 27), some (vi i)] [] M (PI (fpt (fun r => ovC (M 22) (M 30) (M 4) r) (M 1 1).toNat) M) := by
    intro n9
    induction n9 with
    | zero =>
      intro i h0 h1 hz hm9
      omega
    | succ n9 ih =>
      intro i h0 h1 hz hm9
      refine r_ldn iX4_firstOver_2 rfl ?_
      refine r_aldn iX4_firstOver_3 rfl ?_
      refine r_geti 1 iX4_firstOver_4 flX4_61 rfl rfl rfl rfl ?_
      refine r_cge iX4_firstOver_7 (by omega) (fun h7 => ?_) (fun h7 => ?_)
      · refine r_con iX4_firstOver_28 ?_
        refine r_iret iX4_firstOver_29 rfl ?_
        exact ⟨by rw [fpt_no (f := fun r => ovC (M 22) (M 30) (M 4) r) (fun j h2 h3 => hz j h2 (by omega))], rfl⟩
      · have hov := ov_bd (mk := M 30) (fun s h0 h1 => (hA s h0 h1).1) (hR i h0 (by omega)).2.1
        refine r_aldn iX4_firstOver_10 rfl ?_
        refine r_aldn iX4_firstOver_11 rfl ?_
        refine r_aldn iX4_firstOver_12 rfl ?_
        refine r_ldn iX4_firstOver_13 rfl ?_
        refine call_V3i iX4_firstOver_14 clX4_65 myX4_overOn rfl rfl rfl rfl (sX4_overOn _ _ (by omega) hA hN) ?_
        refine r_ifle iX4_firstOver_17 (by omega) (fun h17 => ?_) (fun h17 => ?_)
        · refine r_inc iX4_firstOver_22 rfl (by decide) rfl ?_
          refine r_goto iX4_firstOver_25 ?_
          exact ih (i + 1) (by omega) (by omega) (fun j h2 h3 => by by_cases e : j = i; rw [e]; omega; exact hz j h2 (by omega)) (by omega)
        · refine r_ldn iX4_firstOver_20 rfl ?_
          refine r_iret iX4_firstOver_21 rfl ?_
          exact ⟨by rw [fpt_at (f := fun r => ovC (M 22) (M 30) (M 4) r) h0 hz (by omega) (by omega)], rfl⟩
  refine r_con iX4_firstOver_0 ?_
  refine r_stn iX4_firstOver_1 (by decide) rfl ?_
  exact L 21 0 (by omega) (by omega) (fun j h2 h3 => by omega) (by omega)
theorem sX4_cost (d : Nat) (hA : AV M) (hN : NB M) : Ex LyC g (d + 2) mX4_cost [vr 21, vr 1, vr 27] M (PI (coC (M 22) (M 5) (M 29) (M 31)) M) := by
  refine Ex.in [some (vr 21), some (vr 1), some (vr 27), none, none] (by decide +kernel) rfl (Nat.le_of_ble_eq_true rfl) ?_ rfl
  have L : ∀ (n9 : Nat) (i a : Int), (0 ≤ i) → (i ≤ 40) → (a = sg (fun s => if M 22 s = 0 then 0 else M 22 s * prC (M 5) (M 29) (M 31) s) i) → 40 - i < n9 → R LyC g mX4_cost (d + 2) 5 [some (vr 21), some (vr 1), some (vr 27), some (vi a), some (vi i)] [] M (PI (coC (M 22) (M 5) (M 29) (M 31)) M) := by
    intro n9
    induction n9 with
    | zero =>
      intro i a h0 h1 ha hm9
      omega
    | succ n9 ih =>
      intro i a h0 h1 ha hm9
      refine r_ld iX4_cost_5 rfl ?_
      refine r_bip iX4_cost_7 (by decide) ?_
      refine r_cge iX4_cost_9 (by omega) (fun h9 => ?_) (fun h9 => ?_)
      · refine r_ldn iX4_cost_46 rfl ?_
        refine r_iret iX4_cost_47 rfl ?_
        exact ⟨by rw [ha, show i = 40 by omega] <;> rfl, rfl⟩
      · have hai := hA i h0 (by omega)
        refine r_aldn iX4_cost_12 rfl ?_
        refine r_getr iX4_cost_13 flX4_9 rfl rfl ?_
        refine r_ld iX4_cost_16 rfl ?_
        refine r_ial iX4_cost_18 rfl (by omega) ?_
        refine r_ifeq iX4_cost_19 (by omega) (fun h19 => ?_) (fun h19 => ?_)
        · refine r_inc iX4_cost_40 rfl (by decide) rfl ?_
          refine r_goto iX4_cost_43 ?_
          exact ih (i + 1) _ (by omega) (by omega) (by rw [sg_1 h0, ha, if_pos h19, Int.add_zero]) (by omega)
        · refine r_ldn iX4_cost_22 rfl ?_
          refine r_aldn iX4_cost_23 rfl ?_
          refine r_getr iX4_cost_24 flX4_9 rfl rfl ?_
          refine r_ld iX4_cost_27 rfl ?_
          refine r_ial iX4_cost_29 rfl (by omega) ?_
          refine r_aldn iX4_cost_30 rfl ?_
          refine r_aldn iX4_cost_31 rfl ?_
          refine r_ld iX4_cost_32 rfl ?_
          refine call_V2i iX4_cost_34 clX4_69 myX6_pricesOf rfl rfl rfl rfl (sX6_pricesOf _ _ (by omega) (hai.2 h19) hN) ?_
          refine r_mul iX4_cost_37 ?_
          refine r_add iX4_cost_38 ?_
          refine r_stn iX4_cost_39 (by decide) rfl ?_
          refine r_inc iX4_cost_40 rfl (by decide) rfl ?_
          refine r_goto iX4_cost_43 ?_
          exact ih (i + 1) _ (by omega) (by omega) (by rw [sg_1 h0, ha, if_neg h19]) (by omega)
  refine r_con iX4_cost_0 ?_
  refine r_stn iX4_cost_1 (by decide) rfl ?_
  refine r_con iX4_cost_2 ?_
  refine r_st iX4_cost_3 (by decide) rfl ?_
  exact L 41 0 0 (by omega) (by omega) rfl (by omega)
theorem sX4_missing (d : Nat) (l : Int) (h0l : 0 ≤ l ∧ l < M 1 2) (hA : AV M) (hN : NB M) : Ex LyC g (d + 2) mX4_missing [vr 21, vr 1, vi l] M (PI (if 0 < M 10 l - ttC (M 22) l then M 10 l - ttC (M 22) l else 0) M) := by
  refine Ex.in [some (vr 21), some (vr 1), some (vi l)] (by decide +kernel) rfl (Nat.le_of_ble_eq_true rfl) ?_ rfl
  obtain ⟨hp0, hr, hl, hR, hL⟩ := id hN
  have hll := hL l h0l.1 h0l.2
  have htb := tt_bd (am := M 22) (l := l) (fun i h0 h1 => (hA _ (by omega) (by omega)).1)
  refine r_con iX4_missing_0 ?_
  refine r_aldn iX4_missing_1 rfl ?_
  refine r_getr iX4_missing_2 flX4_84 rfl rfl ?_
  refine r_ldn iX4_missing_5 rfl ?_
  refine r_ial iX4_missing_6 rfl (by omega) ?_
  refine r_aldn iX4_missing_7 rfl ?_
  refine r_ldn iX4_missing_8 rfl ?_
  refine call_V1i iX4_missing_9 clX4_37 myX4_total rfl rfl rfl rfl (sX4_total _ _ (by omega)) ?_
  refine r_sub iX4_missing_12 ?_
  refine r_max iX4_missing_13 clX4_56 rfl (by omega) ?_
  refine r_iret iX4_missing_16 rfl ?_
  exact ⟨rfl, rfl⟩
theorem sX4_freeOn (d : Nat) (s : Int) (hs : 0 ≤ s ∧ s < 40) (hv : VS M s) (hA : AV M) (hN : NB M) : Ex LyC g (d + 2) mX4_freeOn [vr 21, vr 1, vr 27, vi s] M (PI (frC (M 22) (M 30) (M 4) (M 29) (M 31) s) M) := by
  refine Ex.in [some (vr 21), some (vr 1), some (vr 27), some (vi s), none, none, none] (by decide +kernel) rfl (Nat.le_of_ble_eq_true rfl) ?_ rfl
  obtain ⟨hp0, hr, hl, hR, hL⟩ := id hN
  obtain ⟨v1, v2, v3⟩ := id hv
  have L : ∀ (n9 : Nat) (i a : Int) (w : Option MV), (0 ≤ i) → (i ≤ M 29 s) → (a = mi (fun k => M 4 (M 31 (8 * s + k)) - usC (M 22) (M 30) (M 31 (8 * s + k))) 100 i.toNat) → (-4000 ≤ a ∧ a ≤ 100) → M 29 s - i < n9 → R LyC g mX4_freeOn (d + 2) 7 [some (vr 21), some (vr 1), some (vr 27), some (vi s), some (vi a), some (vi i), w] [] M (PI (frC (M 22) (M 30) (M 4) (M 29) (M 31) s) M) := by
    intro n9
    induction n9 with
    | zero =>
      intro i a w h0 h1 ha hab hm9
      omega
    | succ n9 ih =>
      intro i a w h0 h1 ha hab hm9
      refine r_ld iX4_freeOn_7 rfl ?_
      refine r_aldn iX4_freeOn_9 rfl ?_
      refine r_getr iX4_freeOn_10 flX4_96 rfl rfl ?_
      refine r_ldn iX4_freeOn_13 rfl ?_
      refine r_ial iX4_freeOn_14 rfl (by omega) ?_
      refine r_cge iX4_freeOn_15 (by omega) (fun h15 => ?_) (fun h15 => ?_)
      · refine r_con iX4_freeOn_55 ?_
        refine r_ld iX4_freeOn_56 rfl ?_
        refine r_max iX4_freeOn_58 clX4_56 rfl (by omega) ?_
        refine r_iret iX4_freeOn_61 rfl ?_
        have e1 : i = M 29 s := by omega
        rw [e1] at ha
        exact ⟨by unfold frC; rw [← ha], rfl⟩
      · have hv3 := v3 i h0 (by omega)
        have hri := hR _ hv3.1 hv3.2
        have hub := us_bd (mk := M 30) (fun s h0 h1 => (hA s h0 h1).1) (M 31 (8 * s + i))
        refine r_aldn iX4_freeOn_18 rfl ?_
        refine r_ldn iX4_freeOn_19 rfl ?_
        refine r_ld iX4_freeOn_20 rfl ?_
        refine call_V2i iX4_freeOn_22 clX4_99 myX6_step rfl rfl rfl rfl (sX6_step _ _ _ (by omega)) ?_
        refine r_st iX4_freeOn_25 (by decide) rfl ?_
        refine r_ld iX4_freeOn_27 rfl ?_
        refine r_aldn iX4_freeOn_29 rfl ?_
        refine r_getr iX4_freeOn_30 flX4_51 rfl rfl ?_
        refine r_ld iX4_freeOn_33 rfl ?_
        refine r_ial iX4_freeOn_35 rfl (by omega) ?_
        refine r_aldn iX4_freeOn_36 rfl ?_
        refine r_aldn iX4_freeOn_37 rfl ?_
        refine r_ld iX4_freeOn_38 rfl ?_
        refine call_V2i iX4_freeOn_40 clX4_47 myX4_usedOn rfl rfl rfl rfl (sX4_usedOn _ _ (by omega) hA) ?_
        refine r_sub iX4_freeOn_43 ?_
        refine r_min iX4_freeOn_44 clX4_102 rfl (by omega) ?_
        refine r_st iX4_freeOn_47 (by decide) rfl ?_
        refine r_inc iX4_freeOn_49 rfl (by decide) rfl ?_
        refine r_goto iX4_freeOn_52 ?_
        exact ih (i + 1) _ _ (by omega) (by omega) (by rw [mi_1 h0, ← ha]) (by split <;> omega) (by omega)
  refine r_bip iX4_freeOn_0 (by decide) ?_
  refine r_st iX4_freeOn_2 (by decide) rfl ?_
  refine r_con iX4_freeOn_4 ?_
  refine r_st iX4_freeOn_5 (by decide) rfl ?_
  exact L 9 0 100 _ (by omega) (by omega) rfl (by omega) (by omega)
theorem sX4_addFree (d : Nat) (s w : Int) (hs : 0 ≤ s ∧ s < 40) (hw : 0 ≤ w ∧ w ≤ 100) (hv : VS M s) (hA : AV M) (hN : NB M) : Ex LyC g (d + 3) mX4_addFree [vr 21, vr 1, vr 27, vi s, vi w] M (PI (if frC (M 22) (M 30) (M 4) (M 29) (M 31) s < w then frC (M 22) (M 30) (M 4) (M 29) (M 31) s else w) (mset M 22 (fset (M 22) s (M 22 s + if frC (M 22) (M 30) (M 4) (M 29) (M 31) s < w then frC (M 22) (M 30) (M 4) (M 29) (M 31) s else w)))) := by
  refine Ex.in [some (vr 21), some (vr 1), some (vr 27), some (vi s), some (vi w), none] (by decide +kernel) rfl (Nat.le_of_ble_eq_true rfl) ?_ rfl
  have hfb := fr_bd (am := M 22) (mk := M 30) (rm := M 4) (st := M 29) (rd := M 31) s
  refine r_ld iX4_addFree_0 rfl ?_
  refine r_aldn iX4_addFree_2 rfl ?_
  refine r_aldn iX4_addFree_3 rfl ?_
  refine r_aldn iX4_addFree_4 rfl ?_
  refine r_ldn iX4_addFree_5 rfl ?_
  refine call_V3i iX4_addFree_6 clX4_105 myX4_freeOn rfl rfl rfl rfl (sX4_freeOn _ _ hs hv hA hN) ?_
  refine r_min iX4_addFree_9 clX4_102 rfl (by omega) ?_
  refine r_st iX4_addFree_12 (by decide) rfl ?_
  refine r_aldn iX4_addFree_14 rfl ?_
  refine r_getr iX4_addFree_15 flX4_9 rfl rfl ?_
  refine r_ldn iX4_addFree_18 rfl ?_
  refine r_dup2 iX4_addFree_19 rfl rfl ?_
  refine r_ial iX4_addFree_20 rfl (by omega) ?_
  refine r_ld iX4_addFree_21 rfl ?_
  refine r_add iX4_addFree_23 ?_
  refine r_ias iX4_addFree_24 rfl (by omega) ?_
  refine r_ld iX4_addFree_25 rfl ?_
  refine r_iret iX4_addFree_27 rfl ?_
  exact ⟨rfl, rfl⟩
theorem sX4_isSentAsItMust (d : Nat) (l : Int) (h0l : 0 ≤ l ∧ l < M 1 2) (hH : 0 ≤ M 23 l ∧ M 23 l ≤ 7) (hA : AV M) (hN : NB M) : Ex LyC g (d + 2) mX4_isSentAsItMust [vr 21, vr 1, vi l] M (PI (if ttC (M 22) l = M 10 l ∧ (M 7 l = 0 ∨ ptC (M 22) l = 1) ∧ (M 7 l < 2 ∨ fpC (M 22) l = M 23 l) then 1 else 0) M) := by
  refine Ex.in [some (vr 21), some (vr 1), some (vi l)] (by decide +kernel) rfl (Nat.le_of_ble_eq_true rfl) ?_ rfl
  obtain ⟨hp0, hr, hl, hR, hL⟩ := id hN
  have hll := hL l h0l.1 h0l.2
  have htb := tt_bd (am := M 22) (l := l) (fun i h0 h1 => (hA _ (by omega) (by omega)).1)
  have hpb := pt_bd (am := M 22) l
  have hfb := fpC_bd (M 22) l
  refine r_aldn iX4_isSentAsItMust_0 rfl ?_
  refine r_ldn iX4_isSentAsItMust_1 rfl ?_
  refine call_V1i iX4_isSentAsItMust_2 clX4_37 myX4_total rfl rfl rfl rfl (sX4_total _ _ (by omega)) ?_
  refine r_aldn iX4_isSentAsItMust_5 rfl ?_
  refine r_getr iX4_isSentAsItMust_6 flX4_84 rfl rfl ?_
  refine r_ldn iX4_isSentAsItMust_9 rfl ?_
  refine r_ial iX4_isSentAsItMust_10 rfl (by omega) ?_
  refine r_ceq iX4_isSentAsItMust_11 (by omega) (fun h11 => ?_) (fun h11 => ?_)
  · refine r_aldn iX4_isSentAsItMust_16 rfl ?_
    refine r_getr iX4_isSentAsItMust_17 flX4_87 rfl rfl ?_
    refine r_ldn iX4_isSentAsItMust_20 rfl ?_
    refine r_ial iX4_isSentAsItMust_21 rfl (by omega) ?_
    by_cases hs1 : M 7 l = 1
    · refine r_look (tgt := 77) (off := 55) iX4_isSentAsItMust_22 (by omega) (by decide) (by rw [hs1]; rfl) (by decide) ?_
      refine r_aldn iX4_isSentAsItMust_77 rfl ?_
      refine r_ldn iX4_isSentAsItMust_78 rfl ?_
      refine call_V1i iX4_isSentAsItMust_79 clX4_90 myX4_parts rfl rfl rfl rfl (sX4_parts _ _ (by omega) hA) ?_
      refine r_con iX4_isSentAsItMust_82 ?_
      refine r_cne iX4_isSentAsItMust_83 (by omega) (fun h83 => ?_) (fun h83 => ?_)
      · refine r_con iX4_isSentAsItMust_90 ?_
        refine r_zret iX4_isSentAsItMust_91 rfl (by omega) ?_
        first | exact ⟨by rw [if_pos (by omega)], rfl⟩ | exact ⟨by rw [if_neg (by omega)], rfl⟩
      · refine r_con iX4_isSentAsItMust_86 ?_
        refine r_goto iX4_isSentAsItMust_87 ?_
        refine r_zret iX4_isSentAsItMust_91 rfl (by omega) ?_
        first | exact ⟨by rw [if_pos (by omega)], rfl⟩ | exact ⟨by rw [if_neg (by omega)], rfl⟩
    by_cases hs2 : M 7 l = 2
    · refine r_look (tgt := 48) (off := 26) iX4_isSentAsItMust_22 (by omega) (by decide) (by rw [hs2]; rfl) (by decide) ?_
      refine r_aldn iX4_isSentAsItMust_48 rfl ?_
      refine r_ldn iX4_isSentAsItMust_49 rfl ?_
      refine call_V1i iX4_isSentAsItMust_50 clX4_90 myX4_parts rfl rfl rfl rfl (sX4_parts _ _ (by omega) hA) ?_
      refine r_con iX4_isSentAsItMust_53 ?_
      refine r_cne iX4_isSentAsItMust_54 (by omega) (fun h54 => ?_) (fun h54 => ?_)
      · refine r_con iX4_isSentAsItMust_75 ?_
        refine r_zret iX4_isSentAsItMust_76 rfl (by omega) ?_
        first | exact ⟨by rw [if_pos (by omega)], rfl⟩ | exact ⟨by rw [if_neg (by omega)], rfl⟩
      · refine r_aldn iX4_isSentAsItMust_57 rfl ?_
        refine r_ldn iX4_isSentAsItMust_58 rfl ?_
        refine call_V1i iX4_isSentAsItMust_59 clX4_93 myX4_firstPart rfl rfl rfl rfl (sX4_firstPart _ _ (by omega) hA) ?_
        refine r_aldn iX4_isSentAsItMust_62 rfl ?_
        refine r_getr iX4_isSentAsItMust_63 flX4_15 rfl rfl ?_
        refine r_ldn iX4_isSentAsItMust_66 rfl ?_
        refine r_ial iX4_isSentAsItMust_67 rfl (by omega) ?_
        refine r_cne iX4_isSentAsItMust_68 (by omega) (fun h68 => ?_) (fun h68 => ?_)
        · refine r_con iX4_isSentAsItMust_75 ?_
          refine r_zret iX4_isSentAsItMust_76 rfl (by omega) ?_
          first | exact ⟨by rw [if_pos (by omega)], rfl⟩ | exact ⟨by rw [if_neg (by omega)], rfl⟩
        · refine r_con iX4_isSentAsItMust_71 ?_
          refine r_goto iX4_isSentAsItMust_72 ?_
          refine r_zret iX4_isSentAsItMust_76 rfl (by omega) ?_
          first | exact ⟨by rw [if_pos (by omega)], rfl⟩ | exact ⟨by rw [if_neg (by omega)], rfl⟩
    have hsd : M 7 l = 0 := by omega
    refine r_look (tgt := 92) (off := 70) iX4_isSentAsItMust_22 (by omega) (by decide) (by rw [hsd]; rfl) (by decide) ?_
    refine r_con iX4_isSentAsItMust_92 ?_
    refine r_zret iX4_isSentAsItMust_93 rfl (by omega) ?_
    first | exact ⟨by rw [if_pos (by omega)], rfl⟩ | exact ⟨by rw [if_neg (by omega)], rfl⟩
  · refine r_con iX4_isSentAsItMust_14 ?_
    refine r_zret iX4_isSentAsItMust_15 rfl (by omega) ?_
    first | exact ⟨by rw [if_pos (by omega)], rfl⟩ | exact ⟨by rw [if_neg (by omega)], rfl⟩
theorem sX4_fits (d : Nat) (b : Int) (hb : b = 0 ∨ b = 1) (hbb : b = 1 ↔ (∀ l, 0 ≤ l → l < M 1 2 → ttC (M 22) l = M 10 l ∧ (M 7 l = 0 ∨ ptC (M 22) l = 1) ∧ (M 7 l < 2 ∨ fpC (M 22) l = M 23 l)) ∧ fpt (fun r => ovC (M 22) (M 30) (M 4) r) (M 1 1).toNat < 0) (hH : ∀ l, 0 ≤ l → l < 5 → 0 ≤ M 23 l ∧ M 23 l ≤ 7) (hA : AV M) (hN : NB M) : Ex LyC g (d + 4) mX4_fits [vr 21, vr 1, vr 27] M (PI b M) := by
  refine Ex.in [some (vr 21), some (vr 1), some (vr 27), none] (by decide +kernel) rfl (Nat.le_of_ble_eq_true rfl) ?_ rfl
  obtain ⟨hp0, hr, hl, hR, hL⟩ := id hN
  have hfp := fpt_bd (fun r => ovC (M 22) (M 30) (M 4) r) (M 1 1).toNat
  have L : ∀ (n9 : Nat) (i : Int), (0 ≤ i) → (i ≤ M 1 2) → (∀ l : Int, 0 ≤ l → l < i → ttC (M 22) l = M 10 l ∧ (M 7 l = 0 ∨ ptC (M 22) l = 1) ∧ (M 7 l < 2 ∨ fpC (M 22) l = M 23 l)) → M 1 2 - i < n9 → R LyC g mX4_fits (d + 4) 2 [some (vr 21), some (vr 1), some (vr 27), some (vi i)] [] M (PI b M) := by
    intro n9
    induction n9 with
    | zero =>
      intro i h0 h1 hz hm9
      omega
    | succ n9 ih =>
      intro i h0 h1 hz hm9
      refine r_ldn iX4_fits_2 rfl ?_
      refine r_aldn iX4_fits_3 rfl ?_
      refine r_geti 2 iX4_fits_4 flX4_73 rfl rfl rfl rfl ?_
      refine r_cge iX4_fits_7 (by omega) (fun h7 => ?_) (fun h7 => ?_)
      · refine r_aldn iX4_fits_27 rfl ?_
        refine r_aldn iX4_fits_28 rfl ?_
        refine r_aldn iX4_fits_29 rfl ?_
        refine call_V2i iX4_fits_30 clX4_80 myX4_firstOver rfl rfl rfl rfl (sX4_firstOver _ hA hN) ?_
        refine r_ifge iX4_fits_33 (by omega) (fun h33 => ?_) (fun h33 => ?_)
        · refine r_con iX4_fits_40 ?_
          refine r_zret iX4_fits_41 rfl (by omega) ?_
          have e0 : b = 0 := by
            rcases hb with e | e
            · exact e
            · exact absurd (hbb.mp e).2 (by omega)
          exact ⟨by rw [e0], rfl⟩
        · refine r_con iX4_fits_36 ?_
          refine r_goto iX4_fits_37 ?_
          refine r_zret iX4_fits_41 rfl (by omega) ?_
          have e0 : b = 1 := by
            refine hbb.mpr ⟨fun l h2 h3 => hz l h2 (by omega), by omega⟩
          exact ⟨by rw [e0], rfl⟩
      · refine r_aldn iX4_fits_10 rfl ?_
        refine r_aldn iX4_fits_11 rfl ?_
        refine r_ldn iX4_fits_12 rfl ?_
        refine call_V2i iX4_fits_13 clX4_76 myX4_isSentAsItMust rfl rfl rfl rfl (sX4_isSentAsItMust _ _ (by omega) (hH i h0 (by omega)) hA hN) ?_
        refine r_ifne iX4_fits_16 (by split <;> omega) (fun h16 => ?_) (fun h16 => ?_)
        · rw [ne_eq, ite10n] at h16
          refine r_inc iX4_fits_21 rfl (by decide) rfl ?_
          refine r_goto iX4_fits_24 ?_
          exact ih (i + 1) (by omega) (by omega) (fun j h2 h3 => by by_cases e : j = i; rw [e]; exact h16; exact hz j h2 (by omega)) (by omega)
        · rw [ite10] at h16
          refine r_con iX4_fits_19 ?_
          refine r_zret iX4_fits_20 rfl (by omega) ?_
          have e0 : b = 0 := by
            rcases hb with e | e
            · exact e
            · exact absurd ((hbb.mp e).1 i h0 (by omega)) h16
          exact ⟨by rw [e0], rfl⟩
  refine r_con iX4_fits_0 ?_
  refine r_stn iX4_fits_1 (by decide) rfl ?_
  exact L 6 0 (by omega) (by omega) (fun j h2 h3 => by omega) (by omega)
end LG
