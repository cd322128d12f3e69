/-! the class: public calls that need the ways -/
def AZ (M : Mem) : Prop := ∀ s, 0 ≤ s → s < 40 → (0 ≤ M 22 s ∧ M 22 s ≤ 100) ∧ (M 22 s ≠ 0 → s / 8 < M 1 2 ∧ s % 8 < (wsL (M 1) (M 2) (M 3) (M 8 (s / 8)) (M 9 (s / 8))).length)
theorem FD.wl {M M' : Mem} (h : FD M M') {l : Int} (h0 : 0 ≤ l) (h1 : l < M' 1 2) : WL M' l := (h.1 l h0 (by rw [h.k (k := 1) (by omega)] at h1; exact h1)).1
theorem FD.wb {M M' : Mem} (h : FD M M') (hN : NB M) : WB M' := WB_of (h.nb hN) (fun _ h0 h1 => h.wl h0 h1)
theorem FD.av {M M' : Mem} (h : FD M M') (hN : NB M) (hA : AZ M) : AV M' := by
  have hN1 := h.nb hN
  intro s h0 h1
  rw [h.k (k := 22) (by omega)]
  refine ⟨(hA s h0 h1).1, fun q => ?_⟩
  have a := (hA s h0 h1).2 q
  have e1 : M' 1 2 = M 1 2 := by rw [h.k (k := 1) (by omega)]
  have hw := h.wl (l := s / 8) (by omega) (by omega)
  have hc := hw.1
  rw [h.k (k := 1) (by omega), h.k (k := 2) (by omega), h.k (k := 3) (by omega), h.k (k := 8) (by omega), h.k (k := 9) (by omega)] at hc
  have v := hw.vs hN1 (by omega) (i := s % 8) (by omega) (by omega)
  rw [show 8 * (s / 8) + s % 8 = s by omega] at v
  exact v
theorem ite04 {c : Prop} [Decidable c] : ((if c then (0 : Int) else -4) = 0) ↔ c := by split <;> simp_all
theorem ite04n {c : Prop} [Decidable c] : (¬ (if c then (0 : Int) else -4) = 0) ↔ ¬ c := by split <;> simp_all
section CD
variable {g : Gt} {M : Mem}
theorem sX7_roads_x (d : Nat) (l i : Int) (hlr : -2147483648 ≤ l ∧ l ≤ 2147483647) (h : ¬ (0 ≤ l ∧ l < M 1 2)) (hN : NB M) : Ex LyC g (d + 15) mX7_roads [vr 0, vi l, vi i] M (PI (-1) M) := by
  refine Ex.in [some (vr 0), some (vi l), some (vi i), none] (by decide +kernel) rfl (Nat.le_of_ble_eq_true rfl) ?_ rfl
  refine r_aldn iX7_roads_0 rfl ?_
  refine r_ldn iX7_roads_1 rfl ?_
  refine r_ldn iX7_roads_2 rfl ?_
  refine call_V2i iX7_roads_3 clX7_167 myX7_refusalOfWay rfl rfl rfl rfl (sX7_refusalOfWay_x _ _ _ hlr h hN) ?_
  refine r_stn iX7_roads_6 (by decide) rfl ?_
  refine r_ldn iX7_roads_7 rfl ?_
  refine r_ifeq iX7_roads_8 (by omega) (fun h8 => ?_) (fun h8 => ?_)
  · exfalso; omega
  · refine r_ldn iX7_roads_11 rfl ?_
    refine r_goto iX7_roads_12 ?_
    refine r_iret iX7_roads_28 rfl ?_
    exact ⟨rfl, rfl⟩
theorem sX7_roads_o (d : Nat) (l i : Int) (hir : -2147483648 ≤ i ∧ i ≤ 2147483647) (h : 0 ≤ l ∧ l < M 1 2) (hF : FO M) (hN : NB M) : Ex LyC g (d + 15) mX7_roads [vr 0, vi l, vi i] M (fun r M' => r = some (vi (if 0 ≤ i ∧ i < M' 28 l then M' 29 (8 * l + i) else -4)) ∧ FD M M') := by
  refine Ex.in [some (vr 0), some (vi l), some (vi i), none] (by decide +kernel) rfl (Nat.le_of_ble_eq_true rfl) ?_ rfl
  obtain ⟨hp0, hr, hl, hR, hL⟩ := id hN
  refine r_aldn iX7_roads_0 rfl ?_
  refine r_ldn iX7_roads_1 rfl ?_
  refine r_ldn iX7_roads_2 rfl ?_
  refine call_V2p iX7_roads_3 clX7_167 myX7_refusalOfWay rfl rfl rfl rfl (sX7_refusalOfWay_o _ _ _ (by omega) h hF hN) (fun r3 M3 h3 => ?_)
  obtain ⟨e1, e2⟩ := h3
  subst e1
  have hN1 := e2.nb hN
  have hW1 := e2.wb hN
  have hl1 : M3 1 2 = M 1 2 := by rw [e2.k (k := 1) (by omega)]
  have hwl := hW1 l h.1 (by omega)
  refine r_stn iX7_roads_6 (by decide) rfl ?_
  refine r_ldn iX7_roads_7 rfl ?_
  refine r_ifeq iX7_roads_8 (by split <;> omega) (fun h8 => ?_) (fun h8 => ?_)
  · rw [ite04] at h8
    refine r_aldn iX7_roads_15 rfl ?_
    refine r_getr iX7_roads_16 flX7_32 rfl rfl ?_
    refine r_getr iX7_roads_19 flX7_171 rfl rfl ?_
    refine r_ldn iX7_roads_22 rfl ?_
    refine r_ldn iX7_roads_23 rfl ?_
    refine call_S2i iX7_roads_24 clX7_174 myX7_slot rfl (sX7_slot _ _ _) ?_
    refine r_ial iX7_roads_27 rfl (by omega) ?_
    refine r_iret iX7_roads_28 rfl ?_
    exact ⟨by rw [if_pos h8], e2⟩
  · rw [ne_eq, ite04n] at h8
    refine r_ldn iX7_roads_11 rfl ?_
    refine r_goto iX7_roads_12 ?_
    refine r_iret iX7_roads_28 rfl ?_
    exact ⟨by rw [if_neg h8, if_neg h8], e2⟩
theorem sX7_price_x (d : Nat) (l i : Int) (hlr : -2147483648 ≤ l ∧ l ≤ 2147483647) (h : ¬ (0 ≤ l ∧ l < M 1 2)) (hN : NB M) : Ex LyC g (d + 15) mX7_price [vr 0, vi l, vi i] M (PI (-1) M) := by
  refine Ex.in [some (vr 0), some (vi l), some (vi i), none] (by decide +kernel) rfl (Nat.le_of_ble_eq_true rfl) ?_ rfl
  refine r_aldn iX7_price_0 rfl ?_
  refine r_ldn iX7_price_1 rfl ?_
  refine r_ldn iX7_price_2 rfl ?_
  refine call_V2i iX7_price_3 clX7_167 myX7_refusalOfWay rfl rfl rfl rfl (sX7_refusalOfWay_x _ _ _ hlr h hN) ?_
  refine r_stn iX7_price_6 (by decide) rfl ?_
  refine r_ldn iX7_price_7 rfl ?_
  refine r_ifeq iX7_price_8 (by omega) (fun h8 => ?_) (fun h8 => ?_)
  · exfalso; omega
  · refine r_ldn iX7_price_11 rfl ?_
    refine r_goto iX7_price_12 ?_
    refine r_iret iX7_price_31 rfl ?_
    exact ⟨rfl, rfl⟩
theorem sX7_price_o (d : Nat) (l i : Int) (hir : -2147483648 ≤ i ∧ i ≤ 2147483647) (h : 0 ≤ l ∧ l < M 1 2) (hF : FO M) (hN : NB M) : Ex LyC g (d + 15) mX7_price [vr 0, vi l, vi i] M (fun r M' => r = some (vi (if 0 ≤ i ∧ i < M' 28 l then prC (M' 5) (M' 29) (M' 31) (8 * l + i) else -4)) ∧ FD M M') := by
  refine Ex.in [some (vr 0), some (vi l), some (vi i), none] (by decide +kernel) rfl (Nat.le_of_ble_eq_true rfl) ?_ rfl
  obtain ⟨hp0, hr, hl, hR, hL⟩ := id hN
  refine r_aldn iX7_price_0 rfl ?_
  refine r_ldn iX7_price_1 rfl ?_
  refine r_ldn iX7_price_2 rfl ?_
  refine call_V2p iX7_price_3 clX7_167 myX7_refusalOfWay rfl rfl rfl rfl (sX7_refusalOfWay_o _ _ _ (by omega) h hF hN) (fun r3 M3 h3 => ?_)
  obtain ⟨e1, e2⟩ := h3
  subst e1
  have hN1 := e2.nb hN
  have hW1 := e2.wb hN
  have hl1 : M3 1 2 = M 1 2 := by rw [e2.k (k := 1) (by omega)]
  have hwl := hW1 l h.1 (by omega)
  refine r_stn iX7_price_6 (by decide) rfl ?_
  refine r_ldn iX7_price_7 rfl ?_
  refine r_ifeq iX7_price_8 (by split <;> omega) (fun h8 => ?_) (fun h8 => ?_)
  · rw [ite04] at h8
    refine r_aldn iX7_price_15 rfl ?_
    refine r_getr iX7_price_16 flX7_32 rfl rfl ?_
    refine r_aldn iX7_price_19 rfl ?_
    refine r_getr iX7_price_20 flX7_12 rfl rfl ?_
    refine r_ldn iX7_price_23 rfl ?_
    refine r_ldn iX7_price_24 rfl ?_
    refine call_S2i iX7_price_25 clX7_174 myX7_slot rfl (sX7_slot _ _ _) ?_
    refine call_V2i iX7_price_28 clX7_180 myX6_pricesOf rfl rfl rfl rfl (sX6_pricesOf _ _ (by omega) (hwl.2 i h8.1 h8.2) hN1) ?_
    refine r_iret iX7_price_31 rfl ?_
    exact ⟨by rw [if_pos h8], e2⟩
  · rw [ne_eq, ite04n] at h8
    refine r_ldn iX7_price_11 rfl ?_
    refine r_goto iX7_price_12 ?_
    refine r_iret iX7_price_31 rfl ?_
    exact ⟨by rw [if_neg h8, if_neg h8], e2⟩
theorem sX7_sent_x (d : Nat) (l i : Int) (hlr : -2147483648 ≤ l ∧ l ≤ 2147483647) (h : ¬ (0 ≤ l ∧ l < M 1 2)) (hN : NB M) : Ex LyC g (d + 15) mX7_sent [vr 0, vi l, vi i] M (PI (-1) M) := by
  refine Ex.in [some (vr 0), some (vi l), some (vi i), none] (by decide +kernel) rfl (Nat.le_of_ble_eq_true rfl) ?_ rfl
  refine r_aldn iX7_sent_0 rfl ?_
  refine r_ldn iX7_sent_1 rfl ?_
  refine r_ldn iX7_sent_2 rfl ?_
  refine call_V2i iX7_sent_3 clX7_167 myX7_refusalOfWay rfl rfl rfl rfl (sX7_refusalOfWay_x _ _ _ hlr h hN) ?_
  refine r_stn iX7_sent_6 (by decide) rfl ?_
  refine r_ldn iX7_sent_7 rfl ?_
  refine r_ifeq iX7_sent_8 (by omega) (fun h8 => ?_) (fun h8 => ?_)
  · exfalso; omega
  · refine r_ldn iX7_sent_11 rfl ?_
    refine r_goto iX7_sent_12 ?_
    refine r_iret iX7_sent_28 rfl ?_
    exact ⟨rfl, rfl⟩
theorem sX7_sent_o (d : Nat) (l i : Int) (hir : -2147483648 ≤ i ∧ i ≤ 2147483647) (h : 0 ≤ l ∧ l < M 1 2) (hF : FO M) (hN : NB M) : Ex LyC g (d + 15) mX7_sent [vr 0, vi l, vi i] M (fun r M' => r = some (vi (if 0 ≤ i ∧ i < M' 28 l then M' 22 (8 * l + i) else -4)) ∧ FD M M') := by
  refine Ex.in [some (vr 0), some (vi l), some (vi i), none] (by decide +kernel) rfl (Nat.le_of_ble_eq_true rfl) ?_ rfl
  obtain ⟨hp0, hr, hl, hR, hL⟩ := id hN
  refine r_aldn iX7_sent_0 rfl ?_
  refine r_ldn iX7_sent_1 rfl ?_
  refine r_ldn iX7_sent_2 rfl ?_
  refine call_V2p iX7_sent_3 clX7_167 myX7_refusalOfWay rfl rfl rfl rfl (sX7_refusalOfWay_o _ _ _ (by omega) h hF hN) (fun r3 M3 h3 => ?_)
  obtain ⟨e1, e2⟩ := h3
  subst e1
  have hN1 := e2.nb hN
  have hW1 := e2.wb hN
  have hl1 : M3 1 2 = M 1 2 := by rw [e2.k (k := 1) (by omega)]
  have hwl := hW1 l h.1 (by omega)
  refine r_stn iX7_sent_6 (by decide) rfl ?_
  refine r_ldn iX7_sent_7 rfl ?_
  refine r_ifeq iX7_sent_8 (by split <;> omega) (fun h8 => ?_) (fun h8 => ?_)
  · rw [ite04] at h8
    refine r_aldn iX7_sent_15 rfl ?_
    refine r_getr iX7_sent_16 flX7_22 rfl rfl ?_
    refine r_getr iX7_sent_19 flX7_186 rfl rfl ?_
    refine r_ldn iX7_sent_22 rfl ?_
    refine r_ldn iX7_sent_23 rfl ?_
    refine call_S2i iX7_sent_24 clX7_174 myX7_slot rfl (sX7_slot _ _ _) ?_
    refine r_ial iX7_sent_27 rfl (by omega) ?_
    refine r_iret iX7_sent_28 rfl ?_
    exact ⟨by rw [if_pos h8], e2⟩
  · rw [ne_eq, ite04n] at h8
    refine r_ldn iX7_sent_11 rfl ?_
    refine r_goto iX7_sent_12 ?_
    refine r_iret iX7_sent_28 rfl ?_
    exact ⟨by rw [if_neg h8, if_neg h8], e2⟩
theorem sX7_way_x (d : Nat) (l i k : Int) (hlr : -2147483648 ≤ l ∧ l ≤ 2147483647) (h : ¬ (0 ≤ l ∧ l < M 1 2)) (hN : NB M) : Ex LyC g (d + 15) mX7_way [vr 0, vi l, vi i, vi k] M (PI (-1) M) := by
  refine Ex.in [some (vr 0), some (vi l), some (vi i), some (vi k), none] (by decide +kernel) rfl (Nat.le_of_ble_eq_true rfl) ?_ rfl
  refine r_aldn iX7_way_0 rfl ?_
  refine r_ldn iX7_way_1 rfl ?_
  refine r_ldn iX7_way_2 rfl ?_
  refine call_V2i iX7_way_3 clX7_167 myX7_refusalOfWay rfl rfl rfl rfl (sX7_refusalOfWay_x _ _ _ hlr h hN) ?_
  refine r_st iX7_way_6 (by decide) rfl ?_
  refine r_ld iX7_way_8 rfl ?_
  refine r_ifeq iX7_way_10 (by omega) (fun h10 => ?_) (fun h10 => ?_)
  · exfalso; omega
  · refine r_ld iX7_way_13 rfl ?_
    refine r_iret iX7_way_15 rfl ?_
    exact ⟨rfl, rfl⟩
theorem sX7_way_o (d : Nat) (l i k : Int) (hir : -2147483648 ≤ i ∧ i ≤ 2147483647) (hkr : -2147483648 ≤ k ∧ k ≤ 2147483647) (h : 0 ≤ l ∧ l < M 1 2) (hF : FO M) (hN : NB M) : Ex LyC g (d + 15) mX7_way [vr 0, vi l, vi i, vi k] M (fun r M' => r = some (vi (if (0 ≤ i ∧ i < M' 28 l) ∧ 0 ≤ k ∧ k ≤ M' 29 (8 * l + i) - 1 then M' 31 (8 * (8 * l + i) + k) else -4)) ∧ FD M M') := by
  refine Ex.in [some (vr 0), some (vi l), some (vi i), some (vi k), none] (by decide +kernel) rfl (Nat.le_of_ble_eq_true rfl) ?_ rfl
  obtain ⟨hp0, hr, hl, hR, hL⟩ := id hN
  refine r_aldn iX7_way_0 rfl ?_
  refine r_ldn iX7_way_1 rfl ?_
  refine r_ldn iX7_way_2 rfl ?_
  refine call_V2p iX7_way_3 clX7_167 myX7_refusalOfWay rfl rfl rfl rfl (sX7_refusalOfWay_o _ _ _ (by omega) h hF hN) (fun r3 M3 h3 => ?_)
  obtain ⟨e1, e2⟩ := h3
  subst e1
  have hN1 := e2.nb hN
  have hW1 := e2.wb hN
  have hl1 : M3 1 2 = M 1 2 := by rw [e2.k (k := 1) (by omega)]
  have hwl := hW1 l h.1 (by omega)
  refine r_st iX7_way_6 (by decide) rfl ?_
  refine r_ld iX7_way_8 rfl ?_
  refine r_ifeq iX7_way_10 (by split <;> omega) (fun h10 => ?_) (fun h10 => ?_)
  · rw [ite04] at h10
    have hvi := (hwl.2 i h10.1 h10.2).1
    refine r_ldn iX7_way_16 rfl ?_
    refine r_con iX7_way_17 ?_
    refine r_aldn iX7_way_18 rfl ?_
    refine r_getr iX7_way_19 flX7_32 rfl rfl ?_
    refine r_getr iX7_way_22 flX7_171 rfl rfl ?_
    refine r_ldn iX7_way_25 rfl ?_
    refine r_ldn iX7_way_26 rfl ?_
    refine call_S2i iX7_way_27 clX7_174 myX7_slot rfl (sX7_slot _ _ _) ?_
    refine r_ial iX7_way_30 rfl (by omega) ?_
    refine r_con iX7_way_31 ?_
    refine r_sub iX7_way_32 ?_
    refine call_S3i iX7_way_33 clX7_61 myX7_isWithin rfl (sX7_isWithin _ _ _ _ (by omega)) ?_
    refine r_ifne iX7_way_36 (by split <;> omega) (fun h36 => ?_) (fun h36 => ?_)
    · rw [ne_eq, ite10n] at h36
      refine r_aldn iX7_way_42 rfl ?_
      refine r_getr iX7_way_43 flX7_32 rfl rfl ?_
      refine r_ldn iX7_way_46 rfl ?_
      refine r_ldn iX7_way_47 rfl ?_
      refine call_S2i iX7_way_48 clX7_174 myX7_slot rfl (sX7_slot _ _ _) ?_
      refine r_ldn iX7_way_51 rfl ?_
      refine call_V2i iX7_way_52 clX7_177 myX6_step rfl rfl rfl rfl (sX6_step _ _ _ (by omega)) ?_
      refine r_iret iX7_way_55 rfl ?_
      exact ⟨by rw [if_pos ⟨h10, h36⟩], e2⟩
    · rw [ite10] at h36
      refine r_bip iX7_way_39 (by decide) ?_
      refine r_iret iX7_way_41 rfl ?_
      exact ⟨by rw [if_neg (fun q => h36 q.2)], e2⟩
  · rw [ne_eq, ite04n] at h10
    refine r_ld iX7_way_13 rfl ?_
    refine r_iret iX7_way_15 rfl ?_
    exact ⟨by rw [if_neg h10, if_neg (fun q => h10 q.1)], e2⟩
theorem sX7_cheap_x (d : Nat) (l : Int) (hlr : -2147483648 ≤ l ∧ l ≤ 2147483647) (h : ¬ (0 ≤ l ∧ l < M 1 2)) (hN : NB M) : Ex LyC g (d + 15) mX7_cheap [vr 0, vi l] M (PI (-1) M) := by
  refine Ex.in [some (vr 0), some (vi l), none] (by decide +kernel) rfl (Nat.le_of_ble_eq_true rfl) ?_ rfl
  refine r_aldn iX7_cheap_0 rfl ?_
  refine r_ldn iX7_cheap_1 rfl ?_
  refine r_con iX7_cheap_2 ?_
  refine call_V2i iX7_cheap_3 clX7_167 myX7_refusalOfWay rfl rfl rfl rfl (sX7_refusalOfWay_x _ _ _ hlr h hN) ?_
  refine r_stn iX7_cheap_6 (by decide) rfl ?_
  refine r_ldn iX7_cheap_7 rfl ?_
  refine r_ifeq iX7_cheap_8 (by omega) (fun h8 => ?_) (fun h8 => ?_)
  · exfalso; omega
  · refine r_ldn iX7_cheap_11 rfl ?_
    refine r_goto iX7_cheap_12 ?_
    refine r_iret iX7_cheap_27 rfl ?_
    exact ⟨rfl, rfl⟩
theorem sX7_cheap_o (d : Nat) (l : Int) (h : 0 ≤ l ∧ l < M 1 2) (hF : FO M) (hN : NB M) : Ex LyC g (d + 15) mX7_cheap [vr 0, vi l] M (fun r M' => r = some (vi (if 0 < M' 28 l then mn (fun i => prC (M' 5) (M' 29) (M' 31) (8 * l + i)) (M' 28 l - 1).toNat else -4)) ∧ FD M M') := by
  refine Ex.in [some (vr 0), some (vi l), none] (by decide +kernel) rfl (Nat.le_of_ble_eq_true rfl) ?_ rfl
  obtain ⟨hp0, hr, hl, hR, hL⟩ := id hN
  refine r_aldn iX7_cheap_0 rfl ?_
  refine r_ldn iX7_cheap_1 rfl ?_
  refine r_con iX7_cheap_2 ?_
  refine call_V2p iX7_cheap_3 clX7_167 myX7_refusalOfWay rfl rfl rfl rfl (sX7_refusalOfWay_o _ _ 0 (by omega) h hF hN) (fun r3 M3 h3 => ?_)
  obtain ⟨e1, e2⟩ := h3
  subst e1
  have hN1 := e2.nb hN
  have hW1 := e2.wb hN
  have hl1 : M3 1 2 = M 1 2 := by rw [e2.k (k := 1) (by omega)]
  have hwl := hW1 l h.1 (by omega)
  refine r_stn iX7_cheap_6 (by decide) rfl ?_
  refine r_ldn iX7_cheap_7 rfl ?_
  refine r_ifeq iX7_cheap_8 (by split <;> omega) (fun h8 => ?_) (fun h8 => ?_)
  · rw [ite04] at h8
    refine r_aldn iX7_cheap_15 rfl ?_
    refine r_getr iX7_cheap_16 flX7_32 rfl rfl ?_
    refine r_aldn iX7_cheap_19 rfl ?_
    refine r_getr iX7_cheap_20 flX7_12 rfl rfl ?_
    refine r_ldn iX7_cheap_23 rfl ?_
    refine call_V2i iX7_cheap_24 clX7_183 myX6_cheapest rfl rfl rfl rfl (sX6_cheapest _ _ (by omega) (by omega) hW1 hN1) ?_
    refine r_iret iX7_cheap_27 rfl ?_
    exact ⟨by rw [if_pos h8.2], e2⟩
  · rw [ne_eq, ite04n] at h8
    refine r_ldn iX7_cheap_11 rfl ?_
    refine r_goto iX7_cheap_12 ?_
    refine r_iret iX7_cheap_27 rfl ?_
    exact ⟨by rw [if_neg h8, if_neg (fun q => h8 ⟨by omega, q⟩)], e2⟩
theorem sX7_send_x (d : Nat) (l i v : Int) (hlr : -2147483648 ≤ l ∧ l ≤ 2147483647) (hvr : -2147483648 ≤ v ∧ v ≤ 2147483647) (h : ¬ ((0 ≤ l ∧ l < M 1 2) ∧ 0 ≤ v ∧ v ≤ 100)) (hN : NB M) : Ex LyC g (d + 15) mX7_send [vr 0, vi l, vi i, vi v] M (PI (-1) M) := by
  refine Ex.in [some (vr 0), some (vi l), some (vi i), some (vi v), none] (by decide +kernel) rfl (Nat.le_of_ble_eq_true rfl) ?_ rfl
  obtain ⟨hp0, hr, hl, hR, hL⟩ := id hN
  refine r_aldn iX7_send_0 rfl ?_
  refine r_getr iX7_send_1 flX7_12 rfl rfl ?_
  refine r_ldn iX7_send_4 rfl ?_
  refine call_V1i iX7_send_5 clX7_124 myX3_hasLoad rfl rfl rfl rfl (sX3_hasLoad _ _ (by omega) hN) ?_
  refine r_ifeq iX7_send_8 (by split <;> omega) (fun h8 => ?_) (fun h8 => ?_)
  · rw [ite10] at h8
    refine r_con iX7_send_21 ?_
    refine r_iret iX7_send_22 rfl ?_
    exact ⟨rfl, rfl⟩
  · rw [ne_eq, ite10n] at h8
    refine r_ldn iX7_send_11 rfl ?_
    refine r_con iX7_send_12 ?_
    refine r_bip iX7_send_13 (by decide) ?_
    refine call_S3i iX7_send_15 clX7_61 myX7_isWithin rfl (sX7_isWithin _ _ _ _ (by omega)) ?_
    refine r_ifne iX7_send_18 (by split <;> omega) (fun h18 => ?_) (fun h18 => ?_)
    · rw [ne_eq, ite10n] at h18
      exfalso; omega
    · rw [ite10] at h18
      refine r_con iX7_send_21 ?_
      refine r_iret iX7_send_22 rfl ?_
      exact ⟨rfl, rfl⟩
theorem sX7_send_o (d : Nat) (l i v : Int) (hir : -2147483648 ≤ i ∧ i ≤ 2147483647) (h : (0 ≤ l ∧ l < M 1 2) ∧ 0 ≤ v ∧ v ≤ 100) (hF : FO M) (hN : NB M) : Ex LyC g (d + 15) mX7_send [vr 0, vi l, vi i, vi v] M (fun r M' => ∃ M1, FD M M1 ∧ r = some (vi (if 0 ≤ i ∧ i < M1 28 l then M1 22 (8 * l + i) else -4)) ∧ M' = if 0 ≤ i ∧ i < M1 28 l then mset M1 22 (fset (M1 22) (8 * l + i) v) else M1) := by
  refine Ex.in [some (vr 0), some (vi l), some (vi i), some (vi v), none] (by decide +kernel) rfl (Nat.le_of_ble_eq_true rfl) ?_ rfl
  obtain ⟨hp0, hr, hl, hR, hL⟩ := id hN
  refine r_aldn iX7_send_0 rfl ?_
  refine r_getr iX7_send_1 flX7_12 rfl rfl ?_
  refine r_ldn iX7_send_4 rfl ?_
  refine call_V1i iX7_send_5 clX7_124 myX3_hasLoad rfl rfl rfl rfl (sX3_hasLoad _ _ (by omega) hN) ?_
  refine r_ifeq iX7_send_8 (by split <;> omega) (fun h8 => ?_) (fun h8 => ?_)
  · rw [ite10] at h8
    exfalso; omega
  · rw [ne_eq, ite10n] at h8
    refine r_ldn iX7_send_11 rfl ?_
    refine r_con iX7_send_12 ?_
    refine r_bip iX7_send_13 (by decide) ?_
    refine call_S3i iX7_send_15 clX7_61 myX7_isWithin rfl (sX7_isWithin _ _ _ _ (by omega)) ?_
    refine r_ifne iX7_send_18 (by split <;> omega) (fun h18 => ?_) (fun h18 => ?_)
    · rw [ne_eq, ite10n] at h18
      refine r_aldn iX7_send_23 rfl ?_
      refine call_V0p iX7_send_24 clX7_103 myX7_foundWays rfl rfl rfl rfl (sX7_foundWays _ hF hN) (fun r24 M24 h24 => ?_)
      obtain ⟨e1, e2⟩ := h24
      subst e1
      have hN1 := e2.nb hN
      have hW1 := e2.wb hN
      have hl1 : M24 1 2 = M 1 2 := by rw [e2.k (k := 1) (by omega)]
      refine r_ldn iX7_send_27 rfl ?_
      refine r_ldn iX7_send_28 rfl ?_
      refine call_V2i iX7_send_29 clX7_133 myX6_has rfl rfl rfl rfl (sX6_has _ _ _ (by omega) (by omega) (hW1 l h.1.1 (by omega)).1) ?_
      refine r_ifne iX7_send_32 (by split <;> omega) (fun h32 => ?_) (fun h32 => ?_)
      · rw [ne_eq, ite10n] at h32
        have hcl := (hW1 l h.1.1 (by omega)).1
        refine r_aldn iX7_send_38 rfl ?_
        refine r_getr iX7_send_39 flX7_22 rfl rfl ?_
        refine r_getr iX7_send_42 flX7_186 rfl rfl ?_
        refine r_ldn iX7_send_45 rfl ?_
        refine r_ldn iX7_send_46 rfl ?_
        refine call_S2i iX7_send_47 clX7_174 myX7_slot rfl (sX7_slot _ _ _) ?_
        refine r_ial iX7_send_50 rfl (by omega) ?_
        refine r_st iX7_send_51 (by decide) rfl ?_
        refine r_aldn iX7_send_53 rfl ?_
        refine r_getr iX7_send_54 flX7_22 rfl rfl ?_
        refine r_getr iX7_send_57 flX7_186 rfl rfl ?_
        refine r_ldn iX7_send_60 rfl ?_
        refine r_ldn iX7_send_61 rfl ?_
        refine call_S2i iX7_send_62 clX7_174 myX7_slot rfl (sX7_slot _ _ _) ?_
        refine r_ldn iX7_send_65 rfl ?_
        refine r_ias iX7_send_66 rfl (by omega) ?_
        refine r_ld iX7_send_67 rfl ?_
        refine r_iret iX7_send_69 rfl ?_
        exact ⟨_, e2, by rw [if_pos h32], by rw [if_pos h32]⟩
      · rw [ite10] at h32
        refine r_bip iX7_send_35 (by decide) ?_
        refine r_iret iX7_send_37 rfl ?_
        exact ⟨_, e2, by rw [if_neg h32], by rw [if_neg h32]⟩
    · rw [ite10] at h18
      exfalso; omega
end CD
