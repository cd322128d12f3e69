section RH
variable {g : Gt} {M : Mem}
theorem sX8_fill_x (d : Nat) (l : Int) (hlr : -2147483648 ≤ l ∧ l ≤ 2147483647) (h : ¬ (0 ≤ l ∧ l < M 0 6)) (hN : NBm M) : Ex LyM g (d + 3) mX8_fill [vr 0, vi l] M (PI (-1) M) := by
  refine Ex.in [some (vr 0), some (vi l), none, none, none, none, none] (by decide +kernel) rfl (Nat.le_of_ble_eq_true rfl) ?_ rfl
  refine r_aldn iX8_fill_0 rfl ?_
  refine r_ldn iX8_fill_1 rfl ?_
  refine call_V1i iX8_fill_2 clX8_142 myX8_isLoad rfl rfl rfl rfl (sX8_isLoad _ _ (by omega) hN) ?_
  refine r_ifne iX8_fill_5 (by split <;> omega) (fun h5 => ?_) (fun h5 => ?_)
  · rw [ne_eq, ite10n] at h5
    exact absurd h5 h
  · rw [ite10] at h5
    refine r_con iX8_fill_8 ?_
    refine r_iret iX8_fill_9 rfl ?_
    exact ⟨rfl, rfl⟩
theorem sX8_fill_z (d : Nat) (l : Int) (h : 0 ≤ l ∧ l < M 0 6) (hW : WBm M) (hA : AVm M) (hN : NBm M) (hz : (M 8 l - seM (M 11) (M 10) l) ≤ 0) : Ex LyM g (d + 3) mX8_fill [vr 0, vi l] M (PI 0 M) := by
  refine Ex.in [some (vr 0), some (vi l), none, none, none, none, none] (by decide +kernel) rfl (Nat.le_of_ble_eq_true rfl) ?_ rfl
  obtain ⟨hp0, hr, hl, hR, hL⟩ := id hN
  have hll := hL l h.1 h.2
  have hwl := hW l h.1 h.2
  have hsb := seM_bd hW hA (l := l) h
  have hnb := nzM_bd hW (l := l) h
  refine r_aldn iX8_fill_0 rfl ?_
  refine r_ldn iX8_fill_1 rfl ?_
  refine call_V1i iX8_fill_2 clX8_142 myX8_isLoad rfl rfl rfl rfl (sX8_isLoad _ _ (by omega) hN) ?_
  refine r_ifne iX8_fill_5 (by split <;> omega) (fun h5 => ?_) (fun h5 => ?_)
  · rw [ne_eq, ite10n] at h5
    refine r_aldn iX8_fill_10 rfl ?_
    refine r_getr iX8_fill_11 flX8_35 rfl rfl ?_
    refine r_ldn iX8_fill_14 rfl ?_
    refine r_ial iX8_fill_15 rfl (by omega) ?_
    refine r_aldn iX8_fill_16 rfl ?_
    refine r_ldn iX8_fill_17 rfl ?_
    refine call_V1i iX8_fill_18 clX8_148 myX8_sentOf rfl rfl rfl rfl (sX8_sentOf _ _ (by omega) hW hN) ?_
    refine r_sub iX8_fill_21 ?_
    refine r_stn iX8_fill_22 (by decide) rfl ?_
    refine r_ldn iX8_fill_23 rfl ?_
    refine r_ifgt iX8_fill_24 (by omega) (fun h24 => ?_) (fun h24 => ?_)
    · exfalso; omega
    · refine r_con iX8_fill_27 ?_
      refine r_iret iX8_fill_28 rfl ?_
      exact ⟨rfl, rfl⟩
  · rw [ite10] at h5
    exact absurd h h5
theorem sX8_fill_0 (d : Nat) (l : Int) (h : 0 ≤ l ∧ l < M 0 6) (hW : WBm M) (hA : AVm M) (hN : NBm M) (hz : 0 < (M 8 l - seM (M 11) (M 10) l)) (hk : M 5 l = 0) : Ex LyM g (d + 3) mX8_fill [vr 0, vi l] M (PI (fls (fun am s => frM (M 11) (M 12) (M 13) am (M 2) (M 0 6) (M 0 1) s) (8 * l) (M 8 l - seM (M 11) (M 10) l) (M 10) (M 11 l).toNat).2 (mset M 10 (fls (fun am s => frM (M 11) (M 12) (M 13) am (M 2) (M 0 6) (M 0 1) s) (8 * l) (M 8 l - seM (M 11) (M 10) l) (M 10) (M 11 l).toNat).1)) := by
  refine Ex.in [some (vr 0), some (vi l), none, none, none, none, none] (by decide +kernel) rfl (Nat.le_of_ble_eq_true rfl) ?_ rfl
  obtain ⟨hp0, hr, hl, hR, hL⟩ := id hN
  have hll := hL l h.1 h.2
  have hwl := hW l h.1 h.2
  have hsb := seM_bd hW hA (l := l) h
  have hnb := nzM_bd hW (l := l) h
  have L : ∀ (n9 : Nat) (i a : Int) (f : Int → Int) (w : Option MV) (n4 : Int), (0 ≤ i) → (i ≤ M 11 l) → ((fls (fun am s => frM (M 11) (M 12) (M 13) am (M 2) (M 0 6) (M 0 1) s) (8 * l) (M 8 l - seM (M 11) (M 10) l) (M 10) i.toNat) = (f, a)) → (0 ≤ a ∧ a ≤ (M 8 l - seM (M 11) (M 10) l)) → (seM (M 11) f l = seM (M 11) (M 10) l + a) → (∀ j, 0 ≤ j → j < M 0 6 → ∀ i, 0 ≤ i → i < 8 → 0 ≤ f (8 * j + i) ∧ f (8 * j + i) ≤ 100) → M 11 l - i < n9 → R LyM g mX8_fill (d + 3) 49 [some (vr 0), some (vi l), some (vi (M 8 l - seM (M 11) (M 10) l)), some (vi a), some (vi n4), some (vi i), w] [] (mset M 10 f) (PI (fls (fun am s => frM (M 11) (M 12) (M 13) am (M 2) (M 0 6) (M 0 1) s) (8 * l) (M 8 l - seM (M 11) (M 10) l) (M 10) (M 11 l).toNat).2 (mset M 10 (fls (fun am s => frM (M 11) (M 12) (M 13) am (M 2) (M 0 6) (M 0 1) s) (8 * l) (M 8 l - seM (M 11) (M 10) l) (M 10) (M 11 l).toNat).1)) := by
    intro n9
    induction n9 with
    | zero =>
      intro i a f w n4 h0 h1 he ha ht hf hm9
      omega
    | succ n9 ih =>
      intro i a f w n4 h0 h1 he ha ht hf hm9
      refine r_ld iX8_fill_49 rfl ?_
      refine r_aldn iX8_fill_51 rfl ?_
      refine r_getr iX8_fill_52 flX8_44 rfl rfl ?_
      refine r_ldn iX8_fill_55 rfl ?_
      refine r_ial iX8_fill_56 rfl (by omega) ?_
      try simp only [mset_s, mset_n, mset_mset, fset_s, ne_eq, Nat.reduceEqDiff, not_false_eq_true]
      refine r_cge iX8_fill_57 (by omega) (fun h57 => ?_) (fun h57 => ?_)
      · refine r_ldn iX8_fill_168 rfl ?_
        refine r_iret iX8_fill_169 rfl ?_
        rw [show i = M 11 l by omega] at he
        exact ⟨by rw [he], by rw [he]⟩
      · have hvi := hwl.2 i h0 (by omega)
        have hx := frM_bd (M 11) (M 12) (M 13) f (M 2) (M 0 6) (M 0 1) (8 * l + i)
        have hfi := hf l h.1 h.2 i h0 (by omega)
        have hpi := seM_part (wm := M 11) (am := f) (l := l) (fun i h2 h3 => (hf l h.1 h.2 i h2 (by omega)).1) h0 (by omega)
        refine r_aldn iX8_fill_60 rfl ?_
        refine r_ldn iX8_fill_61 rfl ?_
        refine r_ld iX8_fill_62 rfl ?_
        refine call_V2i iX8_fill_64 clX8_167 myX8_free rfl rfl rfl rfl (sX8_free (M := mset M 10 f) _ _ _ (by omega) hvi hW hf hN) ?_
        simp only [mset_s, mset_n, ne_eq, Nat.reduceEqDiff, not_false_eq_true]
        refine r_st iX8_fill_67 (by decide) rfl ?_
        refine r_aldn iX8_fill_69 rfl ?_
        refine r_getr iX8_fill_70 flX8_26 rfl rfl ?_
        refine r_ldn iX8_fill_73 rfl ?_
        refine r_ial iX8_fill_74 rfl (by omega) ?_
        try simp only [mset_s, mset_n, mset_mset, fset_s, ne_eq, Nat.reduceEqDiff, not_false_eq_true]
        refine r_ifeq iX8_fill_75 (by omega) (fun h75 => ?_) (fun h75 => ?_)
        · refine r_ldn iX8_fill_99 rfl ?_
          refine r_aldn iX8_fill_100 rfl ?_
          refine r_ldn iX8_fill_101 rfl ?_
          refine r_ld iX8_fill_102 rfl ?_
          refine r_ld iX8_fill_104 rfl ?_
          refine r_ldn iX8_fill_106 rfl ?_
          refine r_ldn iX8_fill_107 rfl ?_
          refine r_sub iX8_fill_108 ?_
          refine r_cge iX8_fill_109 (by omega) (fun h109 => ?_) (fun h109 => ?_)
          · refine r_ldn iX8_fill_117 rfl ?_
            refine r_ldn iX8_fill_118 rfl ?_
            refine r_sub iX8_fill_119 ?_
            refine call_V3i iX8_fill_120 clX8_170 myX8_add rfl rfl rfl rfl (sX8_add (M := mset M 10 f) _ _ _ _ (by omega)) ?_
            simp only [mset_s, mset_mset]
            refine r_add iX8_fill_123 ?_
            refine r_stn iX8_fill_124 (by decide) rfl ?_
            refine r_goto iX8_fill_125 ?_
            refine r_inc iX8_fill_162 rfl (by decide) rfl ?_
            refine r_goto iX8_fill_165 ?_
            have e1 := fls_1 h0 he
            have ex : (if frM (M 11) (M 12) (M 13) f (M 2) (M 0 6) (M 0 1) (8 * l + i) < (M 8 l - seM (M 11) (M 10) l) - a then frM (M 11) (M 12) (M 13) f (M 2) (M 0 6) (M 0 1) (8 * l + i) else (M 8 l - seM (M 11) (M 10) l) - a) = (M 8 l - seM (M 11) (M 10) l) - a := if_neg (by omega)
            simp only [ex] at e1
            refine ih (i + 1) _ _ _ _ (by omega) (by omega) e1 (by omega) ?_ ?_ (by omega)
            · rw [seM_fset h0 (by omega)]; omega
            · intro j z1 z2 k z3 z4
              by_cases e : 8 * j + k = 8 * l + i
              · rw [e, fset_s]; omega
              · rw [fset_n e]; exact hf j z1 z2 k z3 z4
          · refine r_ld iX8_fill_112 rfl ?_
            refine r_goto iX8_fill_114 ?_
            refine call_V3i iX8_fill_120 clX8_170 myX8_add rfl rfl rfl rfl (sX8_add (M := mset M 10 f) _ _ _ _ (by omega)) ?_
            simp only [mset_s, mset_mset]
            refine r_add iX8_fill_123 ?_
            refine r_stn iX8_fill_124 (by decide) rfl ?_
            refine r_goto iX8_fill_125 ?_
            refine r_inc iX8_fill_162 rfl (by decide) rfl ?_
            refine r_goto iX8_fill_165 ?_
            have e1 := fls_1 h0 he
            have ex : (if frM (M 11) (M 12) (M 13) f (M 2) (M 0 6) (M 0 1) (8 * l + i) < (M 8 l - seM (M 11) (M 10) l) - a then frM (M 11) (M 12) (M 13) f (M 2) (M 0 6) (M 0 1) (8 * l + i) else (M 8 l - seM (M 11) (M 10) l) - a) = frM (M 11) (M 12) (M 13) f (M 2) (M 0 6) (M 0 1) (8 * l + i) := if_pos h109
            simp only [ex] at e1
            refine ih (i + 1) _ _ _ _ (by omega) (by omega) e1 (by omega) ?_ ?_ (by omega)
            · rw [seM_fset h0 (by omega)]; omega
            · intro j z1 z2 k z3 z4
              by_cases e : 8 * j + k = 8 * l + i
              · rw [e, fset_s]; omega
              · rw [fset_n e]; exact hf j z1 z2 k z3 z4
        · exfalso; omega
  refine r_aldn iX8_fill_0 rfl ?_
  refine r_ldn iX8_fill_1 rfl ?_
  refine call_V1i iX8_fill_2 clX8_142 myX8_isLoad rfl rfl rfl rfl (sX8_isLoad _ _ (by omega) hN) ?_
  refine r_ifne iX8_fill_5 (by split <;> omega) (fun h5 => ?_) (fun h5 => ?_)
  · rw [ne_eq, ite10n] at h5
    refine r_aldn iX8_fill_10 rfl ?_
    refine r_getr iX8_fill_11 flX8_35 rfl rfl ?_
    refine r_ldn iX8_fill_14 rfl ?_
    refine r_ial iX8_fill_15 rfl (by omega) ?_
    refine r_aldn iX8_fill_16 rfl ?_
    refine r_ldn iX8_fill_17 rfl ?_
    refine call_V1i iX8_fill_18 clX8_148 myX8_sentOf rfl rfl rfl rfl (sX8_sentOf _ _ (by omega) hW hN) ?_
    refine r_sub iX8_fill_21 ?_
    refine r_stn iX8_fill_22 (by decide) rfl ?_
    refine r_ldn iX8_fill_23 rfl ?_
    refine r_ifgt iX8_fill_24 (by omega) (fun h24 => ?_) (fun h24 => ?_)
    · refine r_con iX8_fill_29 ?_
      refine r_stn iX8_fill_30 (by decide) rfl ?_
      refine r_aldn iX8_fill_31 rfl ?_
      refine r_ldn iX8_fill_32 rfl ?_
      refine call_V1i iX8_fill_33 clX8_161 myX8_amountMany rfl rfl rfl rfl (sX8_amountMany _ _ (by omega) hW hA hN) ?_
      refine r_ifne iX8_fill_36 (by omega) (fun h36 => ?_) (fun h36 => ?_)
      · refine r_con iX8_fill_43 ?_
        refine r_st iX8_fill_44 (by decide) rfl ?_
        refine r_con iX8_fill_46 ?_
        refine r_st iX8_fill_47 (by decide) rfl ?_
        have L0 := fun (w : Option MV) (n4 : Int) => L 9 0 0 (M 10) w n4 (by omega) (by omega) rfl (by omega) (by omega) hA (by omega)
        rw [mset_eq rfl] at L0
        exact L0 _ _
      · refine r_con iX8_fill_39 ?_
        refine r_goto iX8_fill_40 ?_
        refine r_st iX8_fill_44 (by decide) rfl ?_
        refine r_con iX8_fill_46 ?_
        refine r_st iX8_fill_47 (by decide) rfl ?_
        have L0 := fun (w : Option MV) (n4 : Int) => L 9 0 0 (M 10) w n4 (by omega) (by omega) rfl (by omega) (by omega) hA (by omega)
        rw [mset_eq rfl] at L0
        exact L0 _ _
    · exfalso; omega
  · rw [ite10] at h5
    exact absurd h h5
theorem sX8_fill_2y (d : Nat) (l : Int) (h : 0 ≤ l ∧ l < M 0 6) (hW : WBm M) (hA : AVm M) (hN : NBm M) (hz : 0 < (M 8 l - seM (M 11) (M 10) l)) (hk : M 5 l = 2) (hh : 0 ≤ M 9 l ∧ M 9 l ≤ 7) (hc : M 9 l < M 11 l) : Ex LyM g (d + 3) mX8_fill [vr 0, vi l] M (PI (if frM (M 11) (M 12) (M 13) (M 10) (M 2) (M 0 6) (M 0 1) (8 * l + M 9 l) < (M 8 l - seM (M 11) (M 10) l) then frM (M 11) (M 12) (M 13) (M 10) (M 2) (M 0 6) (M 0 1) (8 * l + M 9 l) else (M 8 l - seM (M 11) (M 10) l)) (mset M 10 (fset (M 10) (8 * l + M 9 l) (M 10 (8 * l + M 9 l) + (if frM (M 11) (M 12) (M 13) (M 10) (M 2) (M 0 6) (M 0 1) (8 * l + M 9 l) < (M 8 l - seM (M 11) (M 10) l) then frM (M 11) (M 12) (M 13) (M 10) (M 2) (M 0 6) (M 0 1) (8 * l + M 9 l) else (M 8 l - seM (M 11) (M 10) l)))))) := by
  refine Ex.in [some (vr 0), some (vi l), none, none, none, none, none] (by decide +kernel) rfl (Nat.le_of_ble_eq_true rfl) ?_ rfl
  obtain ⟨hp0, hr, hl, hR, hL⟩ := id hN
  have hll := hL l h.1 h.2
  have hwl := hW l h.1 h.2
  have hsb := seM_bd hW hA (l := l) h
  have hnb := nzM_bd hW (l := l) h
  have L2 : ∀ (n9 : Nat) (i : Int) (w : Option MV) (n4 : Int), (M 9 l < i) → (i ≤ M 11 l) → M 11 l - i < n9 → R LyM g mX8_fill (d + 3) 49 [some (vr 0), some (vi l), some (vi (M 8 l - seM (M 11) (M 10) l)), some (vi (if frM (M 11) (M 12) (M 13) (M 10) (M 2) (M 0 6) (M 0 1) (8 * l + M 9 l) < (M 8 l - seM (M 11) (M 10) l) then frM (M 11) (M 12) (M 13) (M 10) (M 2) (M 0 6) (M 0 1) (8 * l + M 9 l) else (M 8 l - seM (M 11) (M 10) l))), some (vi n4), some (vi i), w] [] (mset M 10 (fset (M 10) (8 * l + M 9 l) (M 10 (8 * l + M 9 l) + (if frM (M 11) (M 12) (M 13) (M 10) (M 2) (M 0 6) (M 0 1) (8 * l + M 9 l) < (M 8 l - seM (M 11) (M 10) l) then frM (M 11) (M 12) (M 13) (M 10) (M 2) (M 0 6) (M 0 1) (8 * l + M 9 l) else (M 8 l - seM (M 11) (M 10) l))))) (PI (if frM (M 11) (M 12) (M 13) (M 10) (M 2) (M 0 6) (M 0 1) (8 * l + M 9 l) < (M 8 l - seM (M 11) (M 10) l) then frM (M 11) (M 12) (M 13) (M 10) (M 2) (M 0 6) (M 0 1) (8 * l + M 9 l) else (M 8 l - seM (M 11) (M 10) l)) (mset M 10 (fset (M 10) (8 * l + M 9 l) (M 10 (8 * l + M 9 l) + (if frM (M 11) (M 12) (M 13) (M 10) (M 2) (M 0 6) (M 0 1) (8 * l + M 9 l) < (M 8 l - seM (M 11) (M 10) l) then frM (M 11) (M 12) (M 13) (M 10) (M 2) (M 0 6) (M 0 1) (8 * l + M 9 l) else (M 8 l - seM (M 11) (M 10) l)))))) := by
    intro n9
    induction n9 with
    | zero =>
      intro i w n4 h0 h1 hm9
      omega
    | succ n9 ih =>
      intro i w n4 h0 h1 hm9
      have hfx := frM_bd (M 11) (M 12) (M 13) (M 10) (M 2) (M 0 6) (M 0 1) (8 * l + M 9 l)
      have hAf : AVm (mset M 10 (fset (M 10) (8 * l + M 9 l) (M 10 (8 * l + M 9 l) + (if frM (M 11) (M 12) (M 13) (M 10) (M 2) (M 0 6) (M 0 1) (8 * l + M 9 l) < (M 8 l - seM (M 11) (M 10) l) then frM (M 11) (M 12) (M 13) (M 10) (M 2) (M 0 6) (M 0 1) (8 * l + M 9 l) else (M 8 l - seM (M 11) (M 10) l))))) := by
        intro j z1 z2 k z3 z4
        show 0 ≤ fset (M 10) _ _ (8 * j + k) ∧ fset (M 10) _ _ (8 * j + k) ≤ 100
        have h9 := hA l h.1 h.2 (M 9 l) hh.1 (by omega)
        have hp := seM_part (wm := M 11) (am := M 10) (l := l) (fun i h2 h3 => (hA l h.1 h.2 i h2 (by omega)).1) hh.1 hc
        by_cases e : 8 * j + k = 8 * l + M 9 l
        · rw [e, fset_s]; split <;> omega
        · rw [fset_n e]; exact hA j z1 z2 k z3 z4
      refine r_ld iX8_fill_49 rfl ?_
      refine r_aldn iX8_fill_51 rfl ?_
      refine r_getr iX8_fill_52 flX8_44 rfl rfl ?_
      refine r_ldn iX8_fill_55 rfl ?_
      refine r_ial iX8_fill_56 rfl (by omega) ?_
      try simp only [mset_s, mset_n, mset_mset, fset_s, ne_eq, Nat.reduceEqDiff, not_false_eq_true]
      refine r_cge iX8_fill_57 (by omega) (fun h57 => ?_) (fun h57 => ?_)
      · refine r_ldn iX8_fill_168 rfl ?_
        refine r_iret iX8_fill_169 rfl ?_
        exact ⟨rfl, rfl⟩
      · have hx := frM_bd (M 11) (M 12) (M 13) (fset (M 10) (8 * l + M 9 l) (M 10 (8 * l + M 9 l) + (if frM (M 11) (M 12) (M 13) (M 10) (M 2) (M 0 6) (M 0 1) (8 * l + M 9 l) < (M 8 l - seM (M 11) (M 10) l) then frM (M 11) (M 12) (M 13) (M 10) (M 2) (M 0 6) (M 0 1) (8 * l + M 9 l) else (M 8 l - seM (M 11) (M 10) l)))) (M 2) (M 0 6) (M 0 1) (8 * l + i)
        refine r_aldn iX8_fill_60 rfl ?_
        refine r_ldn iX8_fill_61 rfl ?_
        refine r_ld iX8_fill_62 rfl ?_
        refine call_V2i iX8_fill_64 clX8_167 myX8_free rfl rfl rfl rfl (sX8_free (M := mset M 10 (fset (M 10) (8 * l + M 9 l) (M 10 (8 * l + M 9 l) + (if frM (M 11) (M 12) (M 13) (M 10) (M 2) (M 0 6) (M 0 1) (8 * l + M 9 l) < (M 8 l - seM (M 11) (M 10) l) then frM (M 11) (M 12) (M 13) (M 10) (M 2) (M 0 6) (M 0 1) (8 * l + M 9 l) else (M 8 l - seM (M 11) (M 10) l))))) _ _ _ (by omega) (hwl.2 i (by omega) (by omega)) hW hAf hN) ?_
        try simp only [mset_s, mset_n, mset_mset, fset_s, ne_eq, Nat.reduceEqDiff, not_false_eq_true]
        refine r_st iX8_fill_67 (by decide) rfl ?_
        refine r_aldn iX8_fill_69 rfl ?_
        refine r_getr iX8_fill_70 flX8_26 rfl rfl ?_
        refine r_ldn iX8_fill_73 rfl ?_
        refine r_ial iX8_fill_74 rfl (by omega) ?_
        try simp only [mset_s, mset_n, mset_mset, fset_s, ne_eq, Nat.reduceEqDiff, not_false_eq_true]
        refine r_ifeq iX8_fill_75 (by omega) (fun h75 => ?_) (fun h75 => ?_)
        · exfalso; omega
        · refine r_aldn iX8_fill_78 rfl ?_
          refine r_getr iX8_fill_79 flX8_26 rfl rfl ?_
          refine r_ldn iX8_fill_82 rfl ?_
          refine r_ial iX8_fill_83 rfl (by omega) ?_
          refine r_con iX8_fill_84 ?_
          try simp only [mset_s, mset_n, mset_mset, fset_s, ne_eq, Nat.reduceEqDiff, not_false_eq_true]
          refine r_cne iX8_fill_85 (by omega) (fun h85 => ?_) (fun h85 => ?_)
          · refine r_aldn iX8_fill_128 rfl ?_
            refine r_getr iX8_fill_129 flX8_26 rfl rfl ?_
            refine r_ldn iX8_fill_132 rfl ?_
            refine r_ial iX8_fill_133 rfl (by omega) ?_
            refine r_con iX8_fill_134 ?_
            try simp only [mset_s, mset_n, mset_mset, fset_s, ne_eq, Nat.reduceEqDiff, not_false_eq_true]
            refine r_cne iX8_fill_135 (by omega) (fun h135 => ?_) (fun h135 => ?_)
            · refine r_inc iX8_fill_162 rfl (by decide) rfl ?_
              refine r_goto iX8_fill_165 ?_
              exact ih (i + 1) _ _ (by omega) (by omega) (by omega)
            · exfalso; omega
          · refine r_aldn iX8_fill_88 rfl ?_
            refine r_getr iX8_fill_89 flX8_38 rfl rfl ?_
            refine r_ldn iX8_fill_92 rfl ?_
            refine r_ial iX8_fill_93 rfl (by omega) ?_
            refine r_ld iX8_fill_94 rfl ?_
            try simp only [mset_s, mset_n, mset_mset, fset_s, ne_eq, Nat.reduceEqDiff, not_false_eq_true]
            refine r_cne iX8_fill_96 (by omega) (fun h96 => ?_) (fun h96 => ?_)
            · refine r_aldn iX8_fill_128 rfl ?_
              refine r_getr iX8_fill_129 flX8_26 rfl rfl ?_
              refine r_ldn iX8_fill_132 rfl ?_
              refine r_ial iX8_fill_133 rfl (by omega) ?_
              refine r_con iX8_fill_134 ?_
              try simp only [mset_s, mset_n, mset_mset, fset_s, ne_eq, Nat.reduceEqDiff, not_false_eq_true]
              refine r_cne iX8_fill_135 (by omega) (fun h135 => ?_) (fun h135 => ?_)
              · refine r_inc iX8_fill_162 rfl (by decide) rfl ?_
                refine r_goto iX8_fill_165 ?_
                exact ih (i + 1) _ _ (by omega) (by omega) (by omega)
              · exfalso; omega
            · exfalso; omega
  have L1 : ∀ (n9 : Nat) (i : Int) (w : Option MV) (n4 : Int), (0 ≤ i) → (i ≤ M 11 l) → (i ≤ M 9 l) → M 11 l - i < n9 → R LyM g mX8_fill (d + 3) 49 [some (vr 0), some (vi l), some (vi (M 8 l - seM (M 11) (M 10) l)), some (vi 0), some (vi n4), some (vi i), w] [] M (PI (if frM (M 11) (M 12) (M 13) (M 10) (M 2) (M 0 6) (M 0 1) (8 * l + M 9 l) < (M 8 l - seM (M 11) (M 10) l) then frM (M 11) (M 12) (M 13) (M 10) (M 2) (M 0 6) (M 0 1) (8 * l + M 9 l) else (M 8 l - seM (M 11) (M 10) l)) (mset M 10 (fset (M 10) (8 * l + M 9 l) (M 10 (8 * l + M 9 l) + (if frM (M 11) (M 12) (M 13) (M 10) (M 2) (M 0 6) (M 0 1) (8 * l + M 9 l) < (M 8 l - seM (M 11) (M 10) l) then frM (M 11) (M 12) (M 13) (M 10) (M 2) (M 0 6) (M 0 1) (8 * l + M 9 l) else (M 8 l - seM (M 11) (M 10) l)))))) := by
    intro n9
    induction n9 with
    | zero =>
      intro i w n4 h0 h1 h1b hm9
      omega
    | succ n9 ih =>
      intro i w n4 h0 h1 h1b hm9
      refine r_ld iX8_fill_49 rfl ?_
      refine r_aldn iX8_fill_51 rfl ?_
      refine r_getr iX8_fill_52 flX8_44 rfl rfl ?_
      refine r_ldn iX8_fill_55 rfl ?_
      refine r_ial iX8_fill_56 rfl (by omega) ?_
      refine r_cge iX8_fill_57 (by omega) (fun h57 => ?_) (fun h57 => ?_)
      · refine r_ldn iX8_fill_168 rfl ?_
        refine r_iret iX8_fill_169 rfl ?_
        exfalso; omega
      · have hx := frM_bd (M 11) (M 12) (M 13) (M 10) (M 2) (M 0 6) (M 0 1) (8 * l + i)
        refine r_aldn iX8_fill_60 rfl ?_
        refine r_ldn iX8_fill_61 rfl ?_
        refine r_ld iX8_fill_62 rfl ?_
        refine call_V2i iX8_fill_64 clX8_167 myX8_free rfl rfl rfl rfl (sX8_free _ _ _ (by omega) (hwl.2 i (by omega) (by omega)) hW hA hN) ?_
        refine r_st iX8_fill_67 (by decide) rfl ?_
        refine r_aldn iX8_fill_69 rfl ?_
        refine r_getr iX8_fill_70 flX8_26 rfl rfl ?_
        refine r_ldn iX8_fill_73 rfl ?_
        refine r_ial iX8_fill_74 rfl (by omega) ?_
        refine r_ifeq iX8_fill_75 (by omega) (fun h75 => ?_) (fun h75 => ?_)
        · exfalso; omega
        · refine r_aldn iX8_fill_78 rfl ?_
          refine r_getr iX8_fill_79 flX8_26 rfl rfl ?_
          refine r_ldn iX8_fill_82 rfl ?_
          refine r_ial iX8_fill_83 rfl (by omega) ?_
          refine r_con iX8_fill_84 ?_
          refine r_cne iX8_fill_85 (by omega) (fun h85 => ?_) (fun h85 => ?_)
          · refine r_aldn iX8_fill_128 rfl ?_
            refine r_getr iX8_fill_129 flX8_26 rfl rfl ?_
            refine r_ldn iX8_fill_132 rfl ?_
            refine r_ial iX8_fill_133 rfl (by omega) ?_
            refine r_con iX8_fill_134 ?_
            refine r_cne iX8_fill_135 (by omega) (fun h135 => ?_) (fun h135 => ?_)
            · refine r_inc iX8_fill_162 rfl (by decide) rfl ?_
              refine r_goto iX8_fill_165 ?_
              exact ih (i + 1) _ _ (by omega) (by omega) (by omega) (by omega)
            · exfalso; omega
          · refine r_aldn iX8_fill_88 rfl ?_
            refine r_getr iX8_fill_89 flX8_38 rfl rfl ?_
            refine r_ldn iX8_fill_92 rfl ?_
            refine r_ial iX8_fill_93 rfl (by omega) ?_
            refine r_ld iX8_fill_94 rfl ?_
            refine r_cne iX8_fill_96 (by omega) (fun h96 => ?_) (fun h96 => ?_)
            · refine r_aldn iX8_fill_128 rfl ?_
              refine r_getr iX8_fill_129 flX8_26 rfl rfl ?_
              refine r_ldn iX8_fill_132 rfl ?_
              refine r_ial iX8_fill_133 rfl (by omega) ?_
              refine r_con iX8_fill_134 ?_
              refine r_cne iX8_fill_135 (by omega) (fun h135 => ?_) (fun h135 => ?_)
              · refine r_inc iX8_fill_162 rfl (by decide) rfl ?_
                refine r_goto iX8_fill_165 ?_
                exact ih (i + 1) _ _ (by omega) (by omega) (by omega) (by omega)
              · exfalso; omega
            · refine r_ldn iX8_fill_99 rfl ?_
              refine r_aldn iX8_fill_100 rfl ?_
              refine r_ldn iX8_fill_101 rfl ?_
              refine r_ld iX8_fill_102 rfl ?_
              refine r_ld iX8_fill_104 rfl ?_
              refine r_ldn iX8_fill_106 rfl ?_
              refine r_ldn iX8_fill_107 rfl ?_
              refine r_sub iX8_fill_108 ?_
              refine r_cge iX8_fill_109 (by omega) (fun h109 => ?_) (fun h109 => ?_)
              · refine r_ldn iX8_fill_117 rfl ?_
                refine r_ldn iX8_fill_118 rfl ?_
                refine r_sub iX8_fill_119 ?_
                refine call_V3i iX8_fill_120 clX8_170 myX8_add rfl rfl rfl rfl (sX8_add _ _ _ _ (by omega)) ?_
                refine r_add iX8_fill_123 ?_
                refine r_stn iX8_fill_124 (by decide) rfl ?_
                refine r_goto iX8_fill_125 ?_
                refine r_inc iX8_fill_162 rfl (by decide) rfl ?_
                refine r_goto iX8_fill_165 ?_
                have e9 : i = M 9 l := by omega
                rw [e9] at h109
                have ex : (if frM (M 11) (M 12) (M 13) (M 10) (M 2) (M 0 6) (M 0 1) (8 * l + M 9 l) < (M 8 l - seM (M 11) (M 10) l) then frM (M 11) (M 12) (M 13) (M 10) (M 2) (M 0 6) (M 0 1) (8 * l + M 9 l) else (M 8 l - seM (M 11) (M 10) l)) = (M 8 l - seM (M 11) (M 10) l) := if_neg (by omega)
                have L0 := fun (w : Option MV) (n4 : Int) => L2 9 (M 9 l + 1) w n4 (by omega) (by omega) (by omega)
                simp only [ex] at L0 ⊢
                rw [e9, Int.zero_add, Int.sub_zero]
                exact L0 _ _
              · refine r_ld iX8_fill_112 rfl ?_
                refine r_goto iX8_fill_114 ?_
                refine call_V3i iX8_fill_120 clX8_170 myX8_add rfl rfl rfl rfl (sX8_add _ _ _ _ (by omega)) ?_
                refine r_add iX8_fill_123 ?_
                refine r_stn iX8_fill_124 (by decide) rfl ?_
                refine r_goto iX8_fill_125 ?_
                refine r_inc iX8_fill_162 rfl (by decide) rfl ?_
                refine r_goto iX8_fill_165 ?_
                have e9 : i = M 9 l := by omega
                rw [e9] at h109
                have ex : (if frM (M 11) (M 12) (M 13) (M 10) (M 2) (M 0 6) (M 0 1) (8 * l + M 9 l) < (M 8 l - seM (M 11) (M 10) l) then frM (M 11) (M 12) (M 13) (M 10) (M 2) (M 0 6) (M 0 1) (8 * l + M 9 l) else (M 8 l - seM (M 11) (M 10) l)) = frM (M 11) (M 12) (M 13) (M 10) (M 2) (M 0 6) (M 0 1) (8 * l + M 9 l) := if_pos (by omega)
                have L0 := fun (w : Option MV) (n4 : Int) => L2 9 (M 9 l + 1) w n4 (by omega) (by omega) (by omega)
                simp only [ex] at L0 ⊢
                rw [e9, Int.zero_add]
                exact L0 _ _
  refine r_aldn iX8_fill_0 rfl ?_
  refine r_ldn iX8_fill_1 rfl ?_
  refine call_V1i iX8_fill_2 clX8_142 myX8_isLoad rfl rfl rfl rfl (sX8_isLoad _ _ (by omega) hN) ?_
  refine r_ifne iX8_fill_5 (by split <;> omega) (fun h5 => ?_) (fun h5 => ?_)
  · rw [ne_eq, ite10n] at h5
    refine r_aldn iX8_fill_10 rfl ?_
    refine r_getr iX8_fill_11 flX8_35 rfl rfl ?_
    refine r_ldn iX8_fill_14 rfl ?_
    refine r_ial iX8_fill_15 rfl (by omega) ?_
    refine r_aldn iX8_fill_16 rfl ?_
    refine r_ldn iX8_fill_17 rfl ?_
    refine call_V1i iX8_fill_18 clX8_148 myX8_sentOf rfl rfl rfl rfl (sX8_sentOf _ _ (by omega) hW hN) ?_
    refine r_sub iX8_fill_21 ?_
    refine r_stn iX8_fill_22 (by decide) rfl ?_
    refine r_ldn iX8_fill_23 rfl ?_
    refine r_ifgt iX8_fill_24 (by omega) (fun h24 => ?_) (fun h24 => ?_)
    · refine r_con iX8_fill_29 ?_
      refine r_stn iX8_fill_30 (by decide) rfl ?_
      refine r_aldn iX8_fill_31 rfl ?_
      refine r_ldn iX8_fill_32 rfl ?_
      refine call_V1i iX8_fill_33 clX8_161 myX8_amountMany rfl rfl rfl rfl (sX8_amountMany _ _ (by omega) hW hA hN) ?_
      refine r_ifne iX8_fill_36 (by omega) (fun h36 => ?_) (fun h36 => ?_)
      · refine r_con iX8_fill_43 ?_
        refine r_st iX8_fill_44 (by decide) rfl ?_
        refine r_con iX8_fill_46 ?_
        refine r_st iX8_fill_47 (by decide) rfl ?_
        exact L1 9 0 _ _ (by omega) (by omega) (by omega) (by omega)
      · refine r_con iX8_fill_39 ?_
        refine r_goto iX8_fill_40 ?_
        refine r_st iX8_fill_44 (by decide) rfl ?_
        refine r_con iX8_fill_46 ?_
        refine r_st iX8_fill_47 (by decide) rfl ?_
        exact L1 9 0 _ _ (by omega) (by omega) (by omega) (by omega)
    · exfalso; omega
  · rw [ite10] at h5
    exact absurd h h5
theorem sX8_fill_2n (d : Nat) (l : Int) (h : 0 ≤ l ∧ l < M 0 6) (hW : WBm M) (hA : AVm M) (hN : NBm M) (hz : 0 < (M 8 l - seM (M 11) (M 10) l)) (hk : M 5 l = 2) (hh : 0 ≤ M 9 l ∧ M 9 l ≤ 7) (hc : M 11 l ≤ M 9 l) : Ex LyM g (d + 3) mX8_fill [vr 0, vi l] M (PI 0 M) := by
  refine Ex.in [some (vr 0), some (vi l), none, none, none, none, none] (by decide +kernel) rfl (Nat.le_of_ble_eq_true rfl) ?_ rfl
  obtain ⟨hp0, hr, hl, hR, hL⟩ := id hN
  have hll := hL l h.1 h.2
  have hwl := hW l h.1 h.2
  have hsb := seM_bd hW hA (l := l) h
  have hnb := nzM_bd hW (l := l) h
  have L1 : ∀ (n9 : Nat) (i : Int) (w : Option MV) (n4 : Int), (0 ≤ i) → (i ≤ M 11 l) → (i ≤ M 9 l) → M 11 l - i < n9 → R LyM g mX8_fill (d + 3) 49 [some (vr 0), some (vi l), some (vi (M 8 l - seM (M 11) (M 10) l)), some (vi 0), some (vi n4), some (vi i), w] [] M (PI 0 M) := by
    intro n9
    induction n9 with
    | zero =>
      intro i w n4 h0 h1 h1b hm9
      omega
    | succ n9 ih =>
      intro i w n4 h0 h1 h1b hm9
      refine r_ld iX8_fill_49 rfl ?_
      refine r_aldn iX8_fill_51 rfl ?_
      refine r_getr iX8_fill_52 flX8_44 rfl rfl ?_
      refine r_ldn iX8_fill_55 rfl ?_
      refine r_ial iX8_fill_56 rfl (by omega) ?_
      refine r_cge iX8_fill_57 (by omega) (fun h57 => ?_) (fun h57 => ?_)
      · refine r_ldn iX8_fill_168 rfl ?_
        refine r_iret iX8_fill_169 rfl ?_
        exact ⟨rfl, rfl⟩
      · have hx := frM_bd (M 11) (M 12) (M 13) (M 10) (M 2) (M 0 6) (M 0 1) (8 * l + i)
        refine r_aldn iX8_fill_60 rfl ?_
        refine r_ldn iX8_fill_61 rfl ?_
        refine r_ld iX8_fill_62 rfl ?_
        refine call_V2i iX8_fill_64 clX8_167 myX8_free rfl rfl rfl rfl (sX8_free _ _ _ (by omega) (hwl.2 i (by omega) (by omega)) hW hA hN) ?_
        refine r_st iX8_fill_67 (by decide) rfl ?_
        refine r_aldn iX8_fill_69 rfl ?_
        refine r_getr iX8_fill_70 flX8_26 rfl rfl ?_
        refine r_ldn iX8_fill_73 rfl ?_
        refine r_ial iX8_fill_74 rfl (by omega) ?_
        refine r_ifeq iX8_fill_75 (by omega) (fun h75 => ?_) (fun h75 => ?_)
        · exfalso; omega
        · refine r_aldn iX8_fill_78 rfl ?_
          refine r_getr iX8_fill_79 flX8_26 rfl rfl ?_
          refine r_ldn iX8_fill_82 rfl ?_
          refine r_ial iX8_fill_83 rfl (by omega) ?_
          refine r_con iX8_fill_84 ?_
          refine r_cne iX8_fill_85 (by omega) (fun h85 => ?_) (fun h85 => ?_)
          · refine r_aldn iX8_fill_128 rfl ?_
            refine r_getr iX8_fill_129 flX8_26 rfl rfl ?_
            refine r_ldn iX8_fill_132 rfl ?_
            refine r_ial iX8_fill_133 rfl (by omega) ?_
            refine r_con iX8_fill_134 ?_
            refine r_cne iX8_fill_135 (by omega) (fun h135 => ?_) (fun h135 => ?_)
            · refine r_inc iX8_fill_162 rfl (by decide) rfl ?_
              refine r_goto iX8_fill_165 ?_
              exact ih (i + 1) _ _ (by omega) (by omega) (by omega) (by omega)
            · exfalso; omega
          · refine r_aldn iX8_fill_88 rfl ?_
            refine r_getr iX8_fill_89 flX8_38 rfl rfl ?_
            refine r_ldn iX8_fill_92 rfl ?_
            refine r_ial iX8_fill_93 rfl (by omega) ?_
            refine r_ld iX8_fill_94 rfl ?_
            refine r_cne iX8_fill_96 (by omega) (fun h96 => ?_) (fun h96 => ?_)
            · refine r_aldn iX8_fill_128 rfl ?_
              refine r_getr iX8_fill_129 flX8_26 rfl rfl ?_
              refine r_ldn iX8_fill_132 rfl ?_
              refine r_ial iX8_fill_133 rfl (by omega) ?_
              refine r_con iX8_fill_134 ?_
              refine r_cne iX8_fill_135 (by omega) (fun h135 => ?_) (fun h135 => ?_)
              · refine r_inc iX8_fill_162 rfl (by decide) rfl ?_
                refine r_goto iX8_fill_165 ?_
                exact ih (i + 1) _ _ (by omega) (by omega) (by omega) (by omega)
              · exfalso; omega
            · exfalso; omega
  refine r_aldn iX8_fill_0 rfl ?_
  refine r_ldn iX8_fill_1 rfl ?_
  refine call_V1i iX8_fill_2 clX8_142 myX8_isLoad rfl rfl rfl rfl (sX8_isLoad _ _ (by omega) hN) ?_
  refine r_ifne iX8_fill_5 (by split <;> omega) (fun h5 => ?_) (fun h5 => ?_)
  · rw [ne_eq, ite10n] at h5
    refine r_aldn iX8_fill_10 rfl ?_
    refine r_getr iX8_fill_11 flX8_35 rfl rfl ?_
    refine r_ldn iX8_fill_14 rfl ?_
    refine r_ial iX8_fill_15 rfl (by omega) ?_
    refine r_aldn iX8_fill_16 rfl ?_
    refine r_ldn iX8_fill_17 rfl ?_
    refine call_V1i iX8_fill_18 clX8_148 myX8_sentOf rfl rfl rfl rfl (sX8_sentOf _ _ (by omega) hW hN) ?_
    refine r_sub iX8_fill_21 ?_
    refine r_stn iX8_fill_22 (by decide) rfl ?_
    refine r_ldn iX8_fill_23 rfl ?_
    refine r_ifgt iX8_fill_24 (by omega) (fun h24 => ?_) (fun h24 => ?_)
    · refine r_con iX8_fill_29 ?_
      refine r_stn iX8_fill_30 (by decide) rfl ?_
      refine r_aldn iX8_fill_31 rfl ?_
      refine r_ldn iX8_fill_32 rfl ?_
      refine call_V1i iX8_fill_33 clX8_161 myX8_amountMany rfl rfl rfl rfl (sX8_amountMany _ _ (by omega) hW hA hN) ?_
      refine r_ifne iX8_fill_36 (by omega) (fun h36 => ?_) (fun h36 => ?_)
      · refine r_con iX8_fill_43 ?_
        refine r_st iX8_fill_44 (by decide) rfl ?_
        refine r_con iX8_fill_46 ?_
        refine r_st iX8_fill_47 (by decide) rfl ?_
        exact L1 9 0 _ _ (by omega) (by omega) (by omega) (by omega)
      · refine r_con iX8_fill_39 ?_
        refine r_goto iX8_fill_40 ?_
        refine r_st iX8_fill_44 (by decide) rfl ?_
        refine r_con iX8_fill_46 ?_
        refine r_st iX8_fill_47 (by decide) rfl ?_
        exact L1 9 0 _ _ (by omega) (by omega) (by omega) (by omega)
    · exfalso; omega
  · rw [ite10] at h5
    exact absurd h h5
theorem sX8_fill_1n (d : Nat) (l : Int) (h : 0 ≤ l ∧ l < M 0 6) (hW : WBm M) (hA : AVm M) (hN : NBm M) (hz : 0 < (M 8 l - seM (M 11) (M 10) l)) (hk : M 5 l = 1) (hc : nzM (M 11) (M 10) l ≠ 0) : Ex LyM g (d + 3) mX8_fill [vr 0, vi l] M (PI 0 M) := by
  refine Ex.in [some (vr 0), some (vi l), none, none, none, none, none] (by decide +kernel) rfl (Nat.le_of_ble_eq_true rfl) ?_ rfl
  obtain ⟨hp0, hr, hl, hR, hL⟩ := id hN
  have hll := hL l h.1 h.2
  have hwl := hW l h.1 h.2
  have hsb := seM_bd hW hA (l := l) h
  have hnb := nzM_bd hW (l := l) h
  have L1 : ∀ (n9 : Nat) (i : Int) (w : Option MV), (0 ≤ i) → (i ≤ M 11 l) → M 11 l - i < n9 → R LyM g mX8_fill (d + 3) 49 [some (vr 0), some (vi l), some (vi (M 8 l - seM (M 11) (M 10) l)), some (vi 0), some (vi 0), some (vi i), w] [] M (PI 0 M) := by
    intro n9
    induction n9 with
    | zero =>
      intro i w h0 h1 hm9
      omega
    | succ n9 ih =>
      intro i w h0 h1 hm9
      refine r_ld iX8_fill_49 rfl ?_
      refine r_aldn iX8_fill_51 rfl ?_
      refine r_getr iX8_fill_52 flX8_44 rfl rfl ?_
      refine r_ldn iX8_fill_55 rfl ?_
      refine r_ial iX8_fill_56 rfl (by omega) ?_
      refine r_cge iX8_fill_57 (by omega) (fun h57 => ?_) (fun h57 => ?_)
      · refine r_ldn iX8_fill_168 rfl ?_
        refine r_iret iX8_fill_169 rfl ?_
        exact ⟨rfl, rfl⟩
      · refine r_aldn iX8_fill_60 rfl ?_
        refine r_ldn iX8_fill_61 rfl ?_
        refine r_ld iX8_fill_62 rfl ?_
        refine call_V2i iX8_fill_64 clX8_167 myX8_free rfl rfl rfl rfl (sX8_free _ _ _ (by omega) (hwl.2 i (by omega) (by omega)) hW hA hN) ?_
        refine r_st iX8_fill_67 (by decide) rfl ?_
        refine r_aldn iX8_fill_69 rfl ?_
        refine r_getr iX8_fill_70 flX8_26 rfl rfl ?_
        refine r_ldn iX8_fill_73 rfl ?_
        refine r_ial iX8_fill_74 rfl (by omega) ?_
        refine r_ifeq iX8_fill_75 (by omega) (fun h75 => ?_) (fun h75 => ?_)
        · exfalso; omega
        · refine r_aldn iX8_fill_78 rfl ?_
          refine r_getr iX8_fill_79 flX8_26 rfl rfl ?_
          refine r_ldn iX8_fill_82 rfl ?_
          refine r_ial iX8_fill_83 rfl (by omega) ?_
          refine r_con iX8_fill_84 ?_
          refine r_cne iX8_fill_85 (by omega) (fun h85 => ?_) (fun h85 => ?_)
          · refine r_aldn iX8_fill_128 rfl ?_
            refine r_getr iX8_fill_129 flX8_26 rfl rfl ?_
            refine r_ldn iX8_fill_132 rfl ?_
            refine r_ial iX8_fill_133 rfl (by omega) ?_
            refine r_con iX8_fill_134 ?_
            refine r_cne iX8_fill_135 (by omega) (fun h135 => ?_) (fun h135 => ?_)
            · refine r_inc iX8_fill_162 rfl (by decide) rfl ?_
              refine r_goto iX8_fill_165 ?_
              exfalso; omega
            · refine r_ld iX8_fill_138 rfl ?_
              refine r_ifeq iX8_fill_140 (by omega) (fun h140 => ?_) (fun h140 => ?_)
              · refine r_inc iX8_fill_162 rfl (by decide) rfl ?_
                refine r_goto iX8_fill_165 ?_
                exact ih (i + 1) _ (by omega) (by omega) (by omega)
              · exact absurd rfl h140
          · exfalso; omega
  refine r_aldn iX8_fill_0 rfl ?_
  refine r_ldn iX8_fill_1 rfl ?_
  refine call_V1i iX8_fill_2 clX8_142 myX8_isLoad rfl rfl rfl rfl (sX8_isLoad _ _ (by omega) hN) ?_
  refine r_ifne iX8_fill_5 (by split <;> omega) (fun h5 => ?_) (fun h5 => ?_)
  · rw [ne_eq, ite10n] at h5
    refine r_aldn iX8_fill_10 rfl ?_
    refine r_getr iX8_fill_11 flX8_35 rfl rfl ?_
    refine r_ldn iX8_fill_14 rfl ?_
    refine r_ial iX8_fill_15 rfl (by omega) ?_
    refine r_aldn iX8_fill_16 rfl ?_
    refine r_ldn iX8_fill_17 rfl ?_
    refine call_V1i iX8_fill_18 clX8_148 myX8_sentOf rfl rfl rfl rfl (sX8_sentOf _ _ (by omega) hW hN) ?_
    refine r_sub iX8_fill_21 ?_
    refine r_stn iX8_fill_22 (by decide) rfl ?_
    refine r_ldn iX8_fill_23 rfl ?_
    refine r_ifgt iX8_fill_24 (by omega) (fun h24 => ?_) (fun h24 => ?_)
    · refine r_con iX8_fill_29 ?_
      refine r_stn iX8_fill_30 (by decide) rfl ?_
      refine r_aldn iX8_fill_31 rfl ?_
      refine r_ldn iX8_fill_32 rfl ?_
      refine call_V1i iX8_fill_33 clX8_161 myX8_amountMany rfl rfl rfl rfl (sX8_amountMany _ _ (by omega) hW hA hN) ?_
      refine r_ifne iX8_fill_36 (by omega) (fun h36 => ?_) (fun h36 => ?_)
      · refine r_con iX8_fill_43 ?_
        refine r_st iX8_fill_44 (by decide) rfl ?_
        refine r_con iX8_fill_46 ?_
        refine r_st iX8_fill_47 (by decide) rfl ?_
        exact L1 9 0 _ (by omega) (by omega) (by omega)
      · exact absurd h36 hc
    · exfalso; omega
  · rw [ite10] at h5
    exact absurd h h5
theorem sX8_fill_1y (d : Nat) (l : Int) (h : 0 ≤ l ∧ l < M 0 6) (hW : WBm M) (hA : AVm M) (hN : NBm M) (hz : 0 < (M 8 l - seM (M 11) (M 10) l)) (hk : M 5 l = 1) (hc : nzM (M 11) (M 10) l = 0) : Ex LyM g (d + 3) mX8_fill [vr 0, vi l] M (PI (if 0 ≤ (fpt (fun i => if (M 8 l - seM (M 11) (M 10) l) ≤ frM (M 11) (M 12) (M 13) (M 10) (M 2) (M 0 6) (M 0 1) (8 * l + i) then (1 : Int) else 0) (M 11 l).toNat) then (M 8 l - seM (M 11) (M 10) l) else 0) (if 0 ≤ (fpt (fun i => if (M 8 l - seM (M 11) (M 10) l) ≤ frM (M 11) (M 12) (M 13) (M 10) (M 2) (M 0 6) (M 0 1) (8 * l + i) then (1 : Int) else 0) (M 11 l).toNat) then mset M 10 (fset (M 10) (8 * l + (fpt (fun i => if (M 8 l - seM (M 11) (M 10) l) ≤ frM (M 11) (M 12) (M 13) (M 10) (M 2) (M 0 6) (M 0 1) (8 * l + i) then (1 : Int) else 0) (M 11 l).toNat)) (M 10 (8 * l + (fpt (fun i => if (M 8 l - seM (M 11) (M 10) l) ≤ frM (M 11) (M 12) (M 13) (M 10) (M 2) (M 0 6) (M 0 1) (8 * l + i) then (1 : Int) else 0) (M 11 l).toNat)) + (M 8 l - seM (M 11) (M 10) l))) else M)) := by
  refine Ex.in [some (vr 0), some (vi l), none, none, none, none, none] (by decide +kernel) rfl (Nat.le_of_ble_eq_true rfl) ?_ rfl
  obtain ⟨hp0, hr, hl, hR, hL⟩ := id hN
  have hll := hL l h.1 h.2
  have hwl := hW l h.1 h.2
  have hsb := seM_bd hW hA (l := l) h
  have hnb := nzM_bd hW (l := l) h
  have L2 : ∀ (n9 : Nat) (i j : Int) (w : Option MV), (0 ≤ i) → (i ≤ M 11 l) → (0 ≤ j ∧ j < M 11 l) → ((fpt (fun i => if (M 8 l - seM (M 11) (M 10) l) ≤ frM (M 11) (M 12) (M 13) (M 10) (M 2) (M 0 6) (M 0 1) (8 * l + i) then (1 : Int) else 0) (M 11 l).toNat) = j) → M 11 l - i < n9 → R LyM g mX8_fill (d + 3) 49 [some (vr 0), some (vi l), some (vi (M 8 l - seM (M 11) (M 10) l)), some (vi (M 8 l - seM (M 11) (M 10) l)), some (vi 1), some (vi i), w] [] (mset M 10 (fset (M 10) (8 * l + j) (M 10 (8 * l + j) + (M 8 l - seM (M 11) (M 10) l)))) (PI (if 0 ≤ (fpt (fun i => if (M 8 l - seM (M 11) (M 10) l) ≤ frM (M 11) (M 12) (M 13) (M 10) (M 2) (M 0 6) (M 0 1) (8 * l + i) then (1 : Int) else 0) (M 11 l).toNat) then (M 8 l - seM (M 11) (M 10) l) else 0) (if 0 ≤ (fpt (fun i => if (M 8 l - seM (M 11) (M 10) l) ≤ frM (M 11) (M 12) (M 13) (M 10) (M 2) (M 0 6) (M 0 1) (8 * l + i) then (1 : Int) else 0) (M 11 l).toNat) then mset M 10 (fset (M 10) (8 * l + (fpt (fun i => if (M 8 l - seM (M 11) (M 10) l) ≤ frM (M 11) (M 12) (M 13) (M 10) (M 2) (M 0 6) (M 0 1) (8 * l + i) then (1 : Int) else 0) (M 11 l).toNat)) (M 10 (8 * l + (fpt (fun i => if (M 8 l - seM (M 11) (M 10) l) ≤ frM (M 11) (M 12) (M 13) (M 10) (M 2) (M 0 6) (M 0 1) (8 * l + i) then (1 : Int) else 0) (M 11 l).toNat)) + (M 8 l - seM (M 11) (M 10) l))) else M)) := by
    intro n9
    induction n9 with
    | zero =>
      intro i j w h0 h1 hj hJ hm9
      omega
    | succ n9 ih =>
      intro i j w h0 h1 hj hJ hm9
      have hAf : AVm (mset M 10 (fset (M 10) (8 * l + j) (M 10 (8 * l + j) + (M 8 l - seM (M 11) (M 10) l)))) := by
        intro q z1 z2 k z3 z4
        show 0 ≤ fset (M 10) _ _ (8 * q + k) ∧ fset (M 10) _ _ (8 * q + k) ≤ 100
        have h9 := hA l h.1 h.2 j hj.1 (by omega)
        have hp := seM_part (wm := M 11) (am := M 10) (l := l) (fun i h2 h3 => (hA l h.1 h.2 i h2 (by omega)).1) hj.1 hj.2
        by_cases e : 8 * q + k = 8 * l + j
        · rw [e, fset_s]; omega
        · rw [fset_n e]; exact hA q z1 z2 k z3 z4
      refine r_ld iX8_fill_49 rfl ?_
      refine r_aldn iX8_fill_51 rfl ?_
      refine r_getr iX8_fill_52 flX8_44 rfl rfl ?_
      refine r_ldn iX8_fill_55 rfl ?_
      refine r_ial iX8_fill_56 rfl (by omega) ?_
      try simp only [mset_s, mset_n, mset_mset, fset_s, ne_eq, Nat.reduceEqDiff, not_false_eq_true]
      refine r_cge iX8_fill_57 (by omega) (fun h57 => ?_) (fun h57 => ?_)
      · refine r_ldn iX8_fill_168 rfl ?_
        refine r_iret iX8_fill_169 rfl ?_
        rw [hJ, if_pos hj.1, if_pos hj.1]
        exact ⟨rfl, rfl⟩
      · refine r_aldn iX8_fill_60 rfl ?_
        refine r_ldn iX8_fill_61 rfl ?_
        refine r_ld iX8_fill_62 rfl ?_
        refine call_V2i iX8_fill_64 clX8_167 myX8_free rfl rfl rfl rfl (sX8_free (M := (mset M 10 (fset (M 10) (8 * l + j) (M 10 (8 * l + j) + (M 8 l - seM (M 11) (M 10) l))))) _ _ _ (by omega) (hwl.2 i (by omega) (by omega)) hW hAf hN) ?_
        try simp only [mset_s, mset_n, mset_mset, fset_s, ne_eq, Nat.reduceEqDiff, not_false_eq_true]
        refine r_st iX8_fill_67 (by decide) rfl ?_
        refine r_aldn iX8_fill_69 rfl ?_
        refine r_getr iX8_fill_70 flX8_26 rfl rfl ?_
        refine r_ldn iX8_fill_73 rfl ?_
        refine r_ial iX8_fill_74 rfl (by omega) ?_
        try simp only [mset_s, mset_n, mset_mset, fset_s, ne_eq, Nat.reduceEqDiff, not_false_eq_true]
        refine r_ifeq iX8_fill_75 (by omega) (fun h75 => ?_) (fun h75 => ?_)
        · exfalso; omega
        · refine r_aldn iX8_fill_78 rfl ?_
          refine r_getr iX8_fill_79 flX8_26 rfl rfl ?_
          refine r_ldn iX8_fill_82 rfl ?_
          refine r_ial iX8_fill_83 rfl (by omega) ?_
          refine r_con iX8_fill_84 ?_
          try simp only [mset_s, mset_n, mset_mset, fset_s, ne_eq, Nat.reduceEqDiff, not_false_eq_true]
          refine r_cne iX8_fill_85 (by omega) (fun h85 => ?_) (fun h85 => ?_)
          · refine r_aldn iX8_fill_128 rfl ?_
            refine r_getr iX8_fill_129 flX8_26 rfl rfl ?_
            refine r_ldn iX8_fill_132 rfl ?_
            refine r_ial iX8_fill_133 rfl (by omega) ?_
            refine r_con iX8_fill_134 ?_
            try simp only [mset_s, mset_n, mset_mset, fset_s, ne_eq, Nat.reduceEqDiff, not_false_eq_true]
            refine r_cne iX8_fill_135 (by omega) (fun h135 => ?_) (fun h135 => ?_)
            · refine r_inc iX8_fill_162 rfl (by decide) rfl ?_
              refine r_goto iX8_fill_165 ?_
              exfalso; omega
            · refine r_ld iX8_fill_138 rfl ?_
              refine r_ifeq iX8_fill_140 (by omega) (fun h140 => ?_) (fun h140 => ?_)
              · refine r_inc iX8_fill_162 rfl (by decide) rfl ?_
                refine r_goto iX8_fill_165 ?_
                exfalso; omega
              · refine r_ldn iX8_fill_143 rfl ?_
                refine r_ifne iX8_fill_144 (by omega) (fun h144 => ?_) (fun h144 => ?_)
                · refine r_inc iX8_fill_162 rfl (by decide) rfl ?_
                  refine r_goto iX8_fill_165 ?_
                  exact ih (i + 1) j _ (by omega) (by omega) hj hJ (by omega)
                · exfalso; omega
          · exfalso; omega
  have L1 : ∀ (n9 : Nat) (i : Int) (w : Option MV), (0 ≤ i) → (i ≤ M 11 l) → (∀ j : Int, 0 ≤ j → j < i → (fun i => if (M 8 l - seM (M 11) (M 10) l) ≤ frM (M 11) (M 12) (M 13) (M 10) (M 2) (M 0 6) (M 0 1) (8 * l + i) then (1 : Int) else 0) j = 0) → M 11 l - i < n9 → R LyM g mX8_fill (d + 3) 49 [some (vr 0), some (vi l), some (vi (M 8 l - seM (M 11) (M 10) l)), some (vi 0), some (vi 1), some (vi i), w] [] M (PI (if 0 ≤ (fpt (fun i => if (M 8 l - seM (M 11) (M 10) l) ≤ frM (M 11) (M 12) (M 13) (M 10) (M 2) (M 0 6) (M 0 1) (8 * l + i) then (1 : Int) else 0) (M 11 l).toNat) then (M 8 l - seM (M 11) (M 10) l) else 0) (if 0 ≤ (fpt (fun i => if (M 8 l - seM (M 11) (M 10) l) ≤ frM (M 11) (M 12) (M 13) (M 10) (M 2) (M 0 6) (M 0 1) (8 * l + i) then (1 : Int) else 0) (M 11 l).toNat) then mset M 10 (fset (M 10) (8 * l + (fpt (fun i => if (M 8 l - seM (M 11) (M 10) l) ≤ frM (M 11) (M 12) (M 13) (M 10) (M 2) (M 0 6) (M 0 1) (8 * l + i) then (1 : Int) else 0) (M 11 l).toNat)) (M 10 (8 * l + (fpt (fun i => if (M 8 l - seM (M 11) (M 10) l) ≤ frM (M 11) (M 12) (M 13) (M 10) (M 2) (M 0 6) (M 0 1) (8 * l + i) then (1 : Int) else 0) (M 11 l).toNat)) + (M 8 l - seM (M 11) (M 10) l))) else M)) := by
    intro n9
    induction n9 with
    | zero =>
      intro i w h0 h1 hq hm9
      omega
    | succ n9 ih =>
      intro i w h0 h1 hq hm9
      refine r_ld iX8_fill_49 rfl ?_
      refine r_aldn iX8_fill_51 rfl ?_
      refine r_getr iX8_fill_52 flX8_44 rfl rfl ?_
      refine r_ldn iX8_fill_55 rfl ?_
      refine r_ial iX8_fill_56 rfl (by omega) ?_
      refine r_cge iX8_fill_57 (by omega) (fun h57 => ?_) (fun h57 => ?_)
      · refine r_ldn iX8_fill_168 rfl ?_
        refine r_iret iX8_fill_169 rfl ?_
        have e1 : (fpt (fun i => if (M 8 l - seM (M 11) (M 10) l) ≤ frM (M 11) (M 12) (M 13) (M 10) (M 2) (M 0 6) (M 0 1) (8 * l + i) then (1 : Int) else 0) (M 11 l).toNat) = -1 := fpt_no (f := (fun i => if (M 8 l - seM (M 11) (M 10) l) ≤ frM (M 11) (M 12) (M 13) (M 10) (M 2) (M 0 6) (M 0 1) (8 * l + i) then (1 : Int) else 0)) (fun j h2 h3 => hq j h2 (by omega))
        rw [e1, if_neg (by decide), if_neg (by decide)]
        exact ⟨rfl, rfl⟩
      · have hx := frM_bd (M 11) (M 12) (M 13) (M 10) (M 2) (M 0 6) (M 0 1) (8 * l + i)
        refine r_aldn iX8_fill_60 rfl ?_
        refine r_ldn iX8_fill_61 rfl ?_
        refine r_ld iX8_fill_62 rfl ?_
        refine call_V2i iX8_fill_64 clX8_167 myX8_free rfl rfl rfl rfl (sX8_free _ _ _ (by omega) (hwl.2 i (by omega) (by omega)) hW hA hN) ?_
        refine r_st iX8_fill_67 (by decide) rfl ?_
        refine r_aldn iX8_fill_69 rfl ?_
        refine r_getr iX8_fill_70 flX8_26 rfl rfl ?_
        refine r_ldn iX8_fill_73 rfl ?_
        refine r_ial iX8_fill_74 rfl (by omega) ?_
        refine r_ifeq iX8_fill_75 (by omega) (fun h75 => ?_) (fun h75 => ?_)
        · exfalso; omega
        · refine r_aldn iX8_fill_78 rfl ?_
          refine r_getr iX8_fill_79 flX8_26 rfl rfl ?_
          refine r_ldn iX8_fill_82 rfl ?_
          refine r_ial iX8_fill_83 rfl (by omega) ?_
          refine r_con iX8_fill_84 ?_
          refine r_cne iX8_fill_85 (by omega) (fun h85 => ?_) (fun h85 => ?_)
          · refine r_aldn iX8_fill_128 rfl ?_
            refine r_getr iX8_fill_129 flX8_26 rfl rfl ?_
            refine r_ldn iX8_fill_132 rfl ?_
            refine r_ial iX8_fill_133 rfl (by omega) ?_
            refine r_con iX8_fill_134 ?_
            refine r_cne iX8_fill_135 (by omega) (fun h135 => ?_) (fun h135 => ?_)
            · refine r_inc iX8_fill_162 rfl (by decide) rfl ?_
              refine r_goto iX8_fill_165 ?_
              exfalso; omega
            · refine r_ld iX8_fill_138 rfl ?_
              refine r_ifeq iX8_fill_140 (by omega) (fun h140 => ?_) (fun h140 => ?_)
              · refine r_inc iX8_fill_162 rfl (by decide) rfl ?_
                refine r_goto iX8_fill_165 ?_
                exfalso; omega
              · refine r_ldn iX8_fill_143 rfl ?_
                refine r_ifne iX8_fill_144 (by omega) (fun h144 => ?_) (fun h144 => ?_)
                · refine r_inc iX8_fill_162 rfl (by decide) rfl ?_
                  refine r_goto iX8_fill_165 ?_
                  exfalso; omega
                · refine r_ld iX8_fill_147 rfl ?_
                  refine r_ldn iX8_fill_149 rfl ?_
                  refine r_clt iX8_fill_150 (by omega) (fun h150 => ?_) (fun h150 => ?_)
                  · refine r_inc iX8_fill_162 rfl (by decide) rfl ?_
                    refine r_goto iX8_fill_165 ?_
                    exact ih (i + 1) _ (by omega) (by omega) (fun j h2 h3 => by by_cases e : j = i; subst e; exact if_neg (by omega); exact hq j h2 (by omega)) (by omega)
                  · refine r_aldn iX8_fill_153 rfl ?_
                    refine r_ldn iX8_fill_154 rfl ?_
                    refine r_ld iX8_fill_155 rfl ?_
                    refine r_ldn iX8_fill_157 rfl ?_
                    refine call_V3i iX8_fill_158 clX8_170 myX8_add rfl rfl rfl rfl (sX8_add _ _ _ _ (by omega)) ?_
                    refine r_stn iX8_fill_161 (by decide) rfl ?_
                    refine r_inc iX8_fill_162 rfl (by decide) rfl ?_
                    refine r_goto iX8_fill_165 ?_
                    have e1 : (fpt (fun i => if (M 8 l - seM (M 11) (M 10) l) ≤ frM (M 11) (M 12) (M 13) (M 10) (M 2) (M 0 6) (M 0 1) (8 * l + i) then (1 : Int) else 0) (M 11 l).toNat) = i := fpt_at (f := (fun i => if (M 8 l - seM (M 11) (M 10) l) ≤ frM (M 11) (M 12) (M 13) (M 10) (M 2) (M 0 6) (M 0 1) (8 * l + i) then (1 : Int) else 0)) h0 hq (by show (if _ then _ else _) ≠ _; rw [if_pos h150]; decide) (by omega)
                    exact L2 9 (i + 1) i _ (by omega) (by omega) (by omega) e1 (by omega)
          · exfalso; omega
  refine r_aldn iX8_fill_0 rfl ?_
  refine r_ldn iX8_fill_1 rfl ?_
  refine call_V1i iX8_fill_2 clX8_142 myX8_isLoad rfl rfl rfl rfl (sX8_isLoad _ _ (by omega) hN) ?_
  refine r_ifne iX8_fill_5 (by split <;> omega) (fun h5 => ?_) (fun h5 => ?_)
  · rw [ne_eq, ite10n] at h5
    refine r_aldn iX8_fill_10 rfl ?_
    refine r_getr iX8_fill_11 flX8_35 rfl rfl ?_
    refine r_ldn iX8_fill_14 rfl ?_
    refine r_ial iX8_fill_15 rfl (by omega) ?_
    refine r_aldn iX8_fill_16 rfl ?_
    refine r_ldn iX8_fill_17 rfl ?_
    refine call_V1i iX8_fill_18 clX8_148 myX8_sentOf rfl rfl rfl rfl (sX8_sentOf _ _ (by omega) hW hN) ?_
    refine r_sub iX8_fill_21 ?_
    refine r_stn iX8_fill_22 (by decide) rfl ?_
    refine r_ldn iX8_fill_23 rfl ?_
    refine r_ifgt iX8_fill_24 (by omega) (fun h24 => ?_) (fun h24 => ?_)
    · refine r_con iX8_fill_29 ?_
      refine r_stn iX8_fill_30 (by decide) rfl ?_
      refine r_aldn iX8_fill_31 rfl ?_
      refine r_ldn iX8_fill_32 rfl ?_
      refine call_V1i iX8_fill_33 clX8_161 myX8_amountMany rfl rfl rfl rfl (sX8_amountMany _ _ (by omega) hW hA hN) ?_
      refine r_ifne iX8_fill_36 (by omega) (fun h36 => ?_) (fun h36 => ?_)
      · exact absurd hc h36
      · refine r_con iX8_fill_39 ?_
        refine r_goto iX8_fill_40 ?_
        refine r_st iX8_fill_44 (by decide) rfl ?_
        refine r_con iX8_fill_46 ?_
        refine r_st iX8_fill_47 (by decide) rfl ?_
        exact L1 9 0 _ (by omega) (by omega) (fun j h2 h3 => by omega) (by omega)
    · exfalso; omega
  · rw [ite10] at h5
    exact absurd h h5
end RH
