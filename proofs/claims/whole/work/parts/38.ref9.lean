/-! the reference: road, load, buy -/
def rdN (M : Mem) (lo hi rm pr : Int) : Mem := mset (mset (mset (mset (mset M 1 (fset (fset (M 1) (2 * M 0 1) lo) (2 * M 0 1 + 1) hi)) 2 (fset (M 2) (M 0 1) rm)) 3 (fset (M 3) (M 0 1) pr)) 4 (fset (M 4) (M 0 1) 1)) 0 (fset (M 0) 1 (M 0 1 + 1))
def rdM (M : Mem) (lo hi rm pr : Int) : Mem := mset (mset (rdN M lo hi rm pr) 10 (ini (M 10) (fun _ => 0) 40)) 9 (ini (M 9) (fun _ => 0) 5)
def ldN (M : Mem) (k f t s : Int) : Mem := mset (mset (mset (mset (mset M 5 (fset (M 5) (M 0 6) k)) 6 (fset (M 6) (M 0 6) f)) 7 (fset (M 7) (M 0 6) t)) 8 (fset (M 8) (M 0 6) s)) 9 (fset (M 9) (M 0 6) 0)
def ldM (M : Mem) (k f t s : Int) : Mem := mset (mset (ldN M k f t s) 10 (clr (M 10) (8 * M 0 6) 8)) 0 (fset (M 0) 6 (M 0 6 + 1))
theorem NBm_road {M : Mem} {lo hi rm pr : Int} (hN : NBm M) (hf : M 0 1 ≠ 20) (h1 : 0 ≤ lo ∧ lo < hi ∧ hi < M 0 0) (h2 : 0 ≤ rm ∧ rm ≤ 100) (h3 : 0 ≤ pr ∧ pr ≤ 50) : NBm (rdM M lo hi rm pr) := by
  obtain ⟨hp0, hr, hl, hR, hL⟩ := hN
  refine ⟨hp0, ?_, hl, ?_, hL⟩
  · show 0 ≤ fset (M 0) 1 (M 0 1 + 1) 1 ∧ fset (M 0) 1 (M 0 1 + 1) 1 ≤ 20
    rw [fset_s]; omega
  · intro r h0 h9
    replace h9 : r < fset (M 0) 1 (M 0 1 + 1) 1 := h9
    rw [fset_s] at h9
    show (0 ≤ fset (fset (M 1) (2 * M 0 1) lo) (2 * M 0 1 + 1) hi (2 * r) ∧ fset (fset (M 1) (2 * M 0 1) lo) (2 * M 0 1 + 1) hi (2 * r) < fset (fset (M 1) (2 * M 0 1) lo) (2 * M 0 1 + 1) hi (2 * r + 1) ∧ fset (fset (M 1) (2 * M 0 1) lo) (2 * M 0 1 + 1) hi (2 * r + 1) < M 0 0) ∧ (0 ≤ fset (M 2) (M 0 1) rm r ∧ fset (M 2) (M 0 1) rm r ≤ 100) ∧ (0 ≤ fset (M 3) (M 0 1) pr r ∧ fset (M 3) (M 0 1) pr r ≤ 50) ∧ (0 ≤ fset (M 4) (M 0 1) 1 r ∧ fset (M 4) (M 0 1) 1 r ≤ 20)
    by_cases e : r = M 0 1
    · rw [e, fset_n (i := 2 * M 0 1 + 1) (by omega : 2 * M 0 1 ≠ 2 * M 0 1 + 1), fset_s, fset_s, fset_s, fset_s, fset_s]
      omega
    · rw [fset_n (i := 2 * M 0 1 + 1) (by omega : 2 * r ≠ 2 * M 0 1 + 1), fset_n (by omega : 2 * r ≠ 2 * M 0 1), fset_n (by omega : 2 * r + 1 ≠ 2 * M 0 1 + 1), fset_n (by omega : 2 * r + 1 ≠ 2 * M 0 1), fset_n e, fset_n e, fset_n e]
      exact hR r h0 (by omega)
theorem NBm_load {M : Mem} {k f t s : Int} (hN : NBm M) (hf : M 0 6 ≠ 5) (h1 : 0 ≤ k ∧ k ≤ 2) (h2 : 0 ≤ f ∧ f < M 0 0) (h3 : 0 ≤ t ∧ t < M 0 0) (h4 : f ≠ t) (h5 : 1 ≤ s ∧ s ≤ 100) : NBm (ldM M k f t s) := by
  obtain ⟨hp0, hr, hl, hR, hL⟩ := hN
  refine ⟨hp0, hr, ?_, hR, ?_⟩
  · show 0 ≤ fset (M 0) 6 (M 0 6 + 1) 6 ∧ fset (M 0) 6 (M 0 6 + 1) 6 ≤ 5
    rw [fset_s]; omega
  · intro l h0 h9
    replace h9 : l < fset (M 0) 6 (M 0 6 + 1) 6 := h9
    rw [fset_s] at h9
    show (0 ≤ fset (M 5) (M 0 6) k l ∧ fset (M 5) (M 0 6) k l ≤ 2) ∧ (0 ≤ fset (M 6) (M 0 6) f l ∧ fset (M 6) (M 0 6) f l < M 0 0) ∧ (0 ≤ fset (M 7) (M 0 6) t l ∧ fset (M 7) (M 0 6) t l < M 0 0) ∧ fset (M 6) (M 0 6) f l ≠ fset (M 7) (M 0 6) t l ∧ (1 ≤ fset (M 8) (M 0 6) s l ∧ fset (M 8) (M 0 6) s l ≤ 100)
    by_cases e : l = M 0 6
    · rw [e, fset_s, fset_s, fset_s, fset_s]; exact ⟨h1, h2, h3, h4, h5⟩
    · rw [fset_n e, fset_n e, fset_n e, fset_n e]; exact hL l h0 (by omega)
theorem NBm_rooms {M : Mem} {f : Int → Int} (hN : NBm M) (h : ∀ r, 0 ≤ r → r < M 0 1 → 0 ≤ f r ∧ f r ≤ 100) : NBm (mset M 2 f) := by
  obtain ⟨hp0, hr, hl, hR, hL⟩ := hN
  exact ⟨hp0, hr, hl, fun r h0 h1 => ⟨(hR r h0 h1).1, h r h0 h1, (hR r h0 h1).2.2⟩, hL⟩
section RJ
variable {g : Gt} {M : Mem}
theorem sX8_road_x (d : Nat) (p q rm pr : Int) (hpr : -2147483648 ≤ p ∧ p ≤ 2147483647) (hqr : -2147483648 ≤ q ∧ q ≤ 2147483647) (hrmr : -2147483648 ≤ rm ∧ rm ≤ 2147483647) (hprr : -2147483648 ≤ pr ∧ pr ≤ 2147483647) (hN : NBm M) (h : ¬ ((0 ≤ p ∧ p < M 0 0) ∧ (0 ≤ q ∧ q < M 0 0) ∧ p ≠ q ∧ (0 ≤ rm ∧ rm ≤ 100) ∧ (0 ≤ pr ∧ pr ≤ 50))) : Ex LyM g (d + 1) mX8_road [vr 0, vi p, vi q, vi rm, vi pr] M (PI (-1) M) := by
  refine Ex.in [some (vr 0), some (vi p), some (vi q), some (vi rm), some (vi pr), none] (by decide +kernel) rfl (Nat.le_of_ble_eq_true rfl) ?_ rfl
  obtain ⟨hp0, hr, hl, hR, hL⟩ := id hN
  refine r_aldn iX8_road_0 rfl ?_
  refine r_ldn iX8_road_1 rfl ?_
  refine call_V1i iX8_road_2 clX8_125 myX8_isPost rfl rfl rfl rfl (sX8_isPost _ _ (by omega) hN) ?_
  refine r_ifeq iX8_road_5 (by split <;> omega) (fun h5 => ?_) (fun h5 => ?_)
  · rw [ite10] at h5
    refine r_con iX8_road_42 ?_
    refine r_iret iX8_road_43 rfl ?_
    exact ⟨rfl, rfl⟩
  · rw [ne_eq, ite10n] at h5
    refine r_aldn iX8_road_8 rfl ?_
    refine r_ldn iX8_road_9 rfl ?_
    refine call_V1i iX8_road_10 clX8_125 myX8_isPost rfl rfl rfl rfl (sX8_isPost _ _ (by omega) hN) ?_
    refine r_ifeq iX8_road_13 (by split <;> omega) (fun h13 => ?_) (fun h13 => ?_)
    · rw [ite10] at h13
      refine r_con iX8_road_42 ?_
      refine r_iret iX8_road_43 rfl ?_
      exact ⟨rfl, rfl⟩
    · rw [ne_eq, ite10n] at h13
      refine r_ldn iX8_road_16 rfl ?_
      refine r_ldn iX8_road_17 rfl ?_
      refine r_ceq iX8_road_18 (by omega) (fun h18 => ?_) (fun h18 => ?_)
      · refine r_con iX8_road_42 ?_
        refine r_iret iX8_road_43 rfl ?_
        exact ⟨rfl, rfl⟩
      · refine r_ldn iX8_road_21 rfl ?_
        refine r_con iX8_road_22 ?_
        refine r_bip iX8_road_23 (by decide) ?_
        refine call_S3i iX8_road_25 clX8_122 myX8_in rfl (sX8_in _ _ _ _ (by omega)) ?_
        refine r_ifeq iX8_road_28 (by split <;> omega) (fun h28 => ?_) (fun h28 => ?_)
        · rw [ite10] at h28
          refine r_con iX8_road_42 ?_
          refine r_iret iX8_road_43 rfl ?_
          exact ⟨rfl, rfl⟩
        · rw [ne_eq, ite10n] at h28
          refine r_ld iX8_road_31 rfl ?_
          refine r_con iX8_road_33 ?_
          refine r_bip iX8_road_34 (by decide) ?_
          refine call_S3i iX8_road_36 clX8_122 myX8_in rfl (sX8_in _ _ _ _ (by omega)) ?_
          refine r_ifne iX8_road_39 (by split <;> omega) (fun h39 => ?_) (fun h39 => ?_)
          · rw [ne_eq, ite10n] at h39
            exfalso; omega
          · rw [ite10] at h39
            refine r_con iX8_road_42 ?_
            refine r_iret iX8_road_43 rfl ?_
            exact ⟨rfl, rfl⟩
theorem sX8_road_f (d : Nat) (p q rm pr : Int) (hpr : -2147483648 ≤ p ∧ p ≤ 2147483647) (hqr : -2147483648 ≤ q ∧ q ≤ 2147483647) (hrmr : -2147483648 ≤ rm ∧ rm ≤ 2147483647) (hprr : -2147483648 ≤ pr ∧ pr ≤ 2147483647) (hN : NBm M) (h : (0 ≤ p ∧ p < M 0 0) ∧ (0 ≤ q ∧ q < M 0 0) ∧ p ≠ q ∧ (0 ≤ rm ∧ rm ≤ 100) ∧ (0 ≤ pr ∧ pr ≤ 50)) (hf : M 0 1 = 20) : Ex LyM g (d + 1) mX8_road [vr 0, vi p, vi q, vi rm, vi pr] M (PI (-2) M) := by
  refine Ex.in [some (vr 0), some (vi p), some (vi q), some (vi rm), some (vi pr), none] (by decide +kernel) rfl (Nat.le_of_ble_eq_true rfl) ?_ rfl
  obtain ⟨hp0, hr, hl, hR, hL⟩ := id hN
  refine r_aldn iX8_road_0 rfl ?_
  refine r_ldn iX8_road_1 rfl ?_
  refine call_V1i iX8_road_2 clX8_125 myX8_isPost rfl rfl rfl rfl (sX8_isPost _ _ (by omega) hN) ?_
  refine r_ifeq iX8_road_5 (by split <;> omega) (fun h5 => ?_) (fun h5 => ?_)
  · rw [ite10] at h5
    exfalso; omega
  · rw [ne_eq, ite10n] at h5
    refine r_aldn iX8_road_8 rfl ?_
    refine r_ldn iX8_road_9 rfl ?_
    refine call_V1i iX8_road_10 clX8_125 myX8_isPost rfl rfl rfl rfl (sX8_isPost _ _ (by omega) hN) ?_
    refine r_ifeq iX8_road_13 (by split <;> omega) (fun h13 => ?_) (fun h13 => ?_)
    · rw [ite10] at h13
      exfalso; omega
    · rw [ne_eq, ite10n] at h13
      refine r_ldn iX8_road_16 rfl ?_
      refine r_ldn iX8_road_17 rfl ?_
      refine r_ceq iX8_road_18 (by omega) (fun h18 => ?_) (fun h18 => ?_)
      · exfalso; omega
      · refine r_ldn iX8_road_21 rfl ?_
        refine r_con iX8_road_22 ?_
        refine r_bip iX8_road_23 (by decide) ?_
        refine call_S3i iX8_road_25 clX8_122 myX8_in rfl (sX8_in _ _ _ _ (by omega)) ?_
        refine r_ifeq iX8_road_28 (by split <;> omega) (fun h28 => ?_) (fun h28 => ?_)
        · rw [ite10] at h28
          exfalso; omega
        · rw [ne_eq, ite10n] at h28
          refine r_ld iX8_road_31 rfl ?_
          refine r_con iX8_road_33 ?_
          refine r_bip iX8_road_34 (by decide) ?_
          refine call_S3i iX8_road_36 clX8_122 myX8_in rfl (sX8_in _ _ _ _ (by omega)) ?_
          refine r_ifne iX8_road_39 (by split <;> omega) (fun h39 => ?_) (fun h39 => ?_)
          · rw [ne_eq, ite10n] at h39
            refine r_aldn iX8_road_44 rfl ?_
            refine r_geti 1 iX8_road_45 flX8_97 rfl rfl rfl rfl ?_
            refine r_bip iX8_road_48 (by decide) ?_
            refine r_cne iX8_road_50 (by omega) (fun h50 => ?_) (fun h50 => ?_)
            · exfalso; omega
            · refine r_bip iX8_road_53 (by decide) ?_
              refine r_iret iX8_road_55 rfl ?_
              exact ⟨rfl, rfl⟩
          · rw [ite10] at h39
            exfalso; omega
theorem sX8_road_o (d : Nat) (p q rm pr lo hi : Int) (hpr : -2147483648 ≤ p ∧ p ≤ 2147483647) (hqr : -2147483648 ≤ q ∧ q ≤ 2147483647) (hrmr : -2147483648 ≤ rm ∧ rm ≤ 2147483647) (hprr : -2147483648 ≤ pr ∧ pr ≤ 2147483647) (hlo : (p < q ∧ lo = p ∧ hi = q) ∨ (q < p ∧ lo = q ∧ hi = p)) (h : (0 ≤ p ∧ p < M 0 0) ∧ (0 ≤ q ∧ q < M 0 0) ∧ p ≠ q ∧ (0 ≤ rm ∧ rm ≤ 100) ∧ (0 ≤ pr ∧ pr ≤ 50)) (hf : M 0 1 ≠ 20) (hN : NBm M) : Ex LyM g (d + 3) mX8_road [vr 0, vi p, vi q, vi rm, vi pr] M (fun r M' => r = some (vi (M 0 1)) ∧ (∀ l, 0 ≤ l → l < M 0 6 → WLm M' l) ∧ FwM (rdM M lo hi rm pr) M') := by
  refine Ex.in [some (vr 0), some (vi p), some (vi q), some (vi rm), some (vi pr), none] (by decide +kernel) rfl (Nat.le_of_ble_eq_true rfl) ?_ rfl
  obtain ⟨hp0, hr, hl, hR, hL⟩ := id hN
  have L2 : ∀ (n9 : Nat) (i : Int), (0 ≤ i) → (i ≤ 5) → 5 - i < n9 → R LyM g mX8_road (d + 3) 168 [some (vr 0), some (vi p), some (vi q), some (vi rm), some (vi pr), some (vi i)] [] (mset (mset (rdN M lo hi rm pr) 10 (ini (M 10) (fun _ => 0) 40)) 9 (ini (M 9) (fun _ => 0) i)) (fun r M' => r = some (vi (M 0 1)) ∧ (∀ l, 0 ≤ l → l < M 0 6 → WLm M' l) ∧ FwM (rdM M lo hi rm pr) M') := by
    intro n9
    induction n9 with
    | zero =>
      intro i h0 h1 hm9
      omega
    | succ n9 ih =>
      intro i h0 h1 hm9
      refine r_ld iX8_road_168 rfl ?_
      refine r_con iX8_road_170 ?_
      refine r_cge iX8_road_171 (by omega) (fun h171 => ?_) (fun h171 => ?_)
      · rw [show i = 5 by omega]
        have hN2 := NBm_road (lo := lo) (hi := hi) (rm := rm) (pr := pr) hN hf (by omega) (by omega) (by omega)
        refine r_aldn iX8_road_188 rfl ?_
        refine call_V0p iX8_road_189 clX8_129 myX8_findWays rfl rfl rfl rfl (sX8_findWays _ (rdM M lo hi rm pr) hN2) (fun r189 M189 h189 => ?_)
        obtain ⟨e1, e2, e3⟩ := h189
        subst e1
        have e4 : M189 0 1 = M 0 1 + 1 := by
          rw [e3 0 (by decide) (by decide) (by decide) (by decide) (by decide)]
          show fset (M 0) 1 (M 0 1 + 1) 1 = _
          rw [fset_s]
        refine r_aldn iX8_road_192 rfl ?_
        refine r_geti 1 iX8_road_193 flX8_97 rfl rfl rfl rfl ?_
        refine r_con iX8_road_196 ?_
        refine r_sub iX8_road_197 ?_
        refine r_iret iX8_road_198 rfl ?_
        exact ⟨by rw [show M189 0 1 - 1 = M 0 1 by omega], e2, e3⟩
      · refine r_aldn iX8_road_174 rfl ?_
        refine r_getr iX8_road_175 flX8_38 rfl rfl ?_
        refine r_ld iX8_road_178 rfl ?_
        refine r_con iX8_road_180 ?_
        refine r_ias iX8_road_181 rfl (by omega) ?_
        refine r_inc iX8_road_182 rfl (by decide) rfl ?_
        refine r_goto iX8_road_185 ?_
        try simp only [mset_s, mset_n, mset_mset, fset_s, ne_eq, Nat.reduceEqDiff, not_false_eq_true]
        rw [show fset (ini (M 9) (fun _ => 0) i) i 0 = ini (M 9) (fun _ => 0) (i + 1) from ini_1 (v := fun _ => 0) h0]
        exact ih (i + 1) (by omega) (by omega) (by omega)
  have L1 : ∀ (n9 : Nat) (i : Int), (0 ≤ i) → (i ≤ 40) → 40 - i < n9 → R LyM g mX8_road (d + 3) 144 [some (vr 0), some (vi p), some (vi q), some (vi rm), some (vi pr), some (vi i)] [] (mset (rdN M lo hi rm pr) 10 (ini (M 10) (fun _ => 0) i)) (fun r M' => r = some (vi (M 0 1)) ∧ (∀ l, 0 ≤ l → l < M 0 6 → WLm M' l) ∧ FwM (rdM M lo hi rm pr) M') := by
    intro n9
    induction n9 with
    | zero =>
      intro i h0 h1 hm9
      omega
    | succ n9 ih =>
      intro i h0 h1 hm9
      refine r_ld iX8_road_144 rfl ?_
      refine r_bip iX8_road_146 (by decide) ?_
      refine r_cge iX8_road_148 (by omega) (fun h148 => ?_) (fun h148 => ?_)
      · refine r_con iX8_road_165 ?_
        refine r_st iX8_road_166 (by decide) rfl ?_
        rw [show i = 40 by omega]
        have L0 := L2 6 0 (by omega) (by omega) (by omega)
        rw [ini_0, show mset (mset (rdN M lo hi rm pr) 10 (ini (M 10) (fun _ => 0) 40)) 9 (M 9) = mset (rdN M lo hi rm pr) 10 (ini (M 10) (fun _ => 0) 40) from mset_eq rfl] at L0
        exact L0
      · refine r_aldn iX8_road_151 rfl ?_
        refine r_getr iX8_road_152 flX8_41 rfl rfl ?_
        refine r_ld iX8_road_155 rfl ?_
        refine r_con iX8_road_157 ?_
        refine r_ias iX8_road_158 rfl (by omega) ?_
        refine r_inc iX8_road_159 rfl (by decide) rfl ?_
        refine r_goto iX8_road_162 ?_
        try simp only [mset_s, mset_n, mset_mset, fset_s, ne_eq, Nat.reduceEqDiff, not_false_eq_true]
        rw [show fset (ini (M 10) (fun _ => 0) i) i 0 = ini (M 10) (fun _ => 0) (i + 1) from ini_1 (v := fun _ => 0) h0]
        exact ih (i + 1) (by omega) (by omega) (by omega)
  refine r_aldn iX8_road_0 rfl ?_
  refine r_ldn iX8_road_1 rfl ?_
  refine call_V1i iX8_road_2 clX8_125 myX8_isPost rfl rfl rfl rfl (sX8_isPost _ _ (by omega) hN) ?_
  refine r_ifeq iX8_road_5 (by split <;> omega) (fun h5 => ?_) (fun h5 => ?_)
  · rw [ite10] at h5
    exfalso; omega
  · rw [ne_eq, ite10n] at h5
    refine r_aldn iX8_road_8 rfl ?_
    refine r_ldn iX8_road_9 rfl ?_
    refine call_V1i iX8_road_10 clX8_125 myX8_isPost rfl rfl rfl rfl (sX8_isPost _ _ (by omega) hN) ?_
    refine r_ifeq iX8_road_13 (by split <;> omega) (fun h13 => ?_) (fun h13 => ?_)
    · rw [ite10] at h13
      exfalso; omega
    · rw [ne_eq, ite10n] at h13
      refine r_ldn iX8_road_16 rfl ?_
      refine r_ldn iX8_road_17 rfl ?_
      refine r_ceq iX8_road_18 (by omega) (fun h18 => ?_) (fun h18 => ?_)
      · exfalso; omega
      · refine r_ldn iX8_road_21 rfl ?_
        refine r_con iX8_road_22 ?_
        refine r_bip iX8_road_23 (by decide) ?_
        refine call_S3i iX8_road_25 clX8_122 myX8_in rfl (sX8_in _ _ _ _ (by omega)) ?_
        refine r_ifeq iX8_road_28 (by split <;> omega) (fun h28 => ?_) (fun h28 => ?_)
        · rw [ite10] at h28
          exfalso; omega
        · rw [ne_eq, ite10n] at h28
          refine r_ld iX8_road_31 rfl ?_
          refine r_con iX8_road_33 ?_
          refine r_bip iX8_road_34 (by decide) ?_
          refine call_S3i iX8_road_36 clX8_122 myX8_in rfl (sX8_in _ _ _ _ (by omega)) ?_
          refine r_ifne iX8_road_39 (by split <;> omega) (fun h39 => ?_) (fun h39 => ?_)
          · rw [ne_eq, ite10n] at h39
            refine r_aldn iX8_road_44 rfl ?_
            refine r_geti 1 iX8_road_45 flX8_97 rfl rfl rfl rfl ?_
            refine r_bip iX8_road_48 (by decide) ?_
            refine r_cne iX8_road_50 (by omega) (fun h50 => ?_) (fun h50 => ?_)
            · refine r_aldn iX8_road_56 rfl ?_
              refine r_getr iX8_road_57 flX8_13 rfl rfl ?_
              refine r_con iX8_road_60 ?_
              refine r_aldn iX8_road_61 rfl ?_
              refine r_geti 1 iX8_road_62 flX8_97 rfl rfl rfl rfl ?_
              refine r_mul iX8_road_65 ?_
              refine r_ldn iX8_road_66 rfl ?_
              refine r_ldn iX8_road_67 rfl ?_
              refine r_cge iX8_road_68 (by omega) (fun h68 => ?_) (fun h68 => ?_)
              · refine r_ldn iX8_road_75 rfl ?_
                refine r_ias iX8_road_76 rfl (by omega) ?_
                try simp only [mset_s, mset_n, mset_mset, fset_s, ne_eq, Nat.reduceEqDiff, not_false_eq_true]
                refine r_aldn iX8_road_77 rfl ?_
                refine r_getr iX8_road_78 flX8_13 rfl rfl ?_
                refine r_con iX8_road_81 ?_
                refine r_aldn iX8_road_82 rfl ?_
                refine r_geti 1 iX8_road_83 flX8_97 rfl rfl rfl rfl ?_
                refine r_mul iX8_road_86 ?_
                try simp only [mset_s, mset_n, mset_mset, fset_s, ne_eq, Nat.reduceEqDiff, not_false_eq_true]
                refine r_con iX8_road_87 ?_
                refine r_add iX8_road_88 ?_
                refine r_ldn iX8_road_89 rfl ?_
                refine r_ldn iX8_road_90 rfl ?_
                refine r_cge iX8_road_91 (by omega) (fun h91 => ?_) (fun h91 => ?_)
                · refine r_ldn iX8_road_98 rfl ?_
                  try simp only [mset_s, mset_n, mset_mset, fset_s, ne_eq, Nat.reduceEqDiff, not_false_eq_true]
                  refine r_ias iX8_road_99 rfl (by omega) ?_
                  try simp only [mset_s, mset_n, mset_mset, fset_s, ne_eq, Nat.reduceEqDiff, not_false_eq_true]
                  refine r_aldn iX8_road_100 rfl ?_
                  refine r_getr iX8_road_101 flX8_17 rfl rfl ?_
                  refine r_aldn iX8_road_104 rfl ?_
                  refine r_geti 1 iX8_road_105 flX8_97 rfl rfl rfl rfl ?_
                  refine r_ldn iX8_road_108 rfl ?_
                  try simp only [mset_s, mset_n, mset_mset, fset_s, ne_eq, Nat.reduceEqDiff, not_false_eq_true]
                  refine r_ias iX8_road_109 rfl (by omega) ?_
                  try simp only [mset_s, mset_n, mset_mset, fset_s, ne_eq, Nat.reduceEqDiff, not_false_eq_true]
                  refine r_aldn iX8_road_110 rfl ?_
                  refine r_getr iX8_road_111 flX8_20 rfl rfl ?_
                  refine r_aldn iX8_road_114 rfl ?_
                  refine r_geti 1 iX8_road_115 flX8_97 rfl rfl rfl rfl ?_
                  refine r_ld iX8_road_118 rfl ?_
                  try simp only [mset_s, mset_n, mset_mset, fset_s, ne_eq, Nat.reduceEqDiff, not_false_eq_true]
                  refine r_ias iX8_road_120 rfl (by omega) ?_
                  try simp only [mset_s, mset_n, mset_mset, fset_s, ne_eq, Nat.reduceEqDiff, not_false_eq_true]
                  refine r_aldn iX8_road_121 rfl ?_
                  refine r_getr iX8_road_122 flX8_23 rfl rfl ?_
                  refine r_aldn iX8_road_125 rfl ?_
                  refine r_geti 1 iX8_road_126 flX8_97 rfl rfl rfl rfl ?_
                  refine r_con iX8_road_129 ?_
                  try simp only [mset_s, mset_n, mset_mset, fset_s, ne_eq, Nat.reduceEqDiff, not_false_eq_true]
                  refine r_ias iX8_road_130 rfl (by omega) ?_
                  try simp only [mset_s, mset_n, mset_mset, fset_s, ne_eq, Nat.reduceEqDiff, not_false_eq_true]
                  refine r_aldn iX8_road_131 rfl ?_
                  refine r_dup iX8_road_132 rfl ?_
                  refine r_geti 1 iX8_road_133 flX8_97 rfl rfl rfl rfl ?_
                  try simp only [mset_s, mset_n, mset_mset, fset_s, ne_eq, Nat.reduceEqDiff, not_false_eq_true]
                  refine r_con iX8_road_136 ?_
                  refine r_add iX8_road_137 ?_
                  refine r_puti 1 iX8_road_138 fpX8_97 rfl rfl rfl ?_
                  refine r_con iX8_road_141 ?_
                  refine r_st iX8_road_142 (by decide) rfl ?_
                  try simp only [mset_s, mset_n, mset_mset, fset_s, ne_eq, Nat.reduceEqDiff, not_false_eq_true]
                  have L0 := L1 41 0 (by omega) (by omega) (by omega)
                  rw [ini_0, show mset (rdN M lo hi rm pr) 10 (M 10) = (rdN M lo hi rm pr) from mset_eq rfl] at L0
                  have em : rdN M q p rm pr = rdN M lo hi rm pr := by rw [show lo = q by omega, show hi = p by omega]
                  change R _ _ _ _ _ _ _ (rdN M q p rm pr) _
                  rw [em]
                  exact L0
                · exfalso; omega
              · refine r_ldn iX8_road_71 rfl ?_
                refine r_goto iX8_road_72 ?_
                refine r_ias iX8_road_76 rfl (by omega) ?_
                try simp only [mset_s, mset_n, mset_mset, fset_s, ne_eq, Nat.reduceEqDiff, not_false_eq_true]
                refine r_aldn iX8_road_77 rfl ?_
                refine r_getr iX8_road_78 flX8_13 rfl rfl ?_
                refine r_con iX8_road_81 ?_
                refine r_aldn iX8_road_82 rfl ?_
                refine r_geti 1 iX8_road_83 flX8_97 rfl rfl rfl rfl ?_
                refine r_mul iX8_road_86 ?_
                try simp only [mset_s, mset_n, mset_mset, fset_s, ne_eq, Nat.reduceEqDiff, not_false_eq_true]
                refine r_con iX8_road_87 ?_
                refine r_add iX8_road_88 ?_
                refine r_ldn iX8_road_89 rfl ?_
                refine r_ldn iX8_road_90 rfl ?_
                refine r_cge iX8_road_91 (by omega) (fun h91 => ?_) (fun h91 => ?_)
                · exfalso; omega
                · refine r_ldn iX8_road_94 rfl ?_
                  refine r_goto iX8_road_95 ?_
                  try simp only [mset_s, mset_n, mset_mset, fset_s, ne_eq, Nat.reduceEqDiff, not_false_eq_true]
                  refine r_ias iX8_road_99 rfl (by omega) ?_
                  try simp only [mset_s, mset_n, mset_mset, fset_s, ne_eq, Nat.reduceEqDiff, not_false_eq_true]
                  refine r_aldn iX8_road_100 rfl ?_
                  refine r_getr iX8_road_101 flX8_17 rfl rfl ?_
                  refine r_aldn iX8_road_104 rfl ?_
                  refine r_geti 1 iX8_road_105 flX8_97 rfl rfl rfl rfl ?_
                  refine r_ldn iX8_road_108 rfl ?_
                  try simp only [mset_s, mset_n, mset_mset, fset_s, ne_eq, Nat.reduceEqDiff, not_false_eq_true]
                  refine r_ias iX8_road_109 rfl (by omega) ?_
                  try simp only [mset_s, mset_n, mset_mset, fset_s, ne_eq, Nat.reduceEqDiff, not_false_eq_true]
                  refine r_aldn iX8_road_110 rfl ?_
                  refine r_getr iX8_road_111 flX8_20 rfl rfl ?_
                  refine r_aldn iX8_road_114 rfl ?_
                  refine r_geti 1 iX8_road_115 flX8_97 rfl rfl rfl rfl ?_
                  refine r_ld iX8_road_118 rfl ?_
                  try simp only [mset_s, mset_n, mset_mset, fset_s, ne_eq, Nat.reduceEqDiff, not_false_eq_true]
                  refine r_ias iX8_road_120 rfl (by omega) ?_
                  try simp only [mset_s, mset_n, mset_mset, fset_s, ne_eq, Nat.reduceEqDiff, not_false_eq_true]
                  refine r_aldn iX8_road_121 rfl ?_
                  refine r_getr iX8_road_122 flX8_23 rfl rfl ?_
                  refine r_aldn iX8_road_125 rfl ?_
                  refine r_geti 1 iX8_road_126 flX8_97 rfl rfl rfl rfl ?_
                  refine r_con iX8_road_129 ?_
                  try simp only [mset_s, mset_n, mset_mset, fset_s, ne_eq, Nat.reduceEqDiff, not_false_eq_true]
                  refine r_ias iX8_road_130 rfl (by omega) ?_
                  try simp only [mset_s, mset_n, mset_mset, fset_s, ne_eq, Nat.reduceEqDiff, not_false_eq_true]
                  refine r_aldn iX8_road_131 rfl ?_
                  refine r_dup iX8_road_132 rfl ?_
                  refine r_geti 1 iX8_road_133 flX8_97 rfl rfl rfl rfl ?_
                  try simp only [mset_s, mset_n, mset_mset, fset_s, ne_eq, Nat.reduceEqDiff, not_false_eq_true]
                  refine r_con iX8_road_136 ?_
                  refine r_add iX8_road_137 ?_
                  refine r_puti 1 iX8_road_138 fpX8_97 rfl rfl rfl ?_
                  refine r_con iX8_road_141 ?_
                  refine r_st iX8_road_142 (by decide) rfl ?_
                  try simp only [mset_s, mset_n, mset_mset, fset_s, ne_eq, Nat.reduceEqDiff, not_false_eq_true]
                  have L0 := L1 41 0 (by omega) (by omega) (by omega)
                  rw [ini_0, show mset (rdN M lo hi rm pr) 10 (M 10) = (rdN M lo hi rm pr) from mset_eq rfl] at L0
                  have em : rdN M p q rm pr = rdN M lo hi rm pr := by rw [show lo = p by omega, show hi = q by omega]
                  change R _ _ _ _ _ _ _ (rdN M p q rm pr) _
                  rw [em]
                  exact L0
            · exfalso; omega
          · rw [ite10] at h39
            exfalso; omega
theorem sX8_load_x (d : Nat) (k f t s : Int) (hkr : -2147483648 ≤ k ∧ k ≤ 2147483647) (hfr : -2147483648 ≤ f ∧ f ≤ 2147483647) (htr : -2147483648 ≤ t ∧ t ≤ 2147483647) (hsr : -2147483648 ≤ s ∧ s ≤ 2147483647) (hN : NBm M) (h : ¬ ((0 ≤ f ∧ f < M 0 0) ∧ (0 ≤ t ∧ t < M 0 0) ∧ f ≠ t ∧ (0 ≤ k ∧ k ≤ 2) ∧ (1 ≤ s ∧ s ≤ 100))) : Ex LyM g (d + 1) mX8_load [vr 0, vi k, vi f, vi t, vi s] M (PI (-1) M) := by
  refine Ex.in [some (vr 0), some (vi k), some (vi f), some (vi t), some (vi s), none, none] (by decide +kernel) rfl (Nat.le_of_ble_eq_true rfl) ?_ rfl
  obtain ⟨hp0, hr, hl, hR, hL⟩ := id hN
  refine r_aldn iX8_load_0 rfl ?_
  refine r_ldn iX8_load_1 rfl ?_
  refine call_V1i iX8_load_2 clX8_125 myX8_isPost rfl rfl rfl rfl (sX8_isPost _ _ (by omega) hN) ?_
  refine r_ifeq iX8_load_5 (by split <;> omega) (fun h5 => ?_) (fun h5 => ?_)
  · rw [ite10] at h5
    refine r_con iX8_load_41 ?_
    refine r_iret iX8_load_42 rfl ?_
    exact ⟨rfl, rfl⟩
  · rw [ne_eq, ite10n] at h5
    refine r_aldn iX8_load_8 rfl ?_
    refine r_ldn iX8_load_9 rfl ?_
    refine call_V1i iX8_load_10 clX8_125 myX8_isPost rfl rfl rfl rfl (sX8_isPost _ _ (by omega) hN) ?_
    refine r_ifeq iX8_load_13 (by split <;> omega) (fun h13 => ?_) (fun h13 => ?_)
    · rw [ite10] at h13
      refine r_con iX8_load_41 ?_
      refine r_iret iX8_load_42 rfl ?_
      exact ⟨rfl, rfl⟩
    · rw [ne_eq, ite10n] at h13
      refine r_ldn iX8_load_16 rfl ?_
      refine r_ldn iX8_load_17 rfl ?_
      refine r_ceq iX8_load_18 (by omega) (fun h18 => ?_) (fun h18 => ?_)
      · refine r_con iX8_load_41 ?_
        refine r_iret iX8_load_42 rfl ?_
        exact ⟨rfl, rfl⟩
      · refine r_ldn iX8_load_21 rfl ?_
        refine r_con iX8_load_22 ?_
        refine r_con iX8_load_23 ?_
        refine call_S3i iX8_load_24 clX8_122 myX8_in rfl (sX8_in _ _ _ _ (by omega)) ?_
        refine r_ifeq iX8_load_27 (by split <;> omega) (fun h27 => ?_) (fun h27 => ?_)
        · rw [ite10] at h27
          refine r_con iX8_load_41 ?_
          refine r_iret iX8_load_42 rfl ?_
          exact ⟨rfl, rfl⟩
        · rw [ne_eq, ite10n] at h27
          refine r_ld iX8_load_30 rfl ?_
          refine r_con iX8_load_32 ?_
          refine r_bip iX8_load_33 (by decide) ?_
          refine call_S3i iX8_load_35 clX8_122 myX8_in rfl (sX8_in _ _ _ _ (by omega)) ?_
          refine r_ifne iX8_load_38 (by split <;> omega) (fun h38 => ?_) (fun h38 => ?_)
          · rw [ne_eq, ite10n] at h38
            exfalso; omega
          · rw [ite10] at h38
            refine r_con iX8_load_41 ?_
            refine r_iret iX8_load_42 rfl ?_
            exact ⟨rfl, rfl⟩
theorem sX8_load_f (d : Nat) (k f t s : Int) (hkr : -2147483648 ≤ k ∧ k ≤ 2147483647) (hfr : -2147483648 ≤ f ∧ f ≤ 2147483647) (htr : -2147483648 ≤ t ∧ t ≤ 2147483647) (hsr : -2147483648 ≤ s ∧ s ≤ 2147483647) (hN : NBm M) (h : (0 ≤ f ∧ f < M 0 0) ∧ (0 ≤ t ∧ t < M 0 0) ∧ f ≠ t ∧ (0 ≤ k ∧ k ≤ 2) ∧ (1 ≤ s ∧ s ≤ 100)) (hf : M 0 6 = 5) : Ex LyM g (d + 1) mX8_load [vr 0, vi k, vi f, vi t, vi s] M (PI (-2) M) := by
  refine Ex.in [some (vr 0), some (vi k), some (vi f), some (vi t), some (vi s), none, none] (by decide +kernel) rfl (Nat.le_of_ble_eq_true rfl) ?_ rfl
  obtain ⟨hp0, hr, hl, hR, hL⟩ := id hN
  refine r_aldn iX8_load_0 rfl ?_
  refine r_ldn iX8_load_1 rfl ?_
  refine call_V1i iX8_load_2 clX8_125 myX8_isPost rfl rfl rfl rfl (sX8_isPost _ _ (by omega) hN) ?_
  refine r_ifeq iX8_load_5 (by split <;> omega) (fun h5 => ?_) (fun h5 => ?_)
  · rw [ite10] at h5
    exfalso; omega
  · rw [ne_eq, ite10n] at h5
    refine r_aldn iX8_load_8 rfl ?_
    refine r_ldn iX8_load_9 rfl ?_
    refine call_V1i iX8_load_10 clX8_125 myX8_isPost rfl rfl rfl rfl (sX8_isPost _ _ (by omega) hN) ?_
    refine r_ifeq iX8_load_13 (by split <;> omega) (fun h13 => ?_) (fun h13 => ?_)
    · rw [ite10] at h13
      exfalso; omega
    · rw [ne_eq, ite10n] at h13
      refine r_ldn iX8_load_16 rfl ?_
      refine r_ldn iX8_load_17 rfl ?_
      refine r_ceq iX8_load_18 (by omega) (fun h18 => ?_) (fun h18 => ?_)
      · exfalso; omega
      · refine r_ldn iX8_load_21 rfl ?_
        refine r_con iX8_load_22 ?_
        refine r_con iX8_load_23 ?_
        refine call_S3i iX8_load_24 clX8_122 myX8_in rfl (sX8_in _ _ _ _ (by omega)) ?_
        refine r_ifeq iX8_load_27 (by split <;> omega) (fun h27 => ?_) (fun h27 => ?_)
        · rw [ite10] at h27
          exfalso; omega
        · rw [ne_eq, ite10n] at h27
          refine r_ld iX8_load_30 rfl ?_
          refine r_con iX8_load_32 ?_
          refine r_bip iX8_load_33 (by decide) ?_
          refine call_S3i iX8_load_35 clX8_122 myX8_in rfl (sX8_in _ _ _ _ (by omega)) ?_
          refine r_ifne iX8_load_38 (by split <;> omega) (fun h38 => ?_) (fun h38 => ?_)
          · rw [ne_eq, ite10n] at h38
            refine r_aldn iX8_load_43 rfl ?_
            refine r_geti 6 iX8_load_44 flX8_100 rfl rfl rfl rfl ?_
            refine r_con iX8_load_47 ?_
            refine r_cne iX8_load_48 (by omega) (fun h48 => ?_) (fun h48 => ?_)
            · exfalso; omega
            · refine r_bip iX8_load_51 (by decide) ?_
              refine r_iret iX8_load_53 rfl ?_
              exact ⟨rfl, rfl⟩
          · rw [ite10] at h38
            exfalso; omega
theorem sX8_load_o (d : Nat) (k f t s : Int) (hkr : -2147483648 ≤ k ∧ k ≤ 2147483647) (hfr : -2147483648 ≤ f ∧ f ≤ 2147483647) (htr : -2147483648 ≤ t ∧ t ≤ 2147483647) (hsr : -2147483648 ≤ s ∧ s ≤ 2147483647) (hN : NBm M) (h : (0 ≤ f ∧ f < M 0 0) ∧ (0 ≤ t ∧ t < M 0 0) ∧ f ≠ t ∧ (0 ≤ k ∧ k ≤ 2) ∧ (1 ≤ s ∧ s ≤ 100)) (hf : M 0 6 ≠ 5) : Ex LyM g (d + 3) mX8_load [vr 0, vi k, vi f, vi t, vi s] M (fun r M' => r = some (vi (M 0 6)) ∧ (∀ l, 0 ≤ l → l < M 0 6 + 1 → WLm M' l) ∧ FwM (ldM M k f t s) M') := by
  refine Ex.in [some (vr 0), some (vi k), some (vi f), some (vi t), some (vi s), none, none] (by decide +kernel) rfl (Nat.le_of_ble_eq_true rfl) ?_ rfl
  obtain ⟨hp0, hr, hl, hR, hL⟩ := id hN
  have L : ∀ (n9 : Nat) (i : Int), (0 ≤ i) → (i ≤ 8) → 8 - i < n9 → R LyM g mX8_load (d + 3) 104 [some (vr 0), some (vi k), some (vi f), some (vi t), some (vi s), some (vi (M 0 6)), some (vi i)] [] (mset (ldN M k f t s) 10 (clr (M 10) (8 * M 0 6) i)) (fun r M' => r = some (vi (M 0 6)) ∧ (∀ l, 0 ≤ l → l < M 0 6 + 1 → WLm M' l) ∧ FwM (ldM M k f t s) M') := by
    intro n9
    induction n9 with
    | zero =>
      intro i h0 h1 hm9
      omega
    | succ n9 ih =>
      intro i h0 h1 hm9
      refine r_ld iX8_load_104 rfl ?_
      refine r_bip iX8_load_106 (by decide) ?_
      refine r_cge iX8_load_108 (by omega) (fun h108 => ?_) (fun h108 => ?_)
      · refine r_aldn iX8_load_131 rfl ?_
        refine r_dup iX8_load_132 rfl ?_
        refine r_geti 6 iX8_load_133 flX8_100 rfl rfl rfl rfl ?_
        refine r_con iX8_load_136 ?_
        refine r_add iX8_load_137 ?_
        refine r_puti 6 iX8_load_138 fpX8_100 rfl rfl rfl ?_
        rw [show i = 8 by omega]
        have hN2 := NBm_load (k := k) (f := f) (t := t) (s := s) hN hf (by omega) (by omega) (by omega) (by omega) (by omega)
        refine r_aldn iX8_load_141 rfl ?_
        refine call_V0p iX8_load_142 clX8_129 myX8_findWays rfl rfl rfl rfl (sX8_findWays _ (ldM M k f t s) hN2) (fun r142 M142 h142 => ?_)
        obtain ⟨e1, e2, e3⟩ := h142
        subst e1
        refine r_ld iX8_load_145 rfl ?_
        refine r_iret iX8_load_147 rfl ?_
        refine ⟨rfl, fun l h2 h3 => e2 l h2 ?_, e3⟩
        show l < fset (M 0) 6 (M 0 6 + 1) 6
        rw [fset_s]; exact h3
      · refine r_aldn iX8_load_111 rfl ?_
        refine r_getr iX8_load_112 flX8_41 rfl rfl ?_
        refine r_bip iX8_load_115 (by decide) ?_
        refine r_ld iX8_load_117 rfl ?_
        refine r_mul iX8_load_119 ?_
        refine r_ld iX8_load_120 rfl ?_
        refine r_add iX8_load_122 ?_
        refine r_con iX8_load_123 ?_
        refine r_ias iX8_load_124 rfl (by omega) ?_
        refine r_inc iX8_load_125 rfl (by decide) rfl ?_
        refine r_goto iX8_load_128 ?_
        try simp only [mset_s, mset_n, mset_mset, fset_s, ne_eq, Nat.reduceEqDiff, not_false_eq_true]
        rw [clr_1 h0]
        exact ih (i + 1) (by omega) (by omega) (by omega)
  refine r_aldn iX8_load_0 rfl ?_
  refine r_ldn iX8_load_1 rfl ?_
  refine call_V1i iX8_load_2 clX8_125 myX8_isPost rfl rfl rfl rfl (sX8_isPost _ _ (by omega) hN) ?_
  refine r_ifeq iX8_load_5 (by split <;> omega) (fun h5 => ?_) (fun h5 => ?_)
  · rw [ite10] at h5
    exfalso; omega
  · rw [ne_eq, ite10n] at h5
    refine r_aldn iX8_load_8 rfl ?_
    refine r_ldn iX8_load_9 rfl ?_
    refine call_V1i iX8_load_10 clX8_125 myX8_isPost rfl rfl rfl rfl (sX8_isPost _ _ (by omega) hN) ?_
    refine r_ifeq iX8_load_13 (by split <;> omega) (fun h13 => ?_) (fun h13 => ?_)
    · rw [ite10] at h13
      exfalso; omega
    · rw [ne_eq, ite10n] at h13
      refine r_ldn iX8_load_16 rfl ?_
      refine r_ldn iX8_load_17 rfl ?_
      refine r_ceq iX8_load_18 (by omega) (fun h18 => ?_) (fun h18 => ?_)
      · exfalso; omega
      · refine r_ldn iX8_load_21 rfl ?_
        refine r_con iX8_load_22 ?_
        refine r_con iX8_load_23 ?_
        refine call_S3i iX8_load_24 clX8_122 myX8_in rfl (sX8_in _ _ _ _ (by omega)) ?_
        refine r_ifeq iX8_load_27 (by split <;> omega) (fun h27 => ?_) (fun h27 => ?_)
        · rw [ite10] at h27
          exfalso; omega
        · rw [ne_eq, ite10n] at h27
          refine r_ld iX8_load_30 rfl ?_
          refine r_con iX8_load_32 ?_
          refine r_bip iX8_load_33 (by decide) ?_
          refine call_S3i iX8_load_35 clX8_122 myX8_in rfl (sX8_in _ _ _ _ (by omega)) ?_
          refine r_ifne iX8_load_38 (by split <;> omega) (fun h38 => ?_) (fun h38 => ?_)
          · rw [ne_eq, ite10n] at h38
            refine r_aldn iX8_load_43 rfl ?_
            refine r_geti 6 iX8_load_44 flX8_100 rfl rfl rfl rfl ?_
            refine r_con iX8_load_47 ?_
            refine r_cne iX8_load_48 (by omega) (fun h48 => ?_) (fun h48 => ?_)
            · refine r_aldn iX8_load_54 rfl ?_
              refine r_geti 6 iX8_load_55 flX8_100 rfl rfl rfl rfl ?_
              refine r_st iX8_load_58 (by decide) rfl ?_
              refine r_aldn iX8_load_60 rfl ?_
              refine r_getr iX8_load_61 flX8_26 rfl rfl ?_
              refine r_ld iX8_load_64 rfl ?_
              refine r_ldn iX8_load_66 rfl ?_
              refine r_ias iX8_load_67 rfl (by omega) ?_
              refine r_aldn iX8_load_68 rfl ?_
              refine r_getr iX8_load_69 flX8_29 rfl rfl ?_
              refine r_ld iX8_load_72 rfl ?_
              refine r_ldn iX8_load_74 rfl ?_
              refine r_ias iX8_load_75 rfl (by omega) ?_
              refine r_aldn iX8_load_76 rfl ?_
              refine r_getr iX8_load_77 flX8_32 rfl rfl ?_
              refine r_ld iX8_load_80 rfl ?_
              refine r_ldn iX8_load_82 rfl ?_
              refine r_ias iX8_load_83 rfl (by omega) ?_
              refine r_aldn iX8_load_84 rfl ?_
              refine r_getr iX8_load_85 flX8_35 rfl rfl ?_
              refine r_ld iX8_load_88 rfl ?_
              refine r_ld iX8_load_90 rfl ?_
              refine r_ias iX8_load_92 rfl (by omega) ?_
              refine r_aldn iX8_load_93 rfl ?_
              refine r_getr iX8_load_94 flX8_38 rfl rfl ?_
              refine r_ld iX8_load_97 rfl ?_
              refine r_con iX8_load_99 ?_
              refine r_ias iX8_load_100 rfl (by omega) ?_
              refine r_con iX8_load_101 ?_
              refine r_st iX8_load_102 (by decide) rfl ?_
              try simp only [mset_s, mset_n, mset_mset, fset_s, ne_eq, Nat.reduceEqDiff, not_false_eq_true]
              have L0 := L 9 0 (by omega) (by omega) (by omega)
              rw [clr_0, show mset (ldN M k f t s) 10 (M 10) = (ldN M k f t s) from mset_eq rfl] at L0
              exact L0
            · exfalso; omega
          · rw [ite10] at h38
            exfalso; omega
theorem sX8_buy_x (d : Nat) (h : ¬ ∀ r, 0 ≤ r → r < M 0 1 → (ovM (M 11) (M 12) (M 13) (M 10) (M 2) (M 0 6) r = 0 ∨ usM (M 11) (M 12) (M 13) (M 10) (M 0 6) r ≤ 100)) (hW : WBm M) (hA : AVm M) (hN : NBm M) : Ex LyM g (d + 3) mX8_buy [vr 0] M (PI (-5) M) := by
  refine Ex.in [some (vr 0), none, none, none, none] (by decide +kernel) rfl (Nat.le_of_ble_eq_true rfl) ?_ rfl
  obtain ⟨hp0, hr, hl, hR, hL⟩ := id hN
  have L1 : ∀ (n9 : Nat) (i a : Int), (0 ≤ i) → (i ≤ M 0 1) → (a = 0 ∨ a = 1) → (a = 1 ↔ ∀ r, 0 ≤ r → r < i → (ovM (M 11) (M 12) (M 13) (M 10) (M 2) (M 0 6) r = 0 ∨ usM (M 11) (M 12) (M 13) (M 10) (M 0 6) r ≤ 100)) → M 0 1 - i < n9 → R LyM g mX8_buy (d + 3) 4 [some (vr 0), some (vi a), some (vi i), none, none] [] M (PI (-5) M) := by
    intro n9
    induction n9 with
    | zero =>
      intro i a h0 h1 hz ha hm9
      omega
    | succ n9 ih =>
      intro i a h0 h1 hz ha hm9
      refine r_ldn iX8_buy_4 rfl ?_
      refine r_aldn iX8_buy_5 rfl ?_
      refine r_geti 1 iX8_buy_6 flX8_97 rfl rfl rfl rfl ?_
      refine r_cge iX8_buy_9 (by omega) (fun h9 => ?_) (fun h9 => ?_)
      · refine r_ldn iX8_buy_46 rfl ?_
        refine r_ifne iX8_buy_47 (by omega) (fun h47 => ?_) (fun h47 => ?_)
        · rw [show i = M 0 1 by omega] at ha
          exact absurd (ha.mp (by omega)) h
        · refine r_bip iX8_buy_50 (by decide) ?_
          refine r_iret iX8_buy_52 rfl ?_
          exact ⟨rfl, rfl⟩
      · have hub := usM_bd hW hA hl i
        have hri := hR i h0 (by omega)
        have hov : ovM (M 11) (M 12) (M 13) (M 10) (M 2) (M 0 6) i = if 0 < usM (M 11) (M 12) (M 13) (M 10) (M 0 6) i - M 2 i then usM (M 11) (M 12) (M 13) (M 10) (M 0 6) i - M 2 i else 0 := rfl
        have hovb : 0 ≤ ovM (M 11) (M 12) (M 13) (M 10) (M 2) (M 0 6) i ∧ ovM (M 11) (M 12) (M 13) (M 10) (M 2) (M 0 6) i ≤ 2147483647 := by rw [hov]; split <;> omega
        refine r_ldn iX8_buy_12 rfl ?_
        refine r_ifeq iX8_buy_13 (by omega) (fun h13 => ?_) (fun h13 => ?_)
        · refine r_con iX8_buy_38 ?_
          refine r_stn iX8_buy_39 (by decide) rfl ?_
          refine r_inc iX8_buy_40 rfl (by decide) rfl ?_
          refine r_goto iX8_buy_43 ?_
          refine ih (i + 1) 0 (by omega) (by omega) (Or.inl rfl) ?_ (by omega)
          refine ⟨fun z => by omega, fun z => ?_⟩
          have := ha.mpr (fun r h2 h3 => z r h2 (by omega))
          omega
        · refine r_aldn iX8_buy_16 rfl ?_
          refine r_ldn iX8_buy_17 rfl ?_
          refine call_V1i iX8_buy_18 clX8_139 myX8_overOf rfl rfl rfl rfl (sX8_overOf _ _ (by omega) hW hA hN) ?_
          refine r_ifeq iX8_buy_21 (by omega) (fun h21 => ?_) (fun h21 => ?_)
          · refine r_con iX8_buy_34 ?_
            refine r_goto iX8_buy_35 ?_
            refine r_stn iX8_buy_39 (by decide) rfl ?_
            refine r_inc iX8_buy_40 rfl (by decide) rfl ?_
            refine r_goto iX8_buy_43 ?_
            refine ih (i + 1) 1 (by omega) (by omega) (Or.inr rfl) ?_ (by omega)
            have ha1 := ha.mp (by omega)
            refine ⟨fun _ r h2 h3 => ?_, fun _ => rfl⟩
            by_cases e : r = i
            · rw [e]; omega
            · exact ha1 r h2 (by omega)
          · refine r_aldn iX8_buy_24 rfl ?_
            refine r_ldn iX8_buy_25 rfl ?_
            refine call_V1i iX8_buy_26 clX8_135 myX8_used rfl rfl rfl rfl (sX8_used _ _ (by omega) hW hN) ?_
            refine r_bip iX8_buy_29 (by decide) ?_
            refine r_cgt iX8_buy_31 (by omega) (fun h31 => ?_) (fun h31 => ?_)
            · refine r_con iX8_buy_38 ?_
              refine r_stn iX8_buy_39 (by decide) rfl ?_
              refine r_inc iX8_buy_40 rfl (by decide) rfl ?_
              refine r_goto iX8_buy_43 ?_
              refine ih (i + 1) 0 (by omega) (by omega) (Or.inl rfl) ?_ (by omega)
              refine ⟨fun z => by omega, fun z => ?_⟩
              have zi := z i h0 (by omega)
              exfalso; omega
            · refine r_con iX8_buy_34 ?_
              refine r_goto iX8_buy_35 ?_
              refine r_stn iX8_buy_39 (by decide) rfl ?_
              refine r_inc iX8_buy_40 rfl (by decide) rfl ?_
              refine r_goto iX8_buy_43 ?_
              refine ih (i + 1) 1 (by omega) (by omega) (Or.inr rfl) ?_ (by omega)
              have ha1 := ha.mp (by omega)
              refine ⟨fun _ r h2 h3 => ?_, fun _ => rfl⟩
              by_cases e : r = i
              · rw [e]; omega
              · exact ha1 r h2 (by omega)
  refine r_con iX8_buy_0 ?_
  refine r_stn iX8_buy_1 (by decide) rfl ?_
  refine r_con iX8_buy_2 ?_
  refine r_stn iX8_buy_3 (by decide) rfl ?_
  exact L1 21 0 1 (by omega) (by omega) (Or.inr rfl) ⟨fun _ r h2 h3 => by omega, fun _ => rfl⟩ (by omega)
theorem sX8_buy_o (d : Nat) (h : ∀ r, 0 ≤ r → r < M 0 1 → (ovM (M 11) (M 12) (M 13) (M 10) (M 2) (M 0 6) r = 0 ∨ usM (M 11) (M 12) (M 13) (M 10) (M 0 6) r ≤ 100)) (hW : WBm M) (hA : AVm M) (hN : NBm M) : Ex LyM g (d + 3) mX8_buy [vr 0] M (PI (sg (fun r => ovM (M 11) (M 12) (M 13) (M 10) (M 2) (M 0 6) r) (M 0 1)) (mset M 2 (ini (M 2) (fun r => M 2 r + ovM (M 11) (M 12) (M 13) (M 10) (M 2) (M 0 6) r) (M 0 1)))) := by
  refine Ex.in [some (vr 0), none, none, none, none] (by decide +kernel) rfl (Nat.le_of_ble_eq_true rfl) ?_ rfl
  obtain ⟨hp0, hr, hl, hR, hL⟩ := id hN
  have L2 : ∀ (n9 : Nat) (i a : Int) (w : Option MV), (0 ≤ i) → (i ≤ M 0 1) → (a = sg (fun r => ovM (M 11) (M 12) (M 13) (M 10) (M 2) (M 0 6) r) i) → M 0 1 - i < n9 → R LyM g mX8_buy (d + 3) 57 [some (vr 0), some (vi 1), some (vi a), some (vi i), w] [] (mset M 2 (ini (M 2) (fun r => M 2 r + ovM (M 11) (M 12) (M 13) (M 10) (M 2) (M 0 6) r) i)) (PI (sg (fun r => ovM (M 11) (M 12) (M 13) (M 10) (M 2) (M 0 6) r) (M 0 1)) (mset M 2 (ini (M 2) (fun r => M 2 r + ovM (M 11) (M 12) (M 13) (M 10) (M 2) (M 0 6) r) (M 0 1)))) := by
    intro n9
    induction n9 with
    | zero =>
      intro i a w h0 h1 ha hm9
      omega
    | succ n9 ih =>
      intro i a w h0 h1 ha hm9
      have hN2 : NBm (mset M 2 (ini (M 2) (fun r => M 2 r + ovM (M 11) (M 12) (M 13) (M 10) (M 2) (M 0 6) r) i)) := NBm_rooms hN (fun r h2 h3 => by
        have hub := usM_bd hW hA hl r
        have hri := hR r h2 h3
        have hg := h r h2 h3
        have hov : ovM (M 11) (M 12) (M 13) (M 10) (M 2) (M 0 6) r = if 0 < usM (M 11) (M 12) (M 13) (M 10) (M 0 6) r - M 2 r then usM (M 11) (M 12) (M 13) (M 10) (M 0 6) r - M 2 r else 0 := rfl
        simp only [ini]
        rw [hov] at hg
        by_cases c : 0 ≤ r ∧ r < i
        · rw [if_pos c, hov]
          by_cases c2 : 0 < usM (M 11) (M 12) (M 13) (M 10) (M 0 6) r - M 2 r
          · rw [if_pos c2] at hg ⊢; omega
          · rw [if_neg c2] at hg ⊢; omega
        · rw [if_neg c]; omega)
      have eo : ovM (M 11) (M 12) (M 13) (M 10) (ini (M 2) (fun r => M 2 r + ovM (M 11) (M 12) (M 13) (M 10) (M 2) (M 0 6) r) i) (M 0 6) i = ovM (M 11) (M 12) (M 13) (M 10) (M 2) (M 0 6) i := by
        have e0 : (ini (M 2) (fun r => M 2 r + ovM (M 11) (M 12) (M 13) (M 10) (M 2) (M 0 6) r) i) i = M 2 i := if_neg (by omega)
        show (if 0 < usM (M 11) (M 12) (M 13) (M 10) (M 0 6) i - (ini (M 2) (fun r => M 2 r + ovM (M 11) (M 12) (M 13) (M 10) (M 2) (M 0 6) r) i) i then usM (M 11) (M 12) (M 13) (M 10) (M 0 6) i - (ini (M 2) (fun r => M 2 r + ovM (M 11) (M 12) (M 13) (M 10) (M 2) (M 0 6) r) i) i else 0) = _
        rw [e0]
        rfl
      refine r_ldn iX8_buy_57 rfl ?_
      refine r_aldn iX8_buy_58 rfl ?_
      refine r_geti 1 iX8_buy_59 flX8_97 rfl rfl rfl rfl ?_
      try simp only [mset_s, mset_n, mset_mset, fset_s, ne_eq, Nat.reduceEqDiff, not_false_eq_true]
      refine r_cge iX8_buy_62 (by omega) (fun h62 => ?_) (fun h62 => ?_)
      · refine r_ldn iX8_buy_94 rfl ?_
        refine r_iret iX8_buy_95 rfl ?_
        exact ⟨by rw [ha, show i = M 0 1 by omega], by rw [show i = M 0 1 by omega]⟩
      · refine r_aldn iX8_buy_65 rfl ?_
        refine r_ldn iX8_buy_66 rfl ?_
        refine call_V1i iX8_buy_67 clX8_139 myX8_overOf rfl rfl rfl rfl (sX8_overOf (M := mset M 2 (ini (M 2) (fun r => M 2 r + ovM (M 11) (M 12) (M 13) (M 10) (M 2) (M 0 6) r) i)) _ _ (by exact ⟨h0, h62⟩) hW hA hN2) ?_
        simp only [mset_s, mset_n, ne_eq, Nat.reduceEqDiff, not_false_eq_true]
        rw [eo]
        refine r_st iX8_buy_70 (by decide) rfl ?_
        refine r_aldn iX8_buy_72 rfl ?_
        refine r_getr iX8_buy_73 flX8_17 rfl rfl ?_
        refine r_ldn iX8_buy_76 rfl ?_
        try simp only [mset_s, mset_n, mset_mset, fset_s, ne_eq, Nat.reduceEqDiff, not_false_eq_true]
        refine r_dup2 iX8_buy_77 rfl rfl ?_
        refine r_ial iX8_buy_78 rfl (by omega) ?_
        refine r_ld iX8_buy_79 rfl ?_
        refine r_add iX8_buy_81 ?_
        refine r_ias iX8_buy_82 rfl (by omega) ?_
        refine r_ldn iX8_buy_83 rfl ?_
        refine r_ld iX8_buy_84 rfl ?_
        refine r_add iX8_buy_86 ?_
        refine r_stn iX8_buy_87 (by decide) rfl ?_
        refine r_inc iX8_buy_88 rfl (by decide) rfl ?_
        refine r_goto iX8_buy_91 ?_
        try simp only [mset_s, mset_n, mset_mset, fset_s, ne_eq, Nat.reduceEqDiff, not_false_eq_true]
        rw [show (ini (M 2) (fun r => M 2 r + ovM (M 11) (M 12) (M 13) (M 10) (M 2) (M 0 6) r) i) i = M 2 i from if_neg (by omega)]
        rw [show fset (ini (M 2) (fun r => M 2 r + ovM (M 11) (M 12) (M 13) (M 10) (M 2) (M 0 6) r) i) i (M 2 i + ovM (M 11) (M 12) (M 13) (M 10) (M 2) (M 0 6) i) = (ini (M 2) (fun r => M 2 r + ovM (M 11) (M 12) (M 13) (M 10) (M 2) (M 0 6) r) (i + 1)) from ini_1 (v := fun r => M 2 r + ovM (M 11) (M 12) (M 13) (M 10) (M 2) (M 0 6) r) h0]
        exact ih (i + 1) _ _ (by omega) (by omega) (by rw [sg_1 h0, ha]) (by omega)
  have L1 : ∀ (n9 : Nat) (i a : Int), (0 ≤ i) → (i ≤ M 0 1) → (a = 0 ∨ a = 1) → (a = 1 ↔ ∀ r, 0 ≤ r → r < i → (ovM (M 11) (M 12) (M 13) (M 10) (M 2) (M 0 6) r = 0 ∨ usM (M 11) (M 12) (M 13) (M 10) (M 0 6) r ≤ 100)) → M 0 1 - i < n9 → R LyM g mX8_buy (d + 3) 4 [some (vr 0), some (vi a), some (vi i), none, none] [] M (PI (sg (fun r => ovM (M 11) (M 12) (M 13) (M 10) (M 2) (M 0 6) r) (M 0 1)) (mset M 2 (ini (M 2) (fun r => M 2 r + ovM (M 11) (M 12) (M 13) (M 10) (M 2) (M 0 6) r) (M 0 1)))) := by
    intro n9
    induction n9 with
    | zero =>
      intro i a h0 h1 hz ha hm9
      omega
    | succ n9 ih =>
      intro i a h0 h1 hz ha hm9
      refine r_ldn iX8_buy_4 rfl ?_
      refine r_aldn iX8_buy_5 rfl ?_
      refine r_geti 1 iX8_buy_6 flX8_97 rfl rfl rfl rfl ?_
      refine r_cge iX8_buy_9 (by omega) (fun h9 => ?_) (fun h9 => ?_)
      · refine r_ldn iX8_buy_46 rfl ?_
        refine r_ifne iX8_buy_47 (by omega) (fun h47 => ?_) (fun h47 => ?_)
        · refine r_con iX8_buy_53 ?_
          refine r_stn iX8_buy_54 (by decide) rfl ?_
          refine r_con iX8_buy_55 ?_
          refine r_stn iX8_buy_56 (by decide) rfl ?_
          have e1 : a = 1 := by omega
          have L0 := fun w => L2 21 0 0 w (by omega) (by omega) rfl (by omega)
          rw [ini_0, mset_eq rfl] at L0
          subst e1
          exact L0 _
        · refine r_bip iX8_buy_50 (by decide) ?_
          refine r_iret iX8_buy_52 rfl ?_
          exact absurd (ha.mpr (fun r h2 h3 => h r h2 (by omega))) (by omega)
      · have hub := usM_bd hW hA hl i
        have hri := hR i h0 (by omega)
        have hov : ovM (M 11) (M 12) (M 13) (M 10) (M 2) (M 0 6) i = if 0 < usM (M 11) (M 12) (M 13) (M 10) (M 0 6) i - M 2 i then usM (M 11) (M 12) (M 13) (M 10) (M 0 6) i - M 2 i else 0 := rfl
        have hovb : 0 ≤ ovM (M 11) (M 12) (M 13) (M 10) (M 2) (M 0 6) i ∧ ovM (M 11) (M 12) (M 13) (M 10) (M 2) (M 0 6) i ≤ 2147483647 := by rw [hov]; split <;> omega
        refine r_ldn iX8_buy_12 rfl ?_
        refine r_ifeq iX8_buy_13 (by omega) (fun h13 => ?_) (fun h13 => ?_)
        · refine r_con iX8_buy_38 ?_
          refine r_stn iX8_buy_39 (by decide) rfl ?_
          refine r_inc iX8_buy_40 rfl (by decide) rfl ?_
          refine r_goto iX8_buy_43 ?_
          refine ih (i + 1) 0 (by omega) (by omega) (Or.inl rfl) ?_ (by omega)
          refine ⟨fun z => by omega, fun z => ?_⟩
          have := ha.mpr (fun r h2 h3 => z r h2 (by omega))
          omega
        · refine r_aldn iX8_buy_16 rfl ?_
          refine r_ldn iX8_buy_17 rfl ?_
          refine call_V1i iX8_buy_18 clX8_139 myX8_overOf rfl rfl rfl rfl (sX8_overOf _ _ (by omega) hW hA hN) ?_
          refine r_ifeq iX8_buy_21 (by omega) (fun h21 => ?_) (fun h21 => ?_)
          · refine r_con iX8_buy_34 ?_
            refine r_goto iX8_buy_35 ?_
            refine r_stn iX8_buy_39 (by decide) rfl ?_
            refine r_inc iX8_buy_40 rfl (by decide) rfl ?_
            refine r_goto iX8_buy_43 ?_
            refine ih (i + 1) 1 (by omega) (by omega) (Or.inr rfl) ?_ (by omega)
            have ha1 := ha.mp (by omega)
            refine ⟨fun _ r h2 h3 => ?_, fun _ => rfl⟩
            by_cases e : r = i
            · rw [e]; omega
            · exact ha1 r h2 (by omega)
          · refine r_aldn iX8_buy_24 rfl ?_
            refine r_ldn iX8_buy_25 rfl ?_
            refine call_V1i iX8_buy_26 clX8_135 myX8_used rfl rfl rfl rfl (sX8_used _ _ (by omega) hW hN) ?_
            refine r_bip iX8_buy_29 (by decide) ?_
            refine r_cgt iX8_buy_31 (by omega) (fun h31 => ?_) (fun h31 => ?_)
            · refine r_con iX8_buy_38 ?_
              refine r_stn iX8_buy_39 (by decide) rfl ?_
              refine r_inc iX8_buy_40 rfl (by decide) rfl ?_
              refine r_goto iX8_buy_43 ?_
              refine ih (i + 1) 0 (by omega) (by omega) (Or.inl rfl) ?_ (by omega)
              refine ⟨fun z => by omega, fun z => ?_⟩
              have zi := z i h0 (by omega)
              exfalso; omega
            · refine r_con iX8_buy_34 ?_
              refine r_goto iX8_buy_35 ?_
              refine r_stn iX8_buy_39 (by decide) rfl ?_
              refine r_inc iX8_buy_40 rfl (by decide) rfl ?_
              refine r_goto iX8_buy_43 ?_
              refine ih (i + 1) 1 (by omega) (by omega) (Or.inr rfl) ?_ (by omega)
              have ha1 := ha.mp (by omega)
              refine ⟨fun _ r h2 h3 => ?_, fun _ => rfl⟩
              by_cases e : r = i
              · rw [e]; omega
              · exact ha1 r h2 (by omega)
  refine r_con iX8_buy_0 ?_
  refine r_stn iX8_buy_1 (by decide) rfl ?_
  refine r_con iX8_buy_2 ?_
  refine r_stn iX8_buy_3 (by decide) rfl ?_
  exact L1 21 0 1 (by omega) (by omega) (Or.inr rfl) ⟨fun _ r h2 h3 => by omega, fun _ => rfl⟩ (by omega)
end RJ
