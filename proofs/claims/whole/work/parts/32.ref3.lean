/-! the reference's ways -/
def Wsm (M : Mem) (l : Int) (L : List (List Int)) : Prop := M 11 l = L.length ∧ ∀ (i : Nat) (w : List Int), L[i]? = some w → w.length ≤ 8 ∧ M 12 (8 * l + i) = w.length ∧ ∀ (k : Nat) (r : Int), w[k]? = some r → M 13 (8 * (8 * l + i) + k) = r
def FrM (l : Int) (M M' : Mem) : Prop := (∀ k, k ≠ 11 → k ≠ 12 → k ≠ 13 → k ≠ 18 → k ≠ 19 → M' k = M k) ∧ (∀ j, j ≠ l → M' 11 j = M 11 j) ∧ (∀ s, (s < 8 * l ∨ 8 * l + 8 ≤ s) → M' 12 s = M 12 s) ∧ (∀ j, (j < 64 * l ∨ 64 * l + 64 ≤ j) → M' 13 j = M 13 j)
theorem FrM.rf (l : Int) (M : Mem) : FrM l M M := ⟨fun _ _ _ _ _ _ => rfl, fun _ _ => rfl, fun _ _ => rfl, fun _ _ => rfl⟩
theorem FrM.tr {l : Int} {M M1 M2 : Mem} (h1 : FrM l M M1) (h2 : FrM l M1 M2) : FrM l M M2 :=
  ⟨fun k a b c d e => (h2.1 k a b c d e).trans (h1.1 k a b c d e), fun j h => (h2.2.1 j h).trans (h1.2.1 j h), fun s h => (h2.2.2.1 s h).trans (h1.2.2.1 s h), fun j h => (h2.2.2.2 j h).trans (h1.2.2.2 j h)⟩
theorem FrM.m18 {l : Int} (M : Mem) (f : Int → Int) : FrM l M (mset M 18 f) := ⟨fun k _ _ _ h _ => mset_n h, fun _ _ => rfl, fun _ _ => rfl, fun _ _ => rfl⟩
theorem FrM.m19 {l : Int} (M : Mem) (f : Int → Int) : FrM l M (mset M 19 f) := ⟨fun k _ _ _ _ h => mset_n h, fun _ _ => rfl, fun _ _ => rfl, fun _ _ => rfl⟩
def kwM (M : Mem) (l n : Int) : Mem := mset (mset (mset M 12 (fset (M 12) (8 * l + M 11 l) n)) 13 (cpy (M 13) (8 * (8 * l + M 11 l)) (M 18) n)) 11 (fset (M 11) l (M 11 l + 1))
theorem Wsm.keep {M : Mem} {l : Int} {L : List (List Int)} (h : Wsm M l L) (hL : L.length < 8) {w : List Int} (hw : ∀ (k : Nat) (r : Int), w[k]? = some r → M 18 k = r) (hn : w.length ≤ 8) : Wsm (kwM M l w.length) l (L ++ [w]) ∧ FrM l M (kwM M l w.length) := by
  obtain ⟨h1, h2⟩ := h
  refine ⟨⟨?_, fun i u hu => ?_⟩, fun k a b c d _ => ?_, fun j hj => ?_, fun s hs => ?_, fun j hj => ?_⟩
  · show fset _ _ _ l = _
    rw [fset_s, h1]
    simp
  · by_cases hi : i < L.length
    · rw [List.getElem?_append_left hi] at hu
      obtain ⟨a0, a1, a3⟩ := h2 i u hu
      refine ⟨a0, ?_, fun k r hk => ?_⟩
      · show fset _ _ _ _ = _
        rw [fset_n (by omega)]; exact a1
      · show cpy _ _ _ _ _ = _
        have := a3 k r hk
        have hk2 := (List.getElem?_eq_some_iff.mp hk).1
        simp only [cpy]
        rw [if_neg (by omega)]; exact this
    · rw [List.getElem?_append_right (by omega)] at hu
      have hi2 : i - L.length = 0 := by
        have := (List.getElem?_eq_some_iff.mp hu).1
        simp at this; omega
      rw [hi2] at hu
      cases hu
      have hil : (i : Int) = M 11 l := by omega
      rw [hil]
      refine ⟨hn, ?_, fun k r hk => ?_⟩
      · show fset _ _ _ _ = _
        rw [fset_s]
      · show cpy _ _ _ _ _ = _
        have hk2 := (List.getElem?_eq_some_iff.mp hk).1
        simp only [cpy]
        rw [if_pos (by omega), show 8 * (8 * l + M 11 l) + (k : Int) - 8 * (8 * l + M 11 l) = k by omega]
        exact hw k r hk
  · unfold kwM
    rw [mset_n a, mset_n c, mset_n b]
  · show fset _ _ _ j = _
    rw [fset_n hj]
  · show fset _ _ _ s = _
    rw [fset_n (by omega)]
  · show cpy _ _ _ _ j = _
    simp only [cpy]
    rw [if_neg (by omega)]
def fd (rc : Nat) (a b : Int → Int) (t : Int) (k : Nat) (p : Int) (seen : List Int) (m : Nat) : List (List Int) := ((List.range rc).drop m).flatMap (fun r : Nat => stp rc a b t k p seen r)
theorem fd_lt {rc : Nat} {a b : Int → Int} {t : Int} {k : Nat} {p : Int} {seen : List Int} {m : Nat} (h : m < rc) : fd rc a b t k p seen m = stp rc a b t k p seen m ++ fd rc a b t k p seen (m + 1) := by
  unfold fd
  rw [List.drop_eq_getElem_cons (by simpa using h)]
  simp
theorem fd_ge {rc : Nat} {a b : Int → Int} {t : Int} {k : Nat} {p : Int} {seen : List Int} {m : Nat} (h : rc ≤ m) : fd rc a b t k p seen m = [] := by
  unfold fd
  rw [List.drop_of_length_le (by simpa using h)]
  rfl
theorem fd_0 {rc : Nat} {a b : Int → Int} {t : Int} {k : Nat} {p : Int} {seen : List Int} : fd rc a b t k p seen 0 = fl rc a b t k p seen rc := rfl
theorem nxtM_rng {M : Mem} (hN : NBm M) {r p : Int} (h0 : 0 ≤ r) (h1 : r < M 0 1) : nxt (aM M) (bM M) r p = -1 ∨ (0 ≤ nxt (aM M) (bM M) r p ∧ nxt (aM M) (bM M) r p < M 0 0) := by
  have := (hN.2.2.2.1 r h0 h1).1
  unfold nxt aM bM
  split
  · omega
  · split
    · omega
    · exact Or.inl rfl
theorem NBm.fr {l : Int} {M M1 : Mem} (hN : NBm M) (hF : FrM l M M1) : NBm M1 := by
  have key : ∀ k : Nat, k < 11 → M1 k = M k := fun k hk => hF.1 k (by omega) (by omega) (by omega) (by omega) (by omega)
  unfold NBm
  rw [key 0 (by decide), key 1 (by decide), key 2 (by decide), key 3 (by decide), key 4 (by decide), key 5 (by decide), key 6 (by decide), key 7 (by decide), key 8 (by decide)]
  exact hN
section RC
variable {g : Gt} {M : Mem}
theorem sX8_isNew (d : Nat) (p m : Int) (hp : -2147483648 ≤ p ∧ p ≤ 2147483647) (hm : 0 ≤ m ∧ m ≤ 9) (hb : ∀ k, 0 ≤ k → k ≤ m → 0 ≤ M 19 k ∧ M 19 k < 9) : Ex LyM g (d) mX8_isNew [vr 0, vi p, vi m] M (PI (if 0 ≤ p ∧ hsI (M 19) p (m + 1).toNat = 0 then 1 else 0) M) := by
  refine Ex.in [some (vr 0), some (vi p), some (vi m), none, none] (by decide +kernel) rfl (Nat.le_of_ble_eq_true rfl) ?_ rfl
  have L : ∀ (n9 : Nat) (i a : Int), (0 ≤ i) → (i ≤ m + 1) → (a = (if 0 ≤ p ∧ hsI (M 19) p i.toNat = 0 then 1 else 0)) → (a = 0 ∨ a = 1) → m + 1 - i < n9 → R LyM g mX8_isNew (d) 13 [some (vr 0), some (vi p), some (vi m), some (vi a), some (vi i)] [] M (PI (if 0 ≤ p ∧ hsI (M 19) p (m + 1).toNat = 0 then 1 else 0) M) := by
    intro n9
    induction n9 with
    | zero =>
      intro i a h0 h1 ha hz hm9
      omega
    | succ n9 ih =>
      intro i a h0 h1 ha hz hm9
      refine r_ld iX8_isNew_13 rfl ?_
      refine r_ldn iX8_isNew_15 rfl ?_
      refine r_cgt iX8_isNew_16 (by omega) (fun h16 => ?_) (fun h16 => ?_)
      · refine r_ldn iX8_isNew_46 rfl ?_
        refine r_zret iX8_isNew_47 rfl (by omega) ?_
        exact ⟨by rw [ha, show i = m + 1 by omega], rfl⟩
      · have hbi := hb i h0 (by omega)
        have hsz := hsI_z (M 19) p i.toNat
        have e0 := hsI_1 (f := M 19) (r := p) h0
        refine r_ldn iX8_isNew_19 rfl ?_
        refine r_ifeq iX8_isNew_20 (by omega) (fun h20 => ?_) (fun h20 => ?_)
        · rw [ha, ite10] at h20
          refine r_con iX8_isNew_38 ?_
          refine r_stn iX8_isNew_39 (by decide) rfl ?_
          refine r_inc iX8_isNew_40 rfl (by decide) rfl ?_
          refine r_goto iX8_isNew_43 ?_
          exact ih (i + 1) 0 (by omega) (by omega) (by rw [e0]; rw [if_neg]; intro z; by_cases q : hsI (M 19) p i.toNat ≠ 0 ∨ M 19 i = p; rw [if_pos q] at z; omega; exact h20 ⟨z.1, by omega⟩) (by omega) (by omega)
        · rw [ha, ne_eq, ite10n] at h20
          refine r_aldn iX8_isNew_23 rfl ?_
          refine r_getr iX8_isNew_24 flX8_68 rfl rfl ?_
          refine r_ld iX8_isNew_27 rfl ?_
          refine r_ial iX8_isNew_29 rfl (by omega) ?_
          refine r_ldn iX8_isNew_30 rfl ?_
          refine r_ceq iX8_isNew_31 (by omega) (fun h31 => ?_) (fun h31 => ?_)
          · refine r_con iX8_isNew_38 ?_
            refine r_stn iX8_isNew_39 (by decide) rfl ?_
            refine r_inc iX8_isNew_40 rfl (by decide) rfl ?_
            refine r_goto iX8_isNew_43 ?_
            exact ih (i + 1) 0 (by omega) (by omega) (by rw [e0]; rw [if_neg]; rw [if_pos (Or.inr h31)]; omega) (by omega) (by omega)
          · refine r_con iX8_isNew_34 ?_
            refine r_goto iX8_isNew_35 ?_
            refine r_stn iX8_isNew_39 (by decide) rfl ?_
            refine r_inc iX8_isNew_40 rfl (by decide) rfl ?_
            refine r_goto iX8_isNew_43 ?_
            exact ih (i + 1) 1 (by omega) (by omega) (by rw [e0]; rw [if_pos]; rw [if_neg (by intro z; rcases z with z | z; exact z h20.2; exact h31 z)]; exact ⟨h20.1, rfl⟩) (by omega) (by omega)
  refine r_ldn iX8_isNew_0 rfl ?_
  refine r_iflt iX8_isNew_1 (by omega) (fun h1 => ?_) (fun h1 => ?_)
  · refine r_con iX8_isNew_8 ?_
    refine r_stn iX8_isNew_9 (by decide) rfl ?_
    refine r_con iX8_isNew_10 ?_
    refine r_st iX8_isNew_11 (by decide) rfl ?_
    exact L 11 0 _ (by omega) (by omega) (by show _ = (if 0 ≤ p ∧ (0 : Int) = 0 then (1 : Int) else 0); rw [if_neg (by omega)]) (by omega) (by omega)
  · refine r_con iX8_isNew_4 ?_
    refine r_goto iX8_isNew_5 ?_
    refine r_stn iX8_isNew_9 (by decide) rfl ?_
    refine r_con iX8_isNew_10 ?_
    refine r_st iX8_isNew_11 (by decide) rfl ?_
    exact L 11 0 _ (by omega) (by omega) (by show _ = (if 0 ≤ p ∧ (0 : Int) = 0 then (1 : Int) else 0); rw [if_pos (by omega)]) (by omega) (by omega)
theorem sX8_keepWay (d : Nat) (l n : Int) (hl0 : 0 ≤ l ∧ l < 5) (hc : 0 ≤ M 11 l ∧ M 11 l < 8) (hn : 0 ≤ n ∧ n ≤ 8) : Ex LyM g (d) mX8_keepWay [vr 0, vi l, vi n] M (PV (kwM M l n)) := by
  refine Ex.in [some (vr 0), some (vi l), some (vi n), none, none] (by decide +kernel) rfl (Nat.le_of_ble_eq_true rfl) ?_ rfl
  have L : ∀ (n9 : Nat) (i : Int), (0 ≤ i) → (i ≤ n) → n - i < n9 → R LyM g mX8_keepWay (d) 22 [some (vr 0), some (vi l), some (vi n), some (vi (8 * l + M 11 l)), some (vi i)] [] (mset (mset M 12 (fset (M 12) (8 * l + M 11 l) n)) 13 (cpy (M 13) (8 * (8 * l + M 11 l)) (M 18) i)) (PV (kwM M l n)) := by
    intro n9
    induction n9 with
    | zero =>
      intro i h0 h1 hm9
      omega
    | succ n9 ih =>
      intro i h0 h1 hm9
      refine r_ld iX8_keepWay_22 rfl ?_
      refine r_ldn iX8_keepWay_24 rfl ?_
      refine r_cge iX8_keepWay_25 (by omega) (fun h25 => ?_) (fun h25 => ?_)
      · refine r_aldn iX8_keepWay_53 rfl ?_
        refine r_getr iX8_keepWay_54 flX8_44 rfl rfl ?_
        refine r_ldn iX8_keepWay_57 rfl ?_
        refine r_dup2 iX8_keepWay_58 rfl rfl ?_
        refine r_ial iX8_keepWay_59 rfl (by omega) ?_
        refine r_con iX8_keepWay_60 ?_
        refine r_add iX8_keepWay_61 ?_
        try simp only [mset_s, mset_n, fset_s, ne_eq, Nat.reduceEqDiff, not_false_eq_true]
        refine r_ias iX8_keepWay_62 rfl (by omega) ?_
        refine r_vret iX8_keepWay_63 rfl ?_
        rw [show i = n by omega]
        exact ⟨rfl, rfl⟩
      · refine r_aldn iX8_keepWay_28 rfl ?_
        refine r_getr iX8_keepWay_29 flX8_50 rfl rfl ?_
        refine r_bip iX8_keepWay_32 (by decide) ?_
        refine r_ldn iX8_keepWay_34 rfl ?_
        refine r_mul iX8_keepWay_35 ?_
        refine r_ld iX8_keepWay_36 rfl ?_
        refine r_add iX8_keepWay_38 ?_
        refine r_aldn iX8_keepWay_39 rfl ?_
        refine r_getr iX8_keepWay_40 flX8_65 rfl rfl ?_
        refine r_ld iX8_keepWay_43 rfl ?_
        refine r_ial iX8_keepWay_45 rfl (by omega) ?_
        try simp only [mset_s, mset_n, fset_s, ne_eq, Nat.reduceEqDiff, not_false_eq_true]
        refine r_ias iX8_keepWay_46 rfl (by omega) ?_
        refine r_inc iX8_keepWay_47 rfl (by decide) rfl ?_
        refine r_goto iX8_keepWay_50 ?_
        simp only [mset_mset, mset_s]
        rw [cpy_1 h0]
        exact ih (i + 1) (by omega) (by omega) (by omega)
  refine r_bip iX8_keepWay_0 (by decide) ?_
  refine r_ldn iX8_keepWay_2 rfl ?_
  refine r_mul iX8_keepWay_3 ?_
  refine r_aldn iX8_keepWay_4 rfl ?_
  refine r_getr iX8_keepWay_5 flX8_44 rfl rfl ?_
  refine r_ldn iX8_keepWay_8 rfl ?_
  refine r_ial iX8_keepWay_9 rfl (by omega) ?_
  refine r_add iX8_keepWay_10 ?_
  refine r_stn iX8_keepWay_11 (by decide) rfl ?_
  refine r_aldn iX8_keepWay_12 rfl ?_
  refine r_getr iX8_keepWay_13 flX8_47 rfl rfl ?_
  refine r_ldn iX8_keepWay_16 rfl ?_
  refine r_ldn iX8_keepWay_17 rfl ?_
  refine r_ias iX8_keepWay_18 rfl (by omega) ?_
  refine r_con iX8_keepWay_19 ?_
  refine r_st iX8_keepWay_20 (by decide) rfl ?_
  have L0 := L 9 0 (by omega) (by omega) (by omega)
  rw [cpy_0] at L0
  refine R_mem ?_ L0
  exact mset_eq (by rw [mset_n (by decide)])
theorem findWays_E (d : Nat) (M : Mem) (l n : Int) (G : List (List Int)) (h0l : 0 ≤ l ∧ l < M 0 6) (hn8 : 1 ≤ n ∧ n ≤ 8) (hN : NBm M) : ∀ (k : Nat) (dp p : Int) (pre seen : List Int) (RB : List (List Int)), 0 ≤ dp → dp + 1 + k = n → dp = pre.length → p ≠ M 7 l → (0 ≤ p ∧ p < M 0 0) → ∀ (m9 : Nat) (r0 : Int) (M1 : Mem) (L1 : List (List Int)) (w4 w5 : Option MV), M 0 1 - r0 < m9 → -1 ≤ r0 → r0 ≤ M 0 1 → FrM l M M1 → (∀ (j : Nat) (r : Int), pre[j]? = some r → M1 18 j = r) → M1 18 dp = r0 → M1 19 dp = p → (∀ v, v ∈ seen ↔ ∃ j : Int, 0 ≤ j ∧ j ≤ dp ∧ M1 19 j = v) → (∀ j, 0 ≤ j → j ≤ dp → 0 ≤ M1 19 j ∧ M1 19 j < 9) → Wsm M1 l L1 → L1.length ≤ 8 → (L1 ++ ((fd (M 0 1).toNat (aM M) (bM M) (M 7 l) k p seen (r0 + 1).toNat).map (fun w => pre ++ w) ++ RB)).take 8 = G → (∀ (M2 : Mem) (L2 : List (List Int)) (w4 w5 : Option MV), FrM l M M2 → (∀ j : Int, 0 ≤ j → j < dp → M2 18 j = M1 18 j ∧ M2 19 j = M1 19 j) → Wsm M2 l L2 → L2.length ≤ 8 → (L2 ++ RB).take 8 = G → R LyM g mX8_findWaysOf (d + 1) 21 [some (vr 0), some (vi l), some (vi n), some (vi (dp - 1)), w4, w5] [] M2 (fun r M' => r = none ∧ Wsm M' l G ∧ FrM l M M')) → R LyM g mX8_findWaysOf (d + 1) 21 [some (vr 0), some (vi l), some (vi n), some (vi dp), w4, w5] [] M1 (fun r M' => r = none ∧ Wsm M' l G ∧ FrM l M M') := by
  obtain ⟨hp0, hr, hl, hR, hL⟩ := id hN
  have hll := hL l h0l.1 h0l.2
  intro k
  induction k with
  | zero =>
    intro dp p pre seen RB hdp hnk hpl hpt hpb m9
    induction m9 with
    | zero => intro r0 M1 L1 w4 w5 hm; intros; omega
    | succ m9 ih =>
      intro r0 M1 L1 w4 w5 hm hr0 hr1 hF hpre h18 h19 hseen hat hW hL8 hG hcont
      have f0 : M1 0 = M 0 := hF.1 0 (by decide) (by decide) (by decide) (by decide) (by decide)
      have f1 : M1 1 = M 1 := hF.1 1 (by decide) (by decide) (by decide) (by decide) (by decide)
      have f7 : M1 7 = M 7 := hF.1 7 (by decide) (by decide) (by decide) (by decide) (by decide)
      have fa : aM M1 = aM M := by unfold aM; rw [f1]
      have fb : bM M1 = bM M := by unfold bM; rw [f1]
      have hN1 : NBm M1 := hN.fr hF
      have hw1 := hW.1
      have hF2 : FrM l M (mset M1 18 (fset (M1 18) dp (r0 + 1))) := hF.tr (FrM.m18 _ _)
      have hW2 : Wsm (mset M1 18 (fset (M1 18) dp (r0 + 1))) l L1 := hW
      have hpre2 : ∀ (j : Nat) (r : Int), pre[j]? = some r → (mset M1 18 (fset (M1 18) dp (r0 + 1))) 18 j = r := by
        intro j r hj
        have hj2 := (List.getElem?_eq_some_iff.mp hj).1
        rw [mset_s, fset_n (by omega)]
        exact hpre j r hj
      have hsI : ∀ v, (hsI (M1 19) v (dp + 1).toNat = 0 ↔ v ∉ seen) := by
        intro v
        rw [hseen v]
        have := hsI_iff (f := M1 19) (r := v) (n := (dp + 1).toNat)
        constructor
        · rintro z ⟨j, a1, a2, a3⟩
          exact this.mpr ⟨j, a1, by omega, a3⟩ z
        · intro z
          refine Classical.byContradiction (fun y => z ?_)
          obtain ⟨j, a1, a2, a3⟩ := this.mp y
          exact ⟨j, a1, by omega, a3⟩
      refine r_ldn iX8_findWaysOf_21 rfl ?_
      refine r_iflt iX8_findWaysOf_22 (by omega) (fun h22 => ?_) (fun h22 => ?_)
      · exfalso; omega
      · refine r_aldn iX8_findWaysOf_25 rfl ?_
        refine r_getr iX8_findWaysOf_26 flX8_44 rfl rfl ?_
        refine r_ldn iX8_findWaysOf_29 rfl ?_
        refine r_ial iX8_findWaysOf_30 rfl (by omega) ?_
        refine r_bip iX8_findWaysOf_31 (by decide) ?_
        refine r_cge iX8_findWaysOf_33 (by omega) (fun h33 => ?_) (fun h33 => ?_)
        · refine r_vret iX8_findWaysOf_163 rfl ?_
          have hlen : (L1.take 8).length = 8 := by rw [List.length_take]; omega
          rw [take_full hlen, List.take_of_length_le hL8] at hG
          exact ⟨rfl, by rw [← hG]; exact hW, hF⟩
        · refine r_aldn iX8_findWaysOf_36 rfl ?_
          refine r_getr iX8_findWaysOf_37 flX8_65 rfl rfl ?_
          refine r_ldn iX8_findWaysOf_40 rfl ?_
          refine r_dup2 iX8_findWaysOf_41 rfl rfl ?_
          refine r_ial iX8_findWaysOf_42 rfl (by omega) ?_
          refine r_con iX8_findWaysOf_43 ?_
          refine r_add iX8_findWaysOf_44 ?_
          refine r_ias iX8_findWaysOf_45 rfl (by omega) ?_
          simp only [h18]
          refine r_aldn iX8_findWaysOf_46 rfl ?_
          refine r_getr iX8_findWaysOf_47 flX8_65 rfl rfl ?_
          refine r_ldn iX8_findWaysOf_50 rfl ?_
          refine r_ial iX8_findWaysOf_51 rfl (by omega) ?_
          refine r_aldn iX8_findWaysOf_52 rfl ?_
          refine r_geti 1 iX8_findWaysOf_53 flX8_97 rfl rfl rfl rfl ?_
          try simp only [mset_s, mset_n, fset_s, ne_eq, Nat.reduceEqDiff, not_false_eq_true]
          simp only [f0]
          refine r_clt iX8_findWaysOf_56 (by omega) (fun h56 => ?_) (fun h56 => ?_)
          · refine r_aldn iX8_findWaysOf_65 rfl ?_
            refine r_aldn iX8_findWaysOf_66 rfl ?_
            refine r_getr iX8_findWaysOf_67 flX8_65 rfl rfl ?_
            refine r_ldn iX8_findWaysOf_70 rfl ?_
            refine r_ial iX8_findWaysOf_71 rfl (by omega) ?_
            refine r_aldn iX8_findWaysOf_72 rfl ?_
            refine r_getr iX8_findWaysOf_73 flX8_68 rfl rfl ?_
            refine r_ldn iX8_findWaysOf_76 rfl ?_
            refine r_ial iX8_findWaysOf_77 rfl (by omega) ?_
            try simp only [mset_s, mset_n, fset_s, ne_eq, Nat.reduceEqDiff, not_false_eq_true]
            simp only [h19]
            refine call_V2i iX8_findWaysOf_78 clX8_103 myX8_beyond rfl rfl rfl rfl (sX8_beyond (M := (mset M1 18 (fset (M1 18) dp (r0 + 1)))) _ _ _ (by show _ ∧ _ < M1 0 1; rw [f0]; omega) (by omega) hN1) ?_
            refine r_st iX8_findWaysOf_81 (by decide) rfl ?_
            simp only [show (fun r => (mset M1 18 (fset (M1 18) dp (r0 + 1))) 1 (2 * r)) = aM M from fa, show (fun r => (mset M1 18 (fset (M1 18) dp (r0 + 1))) 1 (2 * r + 1)) = bM M from fb]
            have hq := nxtM_rng hN (p := p) (r := r0 + 1) (by omega) (by omega)
            refine r_ldn iX8_findWaysOf_83 rfl ?_
            refine r_ldn iX8_findWaysOf_84 rfl ?_
            refine r_con iX8_findWaysOf_85 ?_
            refine r_sub iX8_findWaysOf_86 ?_
            refine r_cne iX8_findWaysOf_87 (by omega) (fun h87 => ?_) (fun h87 => ?_)
            · exfalso; omega
            · refine r_con iX8_findWaysOf_90 ?_
              refine r_goto iX8_findWaysOf_91 ?_
              refine r_st iX8_findWaysOf_95 (by decide) rfl ?_
              refine r_aldn iX8_findWaysOf_97 rfl ?_
              refine r_ld iX8_findWaysOf_98 rfl ?_
              refine r_ldn iX8_findWaysOf_100 rfl ?_
              refine call_V2i iX8_findWaysOf_101 clX8_107 myX8_isNew rfl rfl rfl rfl (sX8_isNew (M := (mset M1 18 (fset (M1 18) dp (r0 + 1)))) _ _ _ (by omega) (by omega) hat) ?_
              simp only [show (mset M1 18 (fset (M1 18) dp (r0 + 1))) 19 = M1 19 from rfl]
              refine r_ifeq iX8_findWaysOf_104 (by omega) (fun h104 => ?_) (fun h104 => ?_)
              · rw [ite10] at h104
                refine r_goto iX8_findWaysOf_160 ?_
                have e0 : stp (M 0 1).toNat (aM M) (bM M) (M 7 l) 0 p seen (r0 + 1) = [] := stp_e (by by_cases q : (nxt (aM M) (bM M) (r0 + 1) p) < 0; exact Or.inl q; exact Or.inr (Or.inl (Classical.byContradiction (fun z => h104 ⟨by omega, (hsI _).mpr z⟩))))
                have e1 : fd (M 0 1).toNat (aM M) (bM M) (M 7 l) 0 p seen (r0 + 1).toNat = (fd (M 0 1).toNat (aM M) (bM M) (M 7 l) 0 p seen (r0 + 1 + 1).toNat) := by
                  have e2 := fd_lt (rc := (M 0 1).toNat) (a := aM M) (b := bM M) (t := M 7 l) (k := 0) (p := p) (seen := seen) (m := (r0 + 1).toNat) (by omega)
                  rw [show (((r0 + 1).toNat : Nat) : Int) = r0 + 1 by omega, e0, List.nil_append] at e2
                  rw [e2, show (r0 + 1).toNat + 1 = (r0 + 1 + 1).toNat by omega]
                rw [e1] at hG
                exact ih (r0 + 1) (mset M1 18 (fset (M1 18) dp (r0 + 1))) L1 _ _ (by omega) (by omega) (by omega) hF2 hpre2 (by rw [mset_s, fset_s]) h19 hseen hat hW2 hL8 hG (fun M3 L3 w4 w5 q1 q2 q3 q4 q5 => hcont M3 L3 w4 w5 q1 (fun j z1 z2 => by have := q2 j z1 z2; rw [mset_s, fset_n (by omega)] at this; exact this) q3 q4 q5)
              · rw [ne_eq, ite10n] at h104
                refine r_ld iX8_findWaysOf_107 rfl ?_
                refine r_ld iX8_findWaysOf_109 rfl ?_
                refine r_aldn iX8_findWaysOf_111 rfl ?_
                refine r_getr iX8_findWaysOf_112 flX8_32 rfl rfl ?_
                refine r_ldn iX8_findWaysOf_115 rfl ?_
                refine r_ial iX8_findWaysOf_116 rfl (by omega) ?_
                try simp only [mset_s, mset_n, fset_s, ne_eq, Nat.reduceEqDiff, not_false_eq_true]
                simp only [f7]
                refine r_cne iX8_findWaysOf_117 (by omega) (fun h117 => ?_) (fun h117 => ?_)
                · refine r_con iX8_findWaysOf_124 ?_
                  refine r_cne iX8_findWaysOf_125 (by omega) (fun h125 => ?_) (fun h125 => ?_)
                  · refine r_goto iX8_findWaysOf_160 ?_
                    have e0 : stp (M 0 1).toNat (aM M) (bM M) (M 7 l) 0 p seen (r0 + 1) = [] := stp_e (Or.inr (Or.inr (by unfold pth; rw [if_neg h117])))
                    have e1 : fd (M 0 1).toNat (aM M) (bM M) (M 7 l) 0 p seen (r0 + 1).toNat = (fd (M 0 1).toNat (aM M) (bM M) (M 7 l) 0 p seen (r0 + 1 + 1).toNat) := by
                      have e2 := fd_lt (rc := (M 0 1).toNat) (a := aM M) (b := bM M) (t := M 7 l) (k := 0) (p := p) (seen := seen) (m := (r0 + 1).toNat) (by omega)
                      rw [show (((r0 + 1).toNat : Nat) : Int) = r0 + 1 by omega, e0, List.nil_append] at e2
                      rw [e2, show (r0 + 1).toNat + 1 = (r0 + 1 + 1).toNat by omega]
                    rw [e1] at hG
                    exact ih (r0 + 1) (mset M1 18 (fset (M1 18) dp (r0 + 1))) L1 _ _ (by omega) (by omega) (by omega) hF2 hpre2 (by rw [mset_s, fset_s]) h19 hseen hat hW2 hL8 hG (fun M3 L3 w4 w5 q1 q2 q3 q4 q5 => hcont M3 L3 w4 w5 q1 (fun j z1 z2 => by have := q2 j z1 z2; rw [mset_s, fset_n (by omega)] at this; exact this) q3 q4 q5)
                  · refine r_ld iX8_findWaysOf_128 rfl ?_
                    refine r_ifeq iX8_findWaysOf_130 (by omega) (fun h130 => ?_) (fun h130 => ?_)
                    · exfalso; omega
                    · refine r_aldn iX8_findWaysOf_133 rfl ?_
                      refine r_ldn iX8_findWaysOf_134 rfl ?_
                      refine r_ldn iX8_findWaysOf_135 rfl ?_
                      refine call_V2v iX8_findWaysOf_136 clX8_111 myX8_keepWay rfl rfl rfl rfl (sX8_keepWay (M := (mset M1 18 (fset (M1 18) dp (r0 + 1)))) _ _ _ (by omega) (by show 0 ≤ M1 11 l ∧ M1 11 l < 8; omega) (by omega)) ?_
                      refine r_goto iX8_findWaysOf_139 ?_
                      refine r_goto iX8_findWaysOf_160 ?_
                      exfalso; omega
                · refine r_con iX8_findWaysOf_120 ?_
                  refine r_goto iX8_findWaysOf_121 ?_
                  refine r_cne iX8_findWaysOf_125 (by omega) (fun h125 => ?_) (fun h125 => ?_)
                  · refine r_goto iX8_findWaysOf_160 ?_
                    exfalso; omega
                  · refine r_ld iX8_findWaysOf_128 rfl ?_
                    refine r_ifeq iX8_findWaysOf_130 (by omega) (fun h130 => ?_) (fun h130 => ?_)
                    · exfalso; omega
                    · refine r_aldn iX8_findWaysOf_133 rfl ?_
                      refine r_ldn iX8_findWaysOf_134 rfl ?_
                      refine r_ldn iX8_findWaysOf_135 rfl ?_
                      refine call_V2v iX8_findWaysOf_136 clX8_111 myX8_keepWay rfl rfl rfl rfl (sX8_keepWay (M := (mset M1 18 (fset (M1 18) dp (r0 + 1)))) _ _ _ (by omega) (by show 0 ≤ M1 11 l ∧ M1 11 l < 8; omega) (by omega)) ?_
                      refine r_goto iX8_findWaysOf_139 ?_
                      refine r_goto iX8_findWaysOf_160 ?_
                      have e0 : stp (M 0 1).toNat (aM M) (bM M) (M 7 l) 0 p seen (r0 + 1) = [[r0 + 1]] := by
                        rw [stp_g (by omega) ((hsI _).mp h104.2)]
                        unfold pth
                        rw [if_pos h117]
                        rfl
                      have e2 := fd_lt (rc := (M 0 1).toNat) (a := aM M) (b := bM M) (t := M 7 l) (k := 0) (p := p) (seen := seen) (m := (r0 + 1).toNat) (by omega)
                      rw [show (((r0 + 1).toNat : Nat) : Int) = r0 + 1 by omega, e0, show (r0 + 1).toNat + 1 = (r0 + 1 + 1).toNat by omega] at e2
                      have hkw := hW2.keep (by omega) (w := pre ++ [r0 + 1]) (fun j r hj => by by_cases q : j < pre.length; rw [List.getElem?_append_left q] at hj; exact hpre2 j r hj; rw [List.getElem?_append_right (by omega)] at hj; have q2 := (List.getElem?_eq_some_iff.mp hj).1; simp at q2; rw [show j - pre.length = 0 by omega] at hj; cases hj; rw [show ((j : Nat) : Int) = dp by omega, mset_s, fset_s]) (by simp; omega)
                      have e3 : ((pre ++ [r0 + 1]).length : Int) = n := by simp; omega
                      rw [e3] at hkw
                      refine ih (r0 + 1) _ (L1 ++ [pre ++ [r0 + 1]]) _ _ (by omega) (by omega) (by omega) (hF2.tr hkw.2) hpre2 (by show fset (M1 18) dp (r0 + 1) dp = _; rw [fset_s]) h19 hseen hat hkw.1 (by simp; omega) ?_ (fun M3 L3 w4 w5 q1 q2 q3 q4 q5 => hcont M3 L3 w4 w5 q1 (fun j z1 z2 => by have := q2 j z1 z2; rw [show kwM (mset M1 18 (fset (M1 18) dp (r0 + 1))) l n 18 = fset (M1 18) dp (r0 + 1) from rfl, fset_n (by omega)] at this; exact this) q3 q4 q5)
                      rw [e2] at hG
                      rw [← hG]
                      simp
          · refine r_inc iX8_findWaysOf_59 rfl (by decide) rfl ?_
            refine r_goto iX8_findWaysOf_62 ?_
            have e1 := fd_ge (rc := (M 0 1).toNat) (a := aM M) (b := bM M) (t := M 7 l) (k := 0) (p := p) (seen := seen) (m := (r0 + 1).toNat) (by omega)
            rw [e1, List.map_nil, List.nil_append] at hG
            exact hcont (mset M1 18 (fset (M1 18) dp (r0 + 1))) L1 _ _ hF2 (fun j z1 z2 => ⟨by rw [mset_s, fset_n (by omega)], rfl⟩) hW2 hL8 hG
  | succ k ihk =>
    intro dp p pre seen RB hdp hnk hpl hpt hpb m9
    induction m9 with
    | zero => intro r0 M1 L1 w4 w5 hm; intros; omega
    | succ m9 ih =>
      intro r0 M1 L1 w4 w5 hm hr0 hr1 hF hpre h18 h19 hseen hat hW hL8 hG hcont
      have f0 : M1 0 = M 0 := hF.1 0 (by decide) (by decide) (by decide) (by decide) (by decide)
      have f1 : M1 1 = M 1 := hF.1 1 (by decide) (by decide) (by decide) (by decide) (by decide)
      have f7 : M1 7 = M 7 := hF.1 7 (by decide) (by decide) (by decide) (by decide) (by decide)
      have fa : aM M1 = aM M := by unfold aM; rw [f1]
      have fb : bM M1 = bM M := by unfold bM; rw [f1]
      have hN1 : NBm M1 := hN.fr hF
      have hw1 := hW.1
      have hF2 : FrM l M (mset M1 18 (fset (M1 18) dp (r0 + 1))) := hF.tr (FrM.m18 _ _)
      have hW2 : Wsm (mset M1 18 (fset (M1 18) dp (r0 + 1))) l L1 := hW
      have hpre2 : ∀ (j : Nat) (r : Int), pre[j]? = some r → (mset M1 18 (fset (M1 18) dp (r0 + 1))) 18 j = r := by
        intro j r hj
        have hj2 := (List.getElem?_eq_some_iff.mp hj).1
        rw [mset_s, fset_n (by omega)]
        exact hpre j r hj
      have hsI : ∀ v, (hsI (M1 19) v (dp + 1).toNat = 0 ↔ v ∉ seen) := by
        intro v
        rw [hseen v]
        have := hsI_iff (f := M1 19) (r := v) (n := (dp + 1).toNat)
        constructor
        · rintro z ⟨j, a1, a2, a3⟩
          exact this.mpr ⟨j, a1, by omega, a3⟩ z
        · intro z
          refine Classical.byContradiction (fun y => z ?_)
          obtain ⟨j, a1, a2, a3⟩ := this.mp y
          exact ⟨j, a1, by omega, a3⟩
      refine r_ldn iX8_findWaysOf_21 rfl ?_
      refine r_iflt iX8_findWaysOf_22 (by omega) (fun h22 => ?_) (fun h22 => ?_)
      · exfalso; omega
      · refine r_aldn iX8_findWaysOf_25 rfl ?_
        refine r_getr iX8_findWaysOf_26 flX8_44 rfl rfl ?_
        refine r_ldn iX8_findWaysOf_29 rfl ?_
        refine r_ial iX8_findWaysOf_30 rfl (by omega) ?_
        refine r_bip iX8_findWaysOf_31 (by decide) ?_
        refine r_cge iX8_findWaysOf_33 (by omega) (fun h33 => ?_) (fun h33 => ?_)
        · refine r_vret iX8_findWaysOf_163 rfl ?_
          have hlen : (L1.take 8).length = 8 := by rw [List.length_take]; omega
          rw [take_full hlen, List.take_of_length_le hL8] at hG
          exact ⟨rfl, by rw [← hG]; exact hW, hF⟩
        · refine r_aldn iX8_findWaysOf_36 rfl ?_
          refine r_getr iX8_findWaysOf_37 flX8_65 rfl rfl ?_
          refine r_ldn iX8_findWaysOf_40 rfl ?_
          refine r_dup2 iX8_findWaysOf_41 rfl rfl ?_
          refine r_ial iX8_findWaysOf_42 rfl (by omega) ?_
          refine r_con iX8_findWaysOf_43 ?_
          refine r_add iX8_findWaysOf_44 ?_
          refine r_ias iX8_findWaysOf_45 rfl (by omega) ?_
          simp only [h18]
          refine r_aldn iX8_findWaysOf_46 rfl ?_
          refine r_getr iX8_findWaysOf_47 flX8_65 rfl rfl ?_
          refine r_ldn iX8_findWaysOf_50 rfl ?_
          refine r_ial iX8_findWaysOf_51 rfl (by omega) ?_
          refine r_aldn iX8_findWaysOf_52 rfl ?_
          refine r_geti 1 iX8_findWaysOf_53 flX8_97 rfl rfl rfl rfl ?_
          try simp only [mset_s, mset_n, fset_s, ne_eq, Nat.reduceEqDiff, not_false_eq_true]
          simp only [f0]
          refine r_clt iX8_findWaysOf_56 (by omega) (fun h56 => ?_) (fun h56 => ?_)
          · refine r_aldn iX8_findWaysOf_65 rfl ?_
            refine r_aldn iX8_findWaysOf_66 rfl ?_
            refine r_getr iX8_findWaysOf_67 flX8_65 rfl rfl ?_
            refine r_ldn iX8_findWaysOf_70 rfl ?_
            refine r_ial iX8_findWaysOf_71 rfl (by omega) ?_
            refine r_aldn iX8_findWaysOf_72 rfl ?_
            refine r_getr iX8_findWaysOf_73 flX8_68 rfl rfl ?_
            refine r_ldn iX8_findWaysOf_76 rfl ?_
            refine r_ial iX8_findWaysOf_77 rfl (by omega) ?_
            try simp only [mset_s, mset_n, fset_s, ne_eq, Nat.reduceEqDiff, not_false_eq_true]
            simp only [h19]
            refine call_V2i iX8_findWaysOf_78 clX8_103 myX8_beyond rfl rfl rfl rfl (sX8_beyond (M := (mset M1 18 (fset (M1 18) dp (r0 + 1)))) _ _ _ (by show _ ∧ _ < M1 0 1; rw [f0]; omega) (by omega) hN1) ?_
            refine r_st iX8_findWaysOf_81 (by decide) rfl ?_
            simp only [show (fun r => (mset M1 18 (fset (M1 18) dp (r0 + 1))) 1 (2 * r)) = aM M from fa, show (fun r => (mset M1 18 (fset (M1 18) dp (r0 + 1))) 1 (2 * r + 1)) = bM M from fb]
            have hq := nxtM_rng hN (p := p) (r := r0 + 1) (by omega) (by omega)
            refine r_ldn iX8_findWaysOf_83 rfl ?_
            refine r_ldn iX8_findWaysOf_84 rfl ?_
            refine r_con iX8_findWaysOf_85 ?_
            refine r_sub iX8_findWaysOf_86 ?_
            refine r_cne iX8_findWaysOf_87 (by omega) (fun h87 => ?_) (fun h87 => ?_)
            · refine r_con iX8_findWaysOf_94 ?_
              refine r_st iX8_findWaysOf_95 (by decide) rfl ?_
              refine r_aldn iX8_findWaysOf_97 rfl ?_
              refine r_ld iX8_findWaysOf_98 rfl ?_
              refine r_ldn iX8_findWaysOf_100 rfl ?_
              refine call_V2i iX8_findWaysOf_101 clX8_107 myX8_isNew rfl rfl rfl rfl (sX8_isNew (M := (mset M1 18 (fset (M1 18) dp (r0 + 1)))) _ _ _ (by omega) (by omega) hat) ?_
              simp only [show (mset M1 18 (fset (M1 18) dp (r0 + 1))) 19 = M1 19 from rfl]
              refine r_ifeq iX8_findWaysOf_104 (by omega) (fun h104 => ?_) (fun h104 => ?_)
              · rw [ite10] at h104
                refine r_goto iX8_findWaysOf_160 ?_
                have e0 : stp (M 0 1).toNat (aM M) (bM M) (M 7 l) (k + 1) p seen (r0 + 1) = [] := stp_e (by by_cases q : (nxt (aM M) (bM M) (r0 + 1) p) < 0; exact Or.inl q; exact Or.inr (Or.inl (Classical.byContradiction (fun z => h104 ⟨by omega, (hsI _).mpr z⟩))))
                have e1 : fd (M 0 1).toNat (aM M) (bM M) (M 7 l) (k + 1) p seen (r0 + 1).toNat = (fd (M 0 1).toNat (aM M) (bM M) (M 7 l) (k + 1) p seen (r0 + 1 + 1).toNat) := by
                  have e2 := fd_lt (rc := (M 0 1).toNat) (a := aM M) (b := bM M) (t := M 7 l) (k := (k + 1)) (p := p) (seen := seen) (m := (r0 + 1).toNat) (by omega)
                  rw [show (((r0 + 1).toNat : Nat) : Int) = r0 + 1 by omega, e0, List.nil_append] at e2
                  rw [e2, show (r0 + 1).toNat + 1 = (r0 + 1 + 1).toNat by omega]
                rw [e1] at hG
                exact ih (r0 + 1) (mset M1 18 (fset (M1 18) dp (r0 + 1))) L1 _ _ (by omega) (by omega) (by omega) hF2 hpre2 (by rw [mset_s, fset_s]) h19 hseen hat hW2 hL8 hG (fun M3 L3 w4 w5 q1 q2 q3 q4 q5 => hcont M3 L3 w4 w5 q1 (fun j z1 z2 => by have := q2 j z1 z2; rw [mset_s, fset_n (by omega)] at this; exact this) q3 q4 q5)
              · rw [ne_eq, ite10n] at h104
                refine r_ld iX8_findWaysOf_107 rfl ?_
                refine r_ld iX8_findWaysOf_109 rfl ?_
                refine r_aldn iX8_findWaysOf_111 rfl ?_
                refine r_getr iX8_findWaysOf_112 flX8_32 rfl rfl ?_
                refine r_ldn iX8_findWaysOf_115 rfl ?_
                refine r_ial iX8_findWaysOf_116 rfl (by omega) ?_
                try simp only [mset_s, mset_n, fset_s, ne_eq, Nat.reduceEqDiff, not_false_eq_true]
                simp only [f7]
                refine r_cne iX8_findWaysOf_117 (by omega) (fun h117 => ?_) (fun h117 => ?_)
                · refine r_con iX8_findWaysOf_124 ?_
                  refine r_cne iX8_findWaysOf_125 (by omega) (fun h125 => ?_) (fun h125 => ?_)
                  · refine r_goto iX8_findWaysOf_160 ?_
                    exfalso; omega
                  · refine r_ld iX8_findWaysOf_128 rfl ?_
                    refine r_ifeq iX8_findWaysOf_130 (by omega) (fun h130 => ?_) (fun h130 => ?_)
                    · refine r_inc iX8_findWaysOf_142 rfl (by decide) rfl ?_
                      refine r_aldn iX8_findWaysOf_145 rfl ?_
                      refine r_getr iX8_findWaysOf_146 flX8_68 rfl rfl ?_
                      refine r_ldn iX8_findWaysOf_149 rfl ?_
                      refine r_ld iX8_findWaysOf_150 rfl ?_
                      refine r_ias iX8_findWaysOf_152 rfl (by omega) ?_
                      refine r_aldn iX8_findWaysOf_153 rfl ?_
                      refine r_getr iX8_findWaysOf_154 flX8_65 rfl rfl ?_
                      refine r_ldn iX8_findWaysOf_157 rfl ?_
                      refine r_con iX8_findWaysOf_158 ?_
                      refine r_ias iX8_findWaysOf_159 rfl (by omega) ?_
                      refine r_goto iX8_findWaysOf_160 ?_
                      have e0 := stp_g (rc := (M 0 1).toNat) (a := aM M) (b := bM M) (t := M 7 l) (k := k + 1) (p := p) (seen := seen) (r := r0 + 1) (by omega) ((hsI _).mp h104.2)
                      rw [pth_1 h117] at e0
                      have e2 := fd_lt (rc := (M 0 1).toNat) (a := aM M) (b := bM M) (t := M 7 l) (k := k + 1) (p := p) (seen := seen) (m := (r0 + 1).toNat) (by omega)
                      rw [show (((r0 + 1).toNat : Nat) : Int) = r0 + 1 by omega, e0, show (r0 + 1).toNat + 1 = (r0 + 1 + 1).toNat by omega] at e2
                      refine ihk (dp + 1) (nxt (aM M) (bM M) (r0 + 1) p) (pre ++ [r0 + 1]) ((nxt (aM M) (bM M) (r0 + 1) p) :: seen) ((fd (M 0 1).toNat (aM M) (bM M) (M 7 l) (k + 1) p seen (r0 + 1 + 1).toNat).map (fun w => pre ++ w) ++ RB) (by omega) (by omega) (by simp; omega) h117 (by omega) (M 0 1 + 2).toNat (-1) _ L1 _ _ (by omega) (by omega) (by omega) ((hF2.tr (FrM.m19 _ _)).tr (FrM.m18 _ _)) ?_ (by rw [mset_s, fset_s]) (by show fset (M1 19) (dp + 1) _ (dp + 1) = _; rw [fset_s]) ?_ ?_ hW2 hL8 ?_ ?_
                      · intro j r hj
                        have hj2 := (List.getElem?_eq_some_iff.mp hj).1
                        simp at hj2
                        rw [mset_s, fset_n (by omega)]
                        show fset (M1 18) dp (r0 + 1) j = r
                        by_cases q : j < pre.length
                        · rw [List.getElem?_append_left q] at hj
                          have := hpre2 j r hj
                          rw [mset_s] at this
                          exact this
                        · rw [List.getElem?_append_right (by omega), show j - pre.length = 0 by omega] at hj
                          cases hj
                          rw [show ((j : Nat) : Int) = dp by omega, fset_s]
                      · intro v
                        rw [List.mem_cons, hseen v]
                        show _ ↔ ∃ j : Int, 0 ≤ j ∧ j ≤ dp + 1 ∧ fset (M1 19) (dp + 1) _ j = v
                        constructor
                        · rintro (z | ⟨j, a1, a2, a3⟩)
                          · exact ⟨dp + 1, by omega, by omega, by rw [fset_s]; exact z.symm⟩
                          · exact ⟨j, a1, by omega, by rw [fset_n (by omega)]; exact a3⟩
                        · rintro ⟨j, a1, a2, a3⟩
                          by_cases q : j = dp + 1
                          · rw [q, fset_s] at a3; exact Or.inl a3.symm
                          · rw [fset_n q] at a3; exact Or.inr ⟨j, a1, by omega, a3⟩
                      · intro j a1 a2
                        show 0 ≤ fset (M1 19) (dp + 1) _ j ∧ fset (M1 19) (dp + 1) _ j < 9
                        by_cases q : j = dp + 1
                        · rw [q, fset_s]; omega
                        · rw [fset_n q]; exact hat j a1 (by omega)
                      · rw [← hG, e2, show ((-1 : Int) + 1).toNat = 0 from rfl, fd_0]
                        simp [List.map_map, Function.comp_def]
                      · intro M3 L3 w4 w5 q1 q2 q3 q4 q5
                        have q6 : ∀ j : Int, 0 ≤ j → j < dp + 1 → M3 18 j = fset (M1 18) dp (r0 + 1) j ∧ M3 19 j = M1 19 j := by
                          intro j z1 z2
                          have := q2 j z1 z2
                          rw [mset_s, fset_n (by omega)] at this
                          exact ⟨this.1, this.2.trans (by show fset (M1 19) (dp + 1) _ j = _; rw [fset_n (by omega)])⟩
                        rw [show dp + 1 - 1 = dp by omega]
                        refine ih (r0 + 1) M3 L3 w4 w5 (by omega) (by omega) (by omega) q1 ?_ ?_ ?_ ?_ ?_ q3 q4 q5 ?_
                        · intro j r hj
                          have hj2 := (List.getElem?_eq_some_iff.mp hj).1
                          rw [(q6 j (by omega) (by omega)).1]
                          have := hpre2 j r hj
                          rw [mset_s] at this
                          exact this
                        · rw [(q6 dp hdp (by omega)).1, fset_s]
                        · rw [(q6 dp hdp (by omega)).2]; exact h19
                        · intro v
                          rw [hseen v]
                          constructor
                          · rintro ⟨j, a1, a2, a3⟩
                            exact ⟨j, a1, a2, by rw [(q6 j a1 (by omega)).2]; exact a3⟩
                          · rintro ⟨j, a1, a2, a3⟩
                            exact ⟨j, a1, a2, by rw [(q6 j a1 (by omega)).2] at a3; exact a3⟩
                        · intro j a1 a2
                          rw [(q6 j a1 (by omega)).2]; exact hat j a1 a2
                        · intro M4 L4 w4 w5 y1 y2 y3 y4 y5
                          refine hcont M4 L4 w4 w5 y1 (fun j z1 z2 => ?_) y3 y4 y5
                          have h1 := y2 j z1 z2
                          have h2 := q6 j z1 (by omega)
                          rw [fset_n (by omega)] at h2
                          exact ⟨h1.1.trans h2.1, h1.2.trans h2.2⟩
                    · exfalso; omega
                · refine r_con iX8_findWaysOf_120 ?_
                  refine r_goto iX8_findWaysOf_121 ?_
                  refine r_cne iX8_findWaysOf_125 (by omega) (fun h125 => ?_) (fun h125 => ?_)
                  · refine r_goto iX8_findWaysOf_160 ?_
                    have e0 : stp (M 0 1).toNat (aM M) (bM M) (M 7 l) (k + 1) p seen (r0 + 1) = [] := stp_e (Or.inr (Or.inr (by rw [h117, pth_t])))
                    have e1 : fd (M 0 1).toNat (aM M) (bM M) (M 7 l) (k + 1) p seen (r0 + 1).toNat = (fd (M 0 1).toNat (aM M) (bM M) (M 7 l) (k + 1) p seen (r0 + 1 + 1).toNat) := by
                      have e2 := fd_lt (rc := (M 0 1).toNat) (a := aM M) (b := bM M) (t := M 7 l) (k := (k + 1)) (p := p) (seen := seen) (m := (r0 + 1).toNat) (by omega)
                      rw [show (((r0 + 1).toNat : Nat) : Int) = r0 + 1 by omega, e0, List.nil_append] at e2
                      rw [e2, show (r0 + 1).toNat + 1 = (r0 + 1 + 1).toNat by omega]
                    rw [e1] at hG
                    exact ih (r0 + 1) (mset M1 18 (fset (M1 18) dp (r0 + 1))) L1 _ _ (by omega) (by omega) (by omega) hF2 hpre2 (by rw [mset_s, fset_s]) h19 hseen hat hW2 hL8 hG (fun M3 L3 w4 w5 q1 q2 q3 q4 q5 => hcont M3 L3 w4 w5 q1 (fun j z1 z2 => by have := q2 j z1 z2; rw [mset_s, fset_n (by omega)] at this; exact this) q3 q4 q5)
                  · refine r_ld iX8_findWaysOf_128 rfl ?_
                    refine r_ifeq iX8_findWaysOf_130 (by omega) (fun h130 => ?_) (fun h130 => ?_)
                    · refine r_inc iX8_findWaysOf_142 rfl (by decide) rfl ?_
                      refine r_aldn iX8_findWaysOf_145 rfl ?_
                      refine r_getr iX8_findWaysOf_146 flX8_68 rfl rfl ?_
                      refine r_ldn iX8_findWaysOf_149 rfl ?_
                      refine r_ld iX8_findWaysOf_150 rfl ?_
                      refine r_ias iX8_findWaysOf_152 rfl (by omega) ?_
                      refine r_aldn iX8_findWaysOf_153 rfl ?_
                      refine r_getr iX8_findWaysOf_154 flX8_65 rfl rfl ?_
                      refine r_ldn iX8_findWaysOf_157 rfl ?_
                      refine r_con iX8_findWaysOf_158 ?_
                      refine r_ias iX8_findWaysOf_159 rfl (by omega) ?_
                      refine r_goto iX8_findWaysOf_160 ?_
                      exfalso; omega
                    · exfalso; omega
            · exfalso; omega
          · refine r_inc iX8_findWaysOf_59 rfl (by decide) rfl ?_
            refine r_goto iX8_findWaysOf_62 ?_
            have e1 := fd_ge (rc := (M 0 1).toNat) (a := aM M) (b := bM M) (t := M 7 l) (k := (k + 1)) (p := p) (seen := seen) (m := (r0 + 1).toNat) (by omega)
            rw [e1, List.map_nil, List.nil_append] at hG
            exact hcont (mset M1 18 (fset (M1 18) dp (r0 + 1))) L1 _ _ hF2 (fun j z1 z2 => ⟨by rw [mset_s, fset_n (by omega)], rfl⟩) hW2 hL8 hG
end RC
