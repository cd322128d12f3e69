theorem Ex.dep {Ly : List Ent} {g : Gt} {d d' : Nat} {y : Mth} {as : List MV} {M : Mem} {Post : Option MV → Mem → Prop} (h : d = d') (k : Ex Ly g d y as M Post) : Ex Ly g d' y as M Post := h ▸ k
theorem fpt_all {f : Int → Int} : ∀ {n : Nat}, fpt f n < 0 → ∀ k : Int, 0 ≤ k → k < n → f k = 0
  | 0, _, k, h0, h1 => by omega
  | n + 1, h, k, h0, h1 => by
    simp only [fpt] at h
    by_cases q : 0 ≤ fpt f n
    · rw [if_pos q] at h; omega
    · rw [if_neg q] at h
      by_cases z : f n = 0
      · by_cases e : k = n
        · rw [e]; exact z
        · exact fpt_all (n := n) (by omega) k h0 (by omega)
      · rw [if_neg z] at h; omega
def CC (M : Mem) : Prop := CS (M 1 2) (M 1 1) (M 29) (M 31) (M 10) (M 4) (M 5) (M 42) (M 43) (M 44) (M 45)
def SP (M0 : Mem) (t c : Int) (b : Int → Int) : Prop := StP (M0 1 2).toNat (M0 42) (M0 43) (fun c => coF (M0 29) (M0 31) (M0 10) (M0 5) c (M0 1 2)) (fun c => feF (M0 29) (M0 31) (M0 10) (M0 4) (M0 1 2) (M0 1 1) c) t c b
section CL
variable {M0 : Mem} {ln : Nat} {l c : Int} {v b : Int → Int}
theorem CC.pos (n m : Nat) : (0 : Int) < 8 ^ (n - m) := Int.pow_pos (by decide)
theorem CC.first (hC : CC M0) (hl : l = ln) (h1 : l < M0 1 2) (h : SP M0 (rk v ln * 8 ^ ((M0 1 2).toNat - ln)) c b) : SP M0 ((8 * rk v ln + M0 42 l) * 8 ^ ((M0 1 2).toNat - (ln + 1))) c b := by
  subst hl
  have f := hC.2.2.1 ln (by omega) h1
  refine StP.skip h ?_ (fun u a q0 q1 _ => absurd (rk_first hC.hb (by omega) a q0 q1) not_false)
  rw [pw8 (n := (M0 1 2).toNat) (l := ln) (by omega)]
  exact Int.mul_le_mul_of_nonneg_right (by omega) (Int.le_of_lt (CC.pos _ _))
theorem SP.ge (hC : CC M0) {t : Int} (h : SP M0 t c b) : 0 ≤ c := by
  rcases h with h | h
  · omega
  · have e := h.2.2.2.2.1
    have := CS.cob hC (m := (M0 1 2).toNat) (v := b) (by omega) h.2.1
    have hn := hC.1
    rw [show (((M0 1 2).toNat : Nat) : Int) = M0 1 2 by omega] at this
    dsimp only at e
    omega
theorem CC.last (hC : CC M0) (hl : l = ln) (h1 : l < M0 1 2) {p i : Int} (hi : i = M0 43 l + 1) (h : SP M0 ((8 * p + i) * 8 ^ ((M0 1 2).toNat - (ln + 1))) c b) : SP M0 ((p + 1) * 8 ^ ((M0 1 2).toNat - ln)) c b := by
  subst hl
  have f := hC.2.2.1 ln (by omega) h1
  rw [show 8 * p + i = 8 * p + M0 43 ln + 1 by omega] at h
  refine StP.skip h ?_ (fun u a q0 q1 _ => absurd (rk_last hC.hb (by omega) a q0 q1) not_false)
  rw [pw8 (n := (M0 1 2).toNat) (l := ln) (by omega)]
  exact Int.mul_le_mul_of_nonneg_right (by omega) (Int.le_of_lt (CC.pos _ _))
theorem CC.step (hC : CC M0) (hl : l = ln) (h1 : l < M0 1 2) (hv : Bx ln (M0 42) (M0 43) v) {i : Int} (hi : M0 42 l ≤ i ∧ i ≤ M0 43 l) (h : SP M0 ((8 * rk v ln + i) * 8 ^ ((M0 1 2).toNat - (ln + 1))) c b)
    (e : ∀ u, Bx (M0 1 2).toNat (M0 42) (M0 43) u → (∀ j : Int, 0 ≤ j → j < l → u j = v j) → u l = i → feF (M0 29) (M0 31) (M0 10) (M0 4) (M0 1 2) (M0 1 1) u → c ≤ coF (M0 29) (M0 31) (M0 10) (M0 5) u (M0 1 2) ∧ c < 1000000000) : SP M0 ((8 * rk v ln + (i + 1)) * 8 ^ ((M0 1 2).toNat - (ln + 1))) c b := by
  subst hl
  have f := hC.2.2.1 ln (by omega) h1
  refine StP.skip h (Int.mul_le_mul_of_nonneg_right (by omega) (Int.le_of_lt (CC.pos _ _))) (fun u a q0 q1 q2 => ?_)
  have s := rk_sub hC.hb (by omega) a hv (i := i) (by omega) q0 (by rw [Int.add_assoc]; exact q1)
  exact e u a s.1 s.2 q2
theorem CC.dearer (hC : CC M0) (hl : l = ln) (h1 : l < M0 1 2) (hv : Bx ln (M0 42) (M0 43) v) {i : Int} (hi : M0 42 l ≤ i ∧ i ≤ M0 43 l) (h : SP M0 ((8 * rk v ln + i) * 8 ^ ((M0 1 2).toNat - (ln + 1))) c b)
    (q : c ≤ coF (M0 29) (M0 31) (M0 10) (M0 5) v l + M0 44 (8 * l + i) + M0 45 (l + 1)) : SP M0 ((8 * rk v ln + (i + 1)) * 8 ^ ((M0 1 2).toNat - (ln + 1))) c b := by
  refine hC.step hl h1 hv hi h (fun u a e0 e1 _ => ?_)
  have d := CS.dear hC a (by omega) h1 e0 e1
  have cb := CS.cob hC (m := ln) (by omega) hv
  have tb := CS.ctb hC (j := l) (i := i) (by omega) h1 hi.1 hi.2
  have lb := hC.2.2.2.2.2 (l + 1) (by omega) (by omega)
  have nn := hC.1
  rw [← hl] at cb
  exact ⟨by omega, by omega⟩
theorem CC.fuller (hC : CC M0) (hl : l = ln) (h1 : l < M0 1 2) (hv : Bx ln (M0 42) (M0 43) v) {i : Int} (hi : M0 42 l ≤ i ∧ i ≤ M0 43 l) (h : SP M0 ((8 * rk v ln + i) * 8 ^ ((M0 1 2).toNat - (ln + 1))) c b) {k : Int} (k0 : 0 ≤ k) (k1 : k < M0 29 (8 * l + i))
    (q : M0 4 (M0 31 (8 * (8 * l + i) + k)) - ldF (M0 29) (M0 31) (M0 10) v l (M0 31 (8 * (8 * l + i) + k)) < M0 10 l) : SP M0 ((8 * rk v ln + (i + 1)) * 8 ^ ((M0 1 2).toNat - (ln + 1))) c b :=
  hC.step hl h1 hv hi h (fun _ a e0 e1 f => absurd f (CS.full hC a (by omega) h1 e0 e1 k0 k1 q))
theorem CC.leaf (hC : CC M0) (hl : (ln : Int) = M0 1 2) (hv : Bx ln (M0 42) (M0 43) v) (hf : ∀ r, 0 ≤ r → r < M0 1 1 → ldF (M0 29) (M0 31) (M0 10) v ln r ≤ M0 4 r) (hc : coF (M0 29) (M0 31) (M0 10) (M0 5) v ln < c) (h : SP M0 (rk v ln * 8 ^ ((M0 1 2).toNat - ln)) c b) : SP M0 ((rk v ln + 1) * 8 ^ ((M0 1 2).toNat - ln)) (coF (M0 29) (M0 31) (M0 10) (M0 5) v ln) v := by
  have e : ln = (M0 1 2).toNat := by omega
  subst e
  have hl2 : (((M0 1 2).toNat : Nat) : Int) = M0 1 2 := hl
  rw [Nat.sub_self, Int.pow_zero, Int.mul_one] at h ⊢
  rw [hl2] at hf hc ⊢
  exact StP.leaf hC.hb (fun a d e => coF_ext (fun j h0 h1 => e j h0 (by omega))) h hv hf hc
/-- what is left of the rooms with one more load on its way -/
theorem CC.left (hC : CC M0) (hl : l = ln) (h1 : l < M0 1 2) {i : Int} (hi : M0 42 l ≤ i ∧ i ≤ M0 43 l) {lf : Int → Int} (hf : ∀ r, 0 ≤ r → r < M0 1 1 → lf r = M0 4 r - ldF (M0 29) (M0 31) (M0 10) v l r ∧ 0 ≤ lf r ∧ lf r ≤ 100) {w : Int → Int} (hw : ∀ j : Int, 0 ≤ j → j < l → w j = v j) (hwl : w l = i) (hk : ∀ k, 0 ≤ k → k < M0 29 (8 * l + i) → M0 10 l ≤ lf (M0 31 (8 * (8 * l + i) + k))) :
    ∀ r, 0 ≤ r → r < M0 1 1 → tkC lf (M0 29) (M0 31) (8 * l + i) (M0 10 l) (M0 29 (8 * l + i)).toNat r = M0 4 r - ldF (M0 29) (M0 31) (M0 10) w (l + 1) r ∧ 0 ≤ tkC lf (M0 29) (M0 31) (8 * l + i) (M0 10 l) (M0 29 (8 * l + i)).toNat r ∧ tkC lf (M0 29) (M0 31) (8 * l + i) (M0 10 l) (M0 29 (8 * l + i)).toNat r ≤ 100 := by
  intro r r0 r1
  have f := hf r r0 r1
  have z := (hC.2.2.1 l (by omega) h1).2
  rw [tk_eq, ld_1 (by omega), hwl, ldF_ext (c := w) (c' := v) hw]
  have o := CS.ldt hC (r := r) (by omega) h1 hi.1 hi.2
  unfold sg at o ⊢
  rcases o with ⟨o1, o2⟩ | ⟨o1, k, o2, o3, o4⟩
  · rw [o1]; omega
  · have := hk k o2 o3
    rw [o4] at this
    rw [o1]; omega
end CL
section CM
variable {g : Gt}
theorem sX0_choose (M0 : Mem) (hC : CC M0) (hN : NB M0) (hV : ∀ j i, 0 ≤ j → j < M0 1 2 → M0 42 j ≤ i → i ≤ M0 43 j → VS M0 (8 * j + i)) : ∀ (rem d : Nat) (M : Mem) (ln : Nat) (l sp : Int), l = ln → l + rem = M0 1 2 → (∀ k, k ≠ 39 → k ≠ 40 → k ≠ 41 → k ≠ 46 → M k = M0 k) → Bx ln (M0 42) (M0 43) (M 41) → sp = coF (M0 29) (M0 31) (M0 10) (M0 5) (M 41) l → (∀ r, 0 ≤ r → r < M0 1 1 → M 46 r = M0 4 r - ldF (M0 29) (M0 31) (M0 10) (M 41) l r ∧ 0 ≤ M 46 r ∧ M 46 r ≤ 100) → sp + M0 45 l < M 39 0 → SP M0 (rk (M 41) ln * 8 ^ ((M0 1 2).toNat - ln)) (M 39 0) (M 40) → Ex LyC g (d + 2 + rem) mX0_choose [vr 39, vr 1, vr 27, vi l, vi sp] M (fun q M' => q = none ∧ (∀ k, k ≠ 39 → k ≠ 40 → k ≠ 41 → M' k = M k) ∧ (∀ j, j < l → M' 41 j = M 41 j) ∧ SP M0 ((rk (M 41) ln + 1) * 8 ^ ((M0 1 2).toNat - ln)) (M' 39 0) (M' 40)) := by
  intro rem
  induction rem with
  | zero =>
    intro d M ln l sp hl hrem hk hv hsp hlf hlt hS
    obtain ⟨hp0, hr, hln, hR, hL⟩ := id hN
    have k1 : M 1 = M0 1 := hk 1 (by decide) (by decide) (by decide) (by decide)
    have hlf2 := hC.2.2.2.2.1
    refine Ex.in [some (vr 39), some (vr 1), some (vr 27), some (vi l), some (vi sp), none, none, none] (by decide +kernel) rfl (Nat.le_of_ble_eq_true rfl) ?_ rfl
    refine r_ldn iX0_choose_0 rfl ?_
    refine r_aldn iX0_choose_1 rfl ?_
    refine r_geti 2 iX0_choose_2 flX0_49 rfl rfl rfl rfl ?_
    rw [k1]
    refine r_cge iX0_choose_5 (by omega) (fun h5 => ?_) (fun h5 => ?_)
    · refine r_aldn iX0_choose_13 rfl ?_
      refine r_ld iX0_choose_14 rfl ?_
      refine r_puti 0 iX0_choose_16 fpX0_12 rfl rfl rfl ?_
      refine r_aldn iX0_choose_19 rfl ?_
      refine r_getr iX0_choose_20 flX0_20 rfl rfl ?_
      refine r_con iX0_choose_23 ?_
      refine r_aldn iX0_choose_24 rfl ?_
      refine r_getr iX0_choose_25 flX0_16 rfl rfl ?_
      refine r_con iX0_choose_28 ?_
      refine r_con iX0_choose_29 ?_
      refine r_copy iX0_choose_30 clX0_43 rfl rfl rfl rfl ?_
      refine r_vret iX0_choose_33 rfl ?_
      refine ⟨rfl, fun k q0 q1 q2 => ?_, fun j q => rfl, ?_⟩
      · rw [mset_n q1, mset_n q0]
      · subst hsp
        subst hl
        refine hC.leaf (by omega) hv (fun r a b => by have := hlf r a b; omega) ?_ hS
        rw [show ((ln : Nat) : Int) = M0 1 2 by omega] at hlt ⊢
        omega
    · exfalso; omega
  | succ rem IH =>
    intro d M ln l sp hl hrem hk hv hsp hlf hlt hS
    obtain ⟨hp0, hr, hln, hR, hL⟩ := id hN
    have k1 : M 1 = M0 1 := hk 1 (by decide) (by decide) (by decide) (by decide)
    have k42 : M 42 = M0 42 := hk 42 (by decide) (by decide) (by decide) (by decide)
    have cs := hC.2.2.1 l (by omega) (by omega)
    have cn := hC.1
    have cb := CS.cob hC (m := ln) (v := M 41) (by omega) hv
    rw [← hl, ← hsp] at cb
    have lb := hC.2.2.2.2.2 (l + 1) (by omega) (by omega)
    refine Ex.in [some (vr 39), some (vr 1), some (vr 27), some (vi l), some (vi sp), none, none, none] (by decide +kernel) rfl (Nat.le_of_ble_eq_true rfl) ?_ rfl
    have L : ∀ (n9 : Nat) (M1 : Mem) (i : Int) (w6 w7 : Option MV), (M0 42 l ≤ i) → (i ≤ M0 43 l + 1) → (∀ k, k ≠ 39 → k ≠ 40 → k ≠ 41 → M1 k = M k) → (∀ j, j < l → M1 41 j = M 41 j) → (SP M0 ((8 * rk (M 41) ln + i) * 8 ^ ((M0 1 2).toNat - (ln + 1))) (M1 39 0) (M1 40)) → M0 43 l + 1 - i < n9 → R LyC g mX0_choose (d + 2 + (rem + 1)) 42 [some (vr 39), some (vr 1), some (vr 27), some (vi l), some (vi sp), some (vi i), w6, w7] [] M1 (fun q M' => q = none ∧ (∀ k, k ≠ 39 → k ≠ 40 → k ≠ 41 → M' k = M k) ∧ (∀ j, j < l → M' 41 j = M 41 j) ∧ SP M0 ((rk (M 41) ln + 1) * 8 ^ ((M0 1 2).toNat - ln)) (M' 39 0) (M' 40)) := by
      intro n9
      induction n9 with
      | zero =>
        intro M1 i w6 w7 g0 g1 hF hc hT hm9
        omega
      | succ n9 ih =>
        intro M1 i w6 w7 g0 g1 hF hc hT hm9
        have e1 : M1 1 = M0 1 := by rw [hF 1 (by decide) (by decide) (by decide)]; exact hk 1 (by decide) (by decide) (by decide) (by decide)
        have e2 : M1 2 = M0 2 := by rw [hF 2 (by decide) (by decide) (by decide)]; exact hk 2 (by decide) (by decide) (by decide) (by decide)
        have e3 : M1 3 = M0 3 := by rw [hF 3 (by decide) (by decide) (by decide)]; exact hk 3 (by decide) (by decide) (by decide) (by decide)
        have e4 : M1 4 = M0 4 := by rw [hF 4 (by decide) (by decide) (by decide)]; exact hk 4 (by decide) (by decide) (by decide) (by decide)
        have e5 : M1 5 = M0 5 := by rw [hF 5 (by decide) (by decide) (by decide)]; exact hk 5 (by decide) (by decide) (by decide) (by decide)
        have e6 : M1 6 = M0 6 := by rw [hF 6 (by decide) (by decide) (by decide)]; exact hk 6 (by decide) (by decide) (by decide) (by decide)
        have e7 : M1 7 = M0 7 := by rw [hF 7 (by decide) (by decide) (by decide)]; exact hk 7 (by decide) (by decide) (by decide) (by decide)
        have e8 : M1 8 = M0 8 := by rw [hF 8 (by decide) (by decide) (by decide)]; exact hk 8 (by decide) (by decide) (by decide) (by decide)
        have e9 : M1 9 = M0 9 := by rw [hF 9 (by decide) (by decide) (by decide)]; exact hk 9 (by decide) (by decide) (by decide) (by decide)
        have e10 : M1 10 = M0 10 := by rw [hF 10 (by decide) (by decide) (by decide)]; exact hk 10 (by decide) (by decide) (by decide) (by decide)
        have e29 : M1 29 = M0 29 := by rw [hF 29 (by decide) (by decide) (by decide)]; exact hk 29 (by decide) (by decide) (by decide) (by decide)
        have e30 : M1 30 = M0 30 := by rw [hF 30 (by decide) (by decide) (by decide)]; exact hk 30 (by decide) (by decide) (by decide) (by decide)
        have e31 : M1 31 = M0 31 := by rw [hF 31 (by decide) (by decide) (by decide)]; exact hk 31 (by decide) (by decide) (by decide) (by decide)
        have e42 : M1 42 = M0 42 := by rw [hF 42 (by decide) (by decide) (by decide)]; exact hk 42 (by decide) (by decide) (by decide) (by decide)
        have e43 : M1 43 = M0 43 := by rw [hF 43 (by decide) (by decide) (by decide)]; exact hk 43 (by decide) (by decide) (by decide) (by decide)
        have e44 : M1 44 = M0 44 := by rw [hF 44 (by decide) (by decide) (by decide)]; exact hk 44 (by decide) (by decide) (by decide) (by decide)
        have e45 : M1 45 = M0 45 := by rw [hF 45 (by decide) (by decide) (by decide)]; exact hk 45 (by decide) (by decide) (by decide) (by decide)
        have e46 : M1 46 = M 46 := hF 46 (by decide) (by decide) (by decide)
        have hN1 : NB M1 := by
          unfold NB
          rw [e1, e2, e3, e4, e5, e6, e7, e8, e9, e10]
          exact hN
        have hcl := StP.le hT
        have hcg := SP.ge hC hT
        refine r_ld iX0_choose_42 rfl ?_
        refine r_aldn iX0_choose_44 rfl ?_
        refine r_getr iX0_choose_45 flX0_26 rfl rfl ?_
        refine r_ldn iX0_choose_48 rfl ?_
        refine r_ial iX0_choose_49 rfl (by omega) ?_
        try simp only [e1, e10, e42, e43, e44, e45]
        refine r_cgt iX0_choose_50 (by omega) (fun h50 => ?_) (fun h50 => ?_)
        · refine r_vret iX0_choose_162 rfl ?_
          refine ⟨rfl, hF, hc, ?_⟩
          exact hC.last hl (by omega) (by omega) hT
        · have cx := CS.ctb hC (j := l) (i := i) (by omega) (by omega) g0 (by omega)
          have hVS := hV l i (by omega) (by omega) g0 (by omega)
          have hVS1 : VS M1 (8 * l + i) := by
            unfold VS
            rw [e29, e30, e31, e1]
            exact hVS
          refine r_ldn iX0_choose_53 rfl ?_
          refine r_ld iX0_choose_54 rfl ?_
          refine call_N2i iX0_choose_56 clX0_77 myX7_slot rfl (sX7_slot _ _ _) ?_
          refine r_st iX0_choose_59 (by decide) rfl ?_
          refine r_ld iX0_choose_61 rfl ?_
          refine r_aldn iX0_choose_63 rfl ?_
          refine r_getr iX0_choose_64 flX0_29 rfl rfl ?_
          refine r_ld iX0_choose_67 rfl ?_
          refine r_ial iX0_choose_69 rfl (by omega) ?_
          try simp only [e1, e10, e42, e43, e44, e45]
          refine r_add iX0_choose_70 ?_
          refine r_st iX0_choose_71 (by decide) rfl ?_
          refine r_ld iX0_choose_73 rfl ?_
          refine r_aldn iX0_choose_75 rfl ?_
          refine r_getr iX0_choose_76 flX0_32 rfl rfl ?_
          refine r_ldn iX0_choose_79 rfl ?_
          refine r_con iX0_choose_80 ?_
          refine r_add iX0_choose_81 ?_
          refine r_ial iX0_choose_82 rfl (by omega) ?_
          refine r_add iX0_choose_83 ?_
          refine r_aldn iX0_choose_84 rfl ?_
          refine r_geti 0 iX0_choose_85 flX0_12 rfl rfl rfl rfl ?_
          try simp only [e1, e10, e42, e43, e44, e45]
          refine r_cge iX0_choose_88 (by omega) (fun h88 => ?_) (fun h88 => ?_)
          · refine r_inc iX0_choose_156 rfl (by decide) rfl ?_
            refine r_goto iX0_choose_159 ?_
            exact ih M1 (i + 1) _ _ (by omega) (by omega) hF hc (hC.dearer hl (by omega) hv ⟨g0, by omega⟩ hT (by rw [← hsp]; omega)) (by omega)
          · refine r_aldn iX0_choose_91 rfl ?_
            refine r_aldn iX0_choose_92 rfl ?_
            refine r_ld iX0_choose_93 rfl ?_
            refine r_aldn iX0_choose_95 rfl ?_
            refine r_getr iX0_choose_96 flX0_81 rfl rfl ?_
            refine r_ldn iX0_choose_99 rfl ?_
            refine r_ial iX0_choose_100 rfl (by omega) ?_
            try simp only [e1, e10, e42, e43, e44, e45]
            refine call_V3i iX0_choose_101 clX0_93 myX0_hasRoom rfl rfl rfl rfl (Ex.dep (by show d + 1 + rem + 1 = d + 2 + rem; omega) (sX0_hasRoom_b (M := M1) (d + 1 + rem) (8 * l + i) (M0 10 l) (by omega) (by omega) hVS1 (fun r a b => by rw [e46]; have := hlf r a (by rw [e1] at b; exact b); omega) hN1)) ?_
            refine r_ifne iX0_choose_104 (by split <;> omega) (fun h104 => ?_) (fun h104 => ?_)
            · rw [ne_eq, ite10n] at h104
              refine r_aldn iX0_choose_110 rfl ?_
              refine r_getr iX0_choose_111 flX0_20 rfl rfl ?_
              refine r_ldn iX0_choose_114 rfl ?_
              refine r_ld iX0_choose_115 rfl ?_
              refine r_ias iX0_choose_117 rfl (by omega) ?_
              refine r_aldn iX0_choose_118 rfl ?_
              refine r_aldn iX0_choose_119 rfl ?_
              refine r_ld iX0_choose_120 rfl ?_
              refine r_aldn iX0_choose_122 rfl ?_
              refine r_getr iX0_choose_123 flX0_81 rfl rfl ?_
              refine r_ldn iX0_choose_126 rfl ?_
              refine r_ial iX0_choose_127 rfl (by omega) ?_
              rw [show (mset M1 41 (fset (M1 41) l i)) 10 l = M0 10 l from congrFun e10 l]
              refine call_V3v iX0_choose_128 clX0_97 myX0_take rfl rfl rfl rfl (Ex.dep (by show d + 1 + rem + 1 = d + 2 + rem; omega) (sX0_take (M := mset M1 41 (fset (M1 41) l i)) (d + 1 + rem) (8 * l + i) (M0 10 l) (by omega) hVS1 hN1)) ?_
              refine r_aldn iX0_choose_131 rfl ?_
              refine r_aldn iX0_choose_132 rfl ?_
              refine r_aldn iX0_choose_133 rfl ?_
              refine r_ldn iX0_choose_134 rfl ?_
              refine r_con iX0_choose_135 ?_
              refine r_add iX0_choose_136 ?_
              refine r_ld iX0_choose_137 rfl ?_
              have hrm : ∀ k, 0 ≤ k → k < M0 29 (8 * l + i) → M0 10 l ≤ M 46 (M0 31 (8 * (8 * l + i) + k)) := fun k z0 z1 => by
                have := fpt_all h104 k z0 (by rw [e29]; omega)
                rw [e46, e31] at this
                by_cases zz : M 46 (M0 31 (8 * (8 * l + i) + k)) < M0 10 l
                · rw [if_pos zz] at this; omega
                · omega
              have hpre : ∀ j : Int, 0 ≤ j → j < l → (fset (M1 41) l i) j = M 41 j := fun j _ z => by rw [fset_n (by omega)]; exact hc j z
              have hlf2 := hC.left hl (by omega) (i := i) ⟨g0, by omega⟩ hlf (w := fset (M1 41) l i) hpre (fset_s _ _ _) hrm
              have hrk : rk (fset (M1 41) l i) (ln + 1) = 8 * rk (M 41) ln + i := by
                simp only [rk]
                rw [rk_congr (n := ln) (w := M 41) (fun j z0 z1 => hpre j z0 (by omega)), ← hl, fset_s]
              have hrec := IH d (mset (mset M1 41 (fset (M1 41) l i)) 46 (tkC (M1 46) (M1 29) (M1 31) (8 * l + i) (M0 10 l) (M1 29 (8 * l + i)).toNat)) (ln + 1) (l + 1) (sp + M0 44 (8 * l + i)) (by omega) (by omega) (fun k z0 z1 z2 z3 => by rw [mset_n z3, mset_n z2, hF k z0 z1 z2]; exact hk k z0 z1 z2 z3) (fun j z0 z1 => ?B1) ?B2 ?B3 (by show sp + M0 44 (8 * l + i) + M0 45 (l + 1) < M1 39 0; omega) ?B4
              case B1 =>
                show M0 42 j ≤ (fset (M1 41) l i) j ∧ (fset (M1 41) l i) j ≤ M0 43 j
                by_cases ej : j = l
                · rw [ej, fset_s]; omega
                · rw [hpre j z0 (by omega)]; exact hv j z0 (by omega)
              case B2 =>
                show _ = coF (M0 29) (M0 31) (M0 10) (M0 5) (fset (M1 41) l i) (l + 1)
                rw [CS.co1 hC (v := fset (M1 41) l i) (by omega) (by omega) (by rw [fset_s]; omega) (by rw [fset_s]; omega), fset_s, coF_ext hpre, hsp]
              case B3 =>
                show ∀ r, 0 ≤ r → r < M0 1 1 → (tkC (M1 46) (M1 29) (M1 31) (8 * l + i) (M0 10 l) (M1 29 (8 * l + i)).toNat) r = _ ∧ 0 ≤ (tkC (M1 46) (M1 29) (M1 31) (8 * l + i) (M0 10 l) (M1 29 (8 * l + i)).toNat) r ∧ (tkC (M1 46) (M1 29) (M1 31) (8 * l + i) (M0 10 l) (M1 29 (8 * l + i)).toNat) r ≤ 100
                rw [e29, e31, e46]
                exact hlf2
              case B4 =>
                show SP M0 (rk (fset (M1 41) l i) (ln + 1) * _) (M1 39 0) (M1 40)
                rw [hrk]
                exact hT
              refine call_S5p iX0_choose_139 clX0_73 myX0_choose rfl (hrec) (fun r139 M139 h139 => ?_)
              obtain ⟨c1, c2, c3, c4⟩ := h139
              subst c1
              have f29 : M139 29 = M1 29 := c2 29 (by decide) (by decide) (by decide)
              have f31 : M139 31 = M1 31 := c2 31 (by decide) (by decide) (by decide)
              have f30 : M139 30 = M1 30 := c2 30 (by decide) (by decide) (by decide)
              have f1 : M139 1 = M1 1 := c2 1 (by decide) (by decide) (by decide)
              have f10 : M139 10 = M1 10 := c2 10 (by decide) (by decide) (by decide)
              have f46 : M139 46 = (tkC (M1 46) (M1 29) (M1 31) (8 * l + i) (M0 10 l) (M1 29 (8 * l + i)).toNat) := c2 46 (by decide) (by decide) (by decide)
              have hVS2 : VS M139 (8 * l + i) := by
                unfold VS
                rw [f29, f30, f31, f1]
                exact hVS1
              have hN2 : NB M139 := by
                have key : ∀ k : Nat, k < 11 → M139 k = M1 k := fun k hk => by rw [c2 k (by omega) (by omega) (by omega), mset_n (by omega), mset_n (by omega)]
                unfold NB
                rw [key 1 (by decide), key 2 (by decide), key 3 (by decide), key 4 (by decide), key 5 (by decide), key 6 (by decide), key 7 (by decide), key 8 (by decide), key 9 (by decide), key 10 (by decide)]
                exact hN1
              refine r_aldn iX0_choose_142 rfl ?_
              refine r_aldn iX0_choose_143 rfl ?_
              refine r_ld iX0_choose_144 rfl ?_
              refine r_aldn iX0_choose_146 rfl ?_
              refine r_getr iX0_choose_147 flX0_81 rfl rfl ?_
              refine r_ldn iX0_choose_150 rfl ?_
              refine r_ial iX0_choose_151 rfl (by omega) ?_
              rw [f10, e10]
              refine r_neg iX0_choose_152 ?_
              refine call_V3v iX0_choose_153 clX0_97 myX0_take rfl rfl rfl rfl (Ex.dep (by show d + 1 + rem + 1 = d + 2 + rem; omega) (sX0_take (M := M139) (d + 1 + rem) (8 * l + i) (-M0 10 l) (by omega) hVS2 hN2)) ?_
              refine r_inc iX0_choose_156 rfl (by decide) rfl ?_
              refine r_goto iX0_choose_159 ?_
              refine ih _ (i + 1) _ _ (by omega) (by omega) (fun k z0 z1 z2 => ?_) (fun j z => ?_) ?_ (by omega)
              · by_cases e : k = 46
                · rw [e, mset_s, f29, f31, f46, tk_back, e46]
                · rw [mset_n e, c2 k z0 z1 z2, mset_n e, mset_n z2]; exact hF k z0 z1 z2
              · rw [mset_n (by decide), c3 j (by omega)]
                show (fset (M1 41) l i) j = _
                rw [fset_n (by omega)]; exact hc j z
              · have c5 : SP M0 ((rk (fset (M1 41) l i) (ln + 1) + 1) * 8 ^ ((M0 1 2).toNat - (ln + 1))) (M139 39 0) (M139 40) := c4
                rw [hrk, Int.add_assoc] at c5
                exact c5
            · rw [ite10] at h104
              refine r_goto iX0_choose_107 ?_
              refine r_inc iX0_choose_156 rfl (by decide) rfl ?_
              refine r_goto iX0_choose_159 ?_
              have q1 := fpt_nz (f := fun k => if M1 46 (M1 31 (8 * (8 * l + i) + k)) < M0 10 l then (1 : Int) else 0) (n := (M1 29 (8 * l + i)).toNat) (by omega)
              have q2 := fpt_lt (fun k => if M1 46 (M1 31 (8 * (8 * l + i) + k)) < M0 10 l then (1 : Int) else 0) (M1 29 (8 * l + i)).toNat
              have q0 : 0 ≤ fpt (fun k => if M1 46 (M1 31 (8 * (8 * l + i) + k)) < M0 10 l then (1 : Int) else 0) (M1 29 (8 * l + i)).toNat := by omega
              generalize fpt (fun k => if M1 46 (M1 31 (8 * (8 * l + i) + k)) < M0 10 l then (1 : Int) else 0) (M1 29 (8 * l + i)).toNat = kk at q0 q1 q2
              have q3 : M1 46 (M1 31 (8 * (8 * l + i) + kk)) < M0 10 l := by
                by_cases z : M1 46 (M1 31 (8 * (8 * l + i) + kk)) < M0 10 l
                · exact z
                · exact absurd (if_neg z) q1
              rw [e46, e31] at q3
              rw [e29] at q2
              have q4 := hVS.2.2 kk q0 (by omega)
              rw [(hlf _ q4.1 q4.2).1] at q3
              exact ih M1 (i + 1) _ _ (by omega) (by omega) hF hc (hC.fuller hl (by omega) hv ⟨g0, by omega⟩ hT q0 (by omega) q3) (by omega)
    refine r_ldn iX0_choose_0 rfl ?_
    refine r_aldn iX0_choose_1 rfl ?_
    refine r_geti 2 iX0_choose_2 flX0_49 rfl rfl rfl rfl ?_
    rw [k1]
    refine r_cge iX0_choose_5 (by omega) (fun h5 => ?_) (fun h5 => ?_)
    · exfalso; omega
    · refine r_ldn iX0_choose_8 rfl ?_
      refine r_con iX0_choose_9 ?_
      refine r_clt iX0_choose_10 (by omega) (fun h10 => ?_) (fun h10 => ?_)
      · refine r_aldn iX0_choose_34 rfl ?_
        refine r_getr iX0_choose_35 flX0_23 rfl rfl ?_
        refine r_ldn iX0_choose_38 rfl ?_
        refine r_ial iX0_choose_39 rfl (by omega) ?_
        refine r_st iX0_choose_40 (by decide) rfl ?_
        rw [k42]
        exact L 9 M (M0 42 l) _ _ (by omega) (by omega) (fun _ _ _ _ => rfl) (fun _ _ => rfl) (hC.first hl (by omega) hS) (by omega)
      · exfalso; omega
end CM
