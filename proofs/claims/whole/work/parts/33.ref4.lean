/-! the reference's ways, all loads -/
def FwM (M M' : Mem) : Prop := ∀ k, k ≠ 11 → k ≠ 12 → k ≠ 13 → k ≠ 18 → k ≠ 19 → M' k = M k
def WLm (M : Mem) (l : Int) : Prop := Wsm M l (wsL (scM M) (aM M) (bM M) (M 6 l) (M 7 l))
theorem Wsm.fr {l l2 : Int} {M M' : Mem} {L : List (List Int)} (h : Wsm M l2 L) (hF : FrM l M M') (hL : L.length ≤ 8) (hl : l2 ≠ l) : Wsm M' l2 L := by
  refine ⟨by rw [hF.2.1 l2 hl]; exact h.1, fun i w hw => ?_⟩
  obtain ⟨a0, a1, a3⟩ := h.2 i w hw
  have hi := (List.getElem?_eq_some_iff.mp hw).1
  have hs := hF.2.2.1 (8 * l2 + i) (by omega)
  refine ⟨a0, by rw [hs]; exact a1, fun k r hk => ?_⟩
  have hk2 := (List.getElem?_eq_some_iff.mp hk).1
  rw [hF.2.2.2 _ (by omega)]
  exact a3 k r hk
theorem WLm.same {M M' : Mem} (h : ∀ k, k < 11 → M' k = M k) {l : Int} : wsL (scM M') (aM M') (bM M') (M' 6 l) (M' 7 l) = wsL (scM M) (aM M) (bM M) (M 6 l) (M 7 l) := by
  unfold scM aM bM
  rw [h 0 (by decide), h 1 (by decide), h 6 (by decide), h 7 (by decide)]
theorem wsL_len (sc a b : Int → Int) (s t : Int) : (wsL sc a b s t).length ≤ 8 := by unfold wsL; rw [List.length_take]; omega
theorem rlx_set {f : Int → Int} {u v w : Int} : fset f v (if f u + w < f v then f u + w else f v) = rlx f u v w := by
  unfold rlx
  split
  · rfl
  · exact fset_self
section RD
variable {g : Gt}
theorem sX8_findWaysOf (d : Nat) (M : Mem) (l n : Int) (L : List (List Int)) (h0l : 0 ≤ l ∧ l < M 0 6) (hn : 1 ≤ n ∧ n ≤ 8) (hW : Wsm M l L) (hL8 : L.length ≤ 8) (hN : NBm M) : Ex LyM g (d + 1) mX8_findWaysOf [vr 0, vi l, vi n] M (fun r M' => r = none ∧ Wsm M' l ((L ++ pth (M 0 1).toNat (aM M) (bM M) (M 7 l) n.toNat (M 6 l) [M 6 l]).take 8) ∧ FrM l M M') := by
  refine Ex.in [some (vr 0), some (vi l), some (vi n), none, none, none] (by decide +kernel) rfl (Nat.le_of_ble_eq_true rfl) ?_ rfl
  obtain ⟨hp0, hr, hl, hR, hL⟩ := id hN
  have hll := hL l h0l.1 h0l.2
  refine r_con iX8_findWaysOf_0 ?_
  refine r_stn iX8_findWaysOf_1 (by decide) rfl ?_
  refine r_aldn iX8_findWaysOf_2 rfl ?_
  refine r_getr iX8_findWaysOf_3 flX8_68 rfl rfl ?_
  refine r_con iX8_findWaysOf_6 ?_
  refine r_aldn iX8_findWaysOf_7 rfl ?_
  refine r_getr iX8_findWaysOf_8 flX8_29 rfl rfl ?_
  refine r_ldn iX8_findWaysOf_11 rfl ?_
  refine r_ial iX8_findWaysOf_12 rfl (by omega) ?_
  refine r_ias iX8_findWaysOf_13 rfl (by omega) ?_
  refine r_aldn iX8_findWaysOf_14 rfl ?_
  refine r_getr iX8_findWaysOf_15 flX8_65 rfl rfl ?_
  refine r_con iX8_findWaysOf_18 ?_
  try simp only [mset_s, mset_n, fset_s, ne_eq, Nat.reduceEqDiff, not_false_eq_true]
  refine r_con iX8_findWaysOf_19 ?_
  refine r_ias iX8_findWaysOf_20 rfl (by omega) ?_
  have hE := findWays_E (g := g) d M l n ((L ++ pth (M 0 1).toNat (aM M) (bM M) (M 7 l) n.toNat (M 6 l) [M 6 l]).take 8) h0l hn hN (n - 1).toNat 0 (M 6 l) [] [M 6 l] [] (by omega) (by omega) rfl hll.2.2.2.1 hll.2.1 22 (-1) (mset (mset M 19 (fset (M 19) 0 (M 6 l))) 18 (fset (M 18) 0 (-1))) L none none (by omega) (by omega) (by omega) ((FrM.m19 _ _).tr (FrM.m18 _ _)) (fun j r h => by simp at h) (by rw [mset_s, fset_s]) (by show fset (M 19) 0 (M 6 l) 0 = _; rw [fset_s]) (fun v => by
      rw [List.mem_singleton]
      constructor
      · intro z; exact ⟨0, by omega, by omega, by show fset (M 19) 0 (M 6 l) 0 = v; rw [fset_s, z]⟩
      · rintro ⟨j, a1, a2, a3⟩
        have e : j = 0 := by omega
        rw [e] at a3
        have a4 : fset (M 19) 0 (M 6 l) 0 = v := a3
        rw [fset_s] at a4; exact a4.symm)
    (fun j a1 a2 => by have e : j = 0 := by omega
                       rw [e]; show 0 ≤ fset (M 19) 0 (M 6 l) 0 ∧ fset (M 19) 0 (M 6 l) 0 < 9; rw [fset_s]; omega) hW hL8
    (by rw [show ((-1 : Int) + 1).toNat = 0 from rfl, fd_0, ← pth_1 hll.2.2.2.1, show n.toNat = (n - 1).toNat + 1 by omega]; simp)
    (fun M2 L2 w4 w5 q1 q2 q3 q4 q5 => by
      refine r_ldn iX8_findWaysOf_21 rfl ?_
      refine r_iflt iX8_findWaysOf_22 (by omega) (fun h22 => ?_) (fun h22 => ?_)
      · refine r_vret iX8_findWaysOf_163 rfl ?_
        rw [List.append_nil, List.take_of_length_le q4] at q5
        exact ⟨rfl, by rw [← q5]; exact q3, q1⟩
      · exfalso; omega
    )
  exact hE
theorem sX8_findWays (d : Nat) (M : Mem) (hN : NBm M) : Ex LyM g (d + 2) mX8_findWays [vr 0] M (fun r M' => r = none ∧ (∀ l, 0 ≤ l → l < M 0 6 → WLm M' l) ∧ FwM M M') := by
  refine Ex.in [some (vr 0), none, none] (by decide +kernel) rfl (Nat.le_of_ble_eq_true rfl) ?_ rfl
  obtain ⟨hp0, hr, hl, hR, hL⟩ := id hN
  have L : ∀ (n9 : Nat) (l : Int) (M1 : Mem) (w2 : Option MV), (0 ≤ l) → (l ≤ M 0 6) → (∀ j, 0 ≤ j → j < l → WLm M1 j) → (FwM M M1) → M 0 6 - l < n9 → R LyM g mX8_findWays (d + 2) 2 [some (vr 0), some (vi l), w2] [] M1 (fun r M' => r = none ∧ (∀ l, 0 ≤ l → l < M 0 6 → WLm M' l) ∧ FwM M M') := by
    intro n9
    induction n9 with
    | zero =>
      intro l M1 w2 h0 h1 hw hF hm9
      omega
    | succ n9 ih =>
      intro l M1 w2 h0 h1 hw hF hm9
      have key : ∀ k : Nat, k < 11 → M1 k = M k := fun k hk => hF k (by omega) (by omega) (by omega) (by omega) (by omega)
      have f0 := key 0 (by decide)
      have I : ∀ (n8 : Nat) (n : Int) (M2 : Mem), (1 ≤ n) → (n ≤ M 0 0) → (l < M 0 6) → (∀ j, 0 ≤ j → j < l → WLm M2 j) → (Wsm M2 l ((acc (scM M) (aM M) (bM M) (M 6 l) (M 7 l) n.toNat).take 8)) → (FwM M M2) → M 0 0 - n < n8 → R LyM g mX8_findWays (d + 2) 19 [some (vr 0), some (vi l), some (vi n)] [] M2 (fun r M' => r = none ∧ (∀ l, 0 ≤ l → l < M 0 6 → WLm M' l) ∧ FwM M M') := by
        intro n8
        induction n8 with
        | zero =>
          intro n M2 h0n h1n hl6 hw2 hwl hF2 hm9
          omega
        | succ n8 ih2 =>
          intro n M2 h0n h1n hl6 hw2 hwl hF2 hm9
          have key2 : ∀ k : Nat, k < 11 → M2 k = M k := fun k hk => hF2 k (by omega) (by omega) (by omega) (by omega) (by omega)
          have g0 := key2 0 (by decide)
          have g1 := key2 1 (by decide)
          have g6 := key2 6 (by decide)
          have g7 := key2 7 (by decide)
          have hN2 : NBm M2 := by
            unfold NBm
            rw [key2 0 (by decide), key2 1 (by decide), key2 2 (by decide), key2 3 (by decide), key2 4 (by decide), key2 5 (by decide), key2 6 (by decide), key2 7 (by decide), key2 8 (by decide)]
            exact hN
          have ga : aM M2 = aM M := by unfold aM; rw [g1]
          have gb : bM M2 = bM M := by unfold bM; rw [g1]
          refine r_ldn iX8_findWays_19 rfl ?_
          refine r_aldn iX8_findWays_20 rfl ?_
          refine r_geti 0 iX8_findWays_21 flX8_7 rfl rfl rfl rfl ?_
          simp only [g0]
          refine r_cge iX8_findWays_24 (by omega) (fun h24 => ?_) (fun h24 => ?_)
          · refine r_inc iX8_findWays_39 rfl (by decide) rfl ?_
            refine r_goto iX8_findWays_42 ?_
            have e1 : n = M 0 0 := by omega
            refine ih (l + 1) M2 _ (by omega) (by omega) (fun j z1 z2 => ?_) hF2 (by omega)
            by_cases q : j = l
            · rw [q]
              unfold WLm
              rw [WLm.same key2]
              rw [e1] at hwl
              exact hwl
            · exact hw2 j z1 (by omega)
          · refine r_aldn iX8_findWays_27 rfl ?_
            refine r_ldn iX8_findWays_28 rfl ?_
            refine r_ldn iX8_findWays_29 rfl ?_
            refine call_V2p iX8_findWays_30 clX8_115 myX8_findWaysOf rfl rfl rfl rfl (sX8_findWaysOf d M2 l n _ (by rw [g0]; omega) (by omega) hwl (by rw [List.length_take]; omega) hN2) (fun r30 M30 h30 => ?_)
            refine r_inc iX8_findWays_33 rfl (by decide) rfl ?_
            refine r_goto iX8_findWays_36 ?_
            obtain ⟨rfl, q1, q2⟩ := h30
            have q3 : ∀ k : Nat, k < 11 → M30 k = M2 k := fun k hk => q2.1 k (by omega) (by omega) (by omega) (by omega) (by omega)
            refine ih2 (n + 1) M30 (by omega) (by omega) hl6 (fun j z1 z2 => ?_) ?_ (fun k a b c e f => (q2.1 k a b c e f).trans (hF2 k a b c e f)) (by omega)
            · have := (hw2 j z1 z2).fr q2 (wsL_len _ _ _ _ _) (by omega)
              unfold WLm
              rw [WLm.same q3]
              exact this
            · rw [g0, ga, gb, g6, g7] at q1
              rw [show (n + 1).toNat = n.toNat + 1 by omega, acc_1]
              have e9 : ((acc (scM M) (aM M) (bM M) (M 6 l) (M 7 l) n.toNat).take 8 ++ pth (M 0 1).toNat (aM M) (bM M) (M 7 l) n.toNat (M 6 l) [M 6 l]).take 8 = (acc (scM M) (aM M) (bM M) (M 6 l) (M 7 l) n.toNat ++ pth (M 0 1).toNat (aM M) (bM M) (M 7 l) n.toNat (M 6 l) [M 6 l]).take 8 := by
                by_cases q : ((acc (scM M) (aM M) (bM M) (M 6 l) (M 7 l) n.toNat).take 8).length = 8
                · rw [take_full q, take_full (A := (acc (scM M) (aM M) (bM M) (M 6 l) (M 7 l) n.toNat).take 8) (by rw [List.take_take]; simpa using q), List.take_take]
                  simp
                · have e8 : (acc (scM M) (aM M) (bM M) (M 6 l) (M 7 l) n.toNat).take 8 = acc (scM M) (aM M) (bM M) (M 6 l) (M 7 l) n.toNat := take_all (by rw [List.length_take] at q ⊢; omega)
                  rw [e8]
              rw [e9] at q1
              exact q1
      refine r_ldn iX8_findWays_2 rfl ?_
      refine r_aldn iX8_findWays_3 rfl ?_
      refine r_geti 6 iX8_findWays_4 flX8_100 rfl rfl rfl rfl ?_
      simp only [f0]
      refine r_cge iX8_findWays_7 (by omega) (fun h7 => ?_) (fun h7 => ?_)
      · refine r_vret iX8_findWays_45 rfl ?_
        exact ⟨rfl, fun j z1 z2 => hw j z1 (by omega), hF⟩
      · refine r_aldn iX8_findWays_10 rfl ?_
        refine r_getr iX8_findWays_11 flX8_44 rfl rfl ?_
        refine r_ldn iX8_findWays_14 rfl ?_
        refine r_con iX8_findWays_15 ?_
        refine r_ias iX8_findWays_16 rfl (by omega) ?_
        refine r_con iX8_findWays_17 ?_
        refine r_stn iX8_findWays_18 (by decide) rfl ?_
        have hll := hL l h0 (by omega)
        refine I 9 1 (mset M1 11 (fset (M1 11) l 0)) (by omega) (by omega) (by omega) (fun j z1 z2 => ?_) ?_ ?_ (by omega)
        · have hw3 := hw j z1 z2
          unfold WLm at hw3 ⊢
          refine ⟨?_, hw3.2⟩
          show fset (M1 11) l 0 j = _
          rw [fset_n (by omega)]
          exact hw3.1
        · have e1 : acc (scM M) (aM M) (bM M) (M 6 l) (M 7 l) (1 : Int).toNat = [] := by
            rw [show (1 : Int).toNat = 0 + 1 from rfl, acc_1]
            show [] ++ pth _ _ _ _ 0 _ _ = []
            unfold pth
            rw [if_neg hll.2.2.2.1]
            rfl
          rw [e1]
          refine ⟨?_, fun i w h => by simp at h⟩
          show fset (M1 11) l 0 l = _
          rw [fset_s]; rfl
        · intro k a b c e f
          rw [mset_n a]
          exact hF k a b c e f
  refine r_con iX8_findWays_0 ?_
  refine r_stn iX8_findWays_1 (by decide) rfl ?_
  exact L 6 0 M _ (by omega) (by omega) (fun j z1 z2 => by omega) (fun _ _ _ _ _ _ => rfl) (by omega)
end RD
section RE
variable {g : Gt} {M : Mem}
theorem sX8_farOf (d : Nat) (l : Int) (h0l : 0 ≤ l ∧ l < M 0 6) (hN : NBm M) : Ex LyM g (d) mX8_farOf [vr 0, vi l] M (PI ((itG (aM M) (bM M) (M 4) (M 0 1) (ini (M 23) (dsG (M 6 l)) 9) (M 0 0).toNat) (M 7 l)) (mset M 23 (itG (aM M) (bM M) (M 4) (M 0 1) (ini (M 23) (dsG (M 6 l)) 9) (M 0 0).toNat))) := by
  refine Ex.in [some (vr 0), some (vi l), none, none, none, none] (by decide +kernel) rfl (Nat.le_of_ble_eq_true rfl) ?_ rfl
  obtain ⟨hp0, hr, hl, hR, hL⟩ := id hN
  have hll := hL l h0l.1 h0l.2
  have L2 : ∀ (n9 : Nat) (q : Int) (f : Int → Int) (w3 w4 w5 : Option MV), (0 ≤ q) → (q ≤ M 0 0) → (f = (itG (aM M) (bM M) (M 4) (M 0 1) (ini (M 23) (dsG (M 6 l)) 9) q.toNat)) → M 0 0 - q < n9 → R LyM g mX8_farOf (d) 38 [some (vr 0), some (vi l), some (vi q), w3, w4, w5] [] (mset M 23 f) (PI ((itG (aM M) (bM M) (M 4) (M 0 1) (ini (M 23) (dsG (M 6 l)) 9) (M 0 0).toNat) (M 7 l)) (mset M 23 (itG (aM M) (bM M) (M 4) (M 0 1) (ini (M 23) (dsG (M 6 l)) 9) (M 0 0).toNat))) := by
    intro n9
    induction n9 with
    | zero =>
      intro q f w3 w4 w5 h0 h1 hfq hm9
      omega
    | succ n9 ih =>
      intro q f w3 w4 w5 h0 h1 hfq hm9
      have I : ∀ (n8 : Nat) (i : Int) (f : Int → Int) (w4 w5 : Option MV), (0 ≤ i) → (i ≤ M 0 1) → (q < M 0 0) → (f = rdG (aM M) (bM M) (M 4) (itG (aM M) (bM M) (M 4) (M 0 1) (ini (M 23) (dsG (M 6 l)) 9) q.toNat) i.toNat) → M 0 1 - i < n8 → R LyM g mX8_farOf (d) 48 [some (vr 0), some (vi l), some (vi q), some (vi i), w4, w5] [] (mset M 23 f) (PI ((itG (aM M) (bM M) (M 4) (M 0 1) (ini (M 23) (dsG (M 6 l)) 9) (M 0 0).toNat) (M 7 l)) (mset M 23 (itG (aM M) (bM M) (M 4) (M 0 1) (ini (M 23) (dsG (M 6 l)) 9) (M 0 0).toNat))) := by
        intro n8
        induction n8 with
        | zero =>
          intro i f w4 w5 h0i h1i hq0 hf hm9
          omega
        | succ n8 ih2 =>
          intro i f w4 w5 h0i h1i hq0 hf hm9
          refine r_ldn iX8_farOf_48 rfl ?_
          refine r_aldn iX8_farOf_49 rfl ?_
          refine r_geti 1 iX8_farOf_50 flX8_97 rfl rfl rfl rfl ?_
          try simp only [mset_s, mset_n, fset_s, ne_eq, Nat.reduceEqDiff, not_false_eq_true]
          refine r_cge iX8_farOf_53 (by omega) (fun h53 => ?_) (fun h53 => ?_)
          · refine r_inc iX8_farOf_194 rfl (by decide) rfl ?_
            refine r_goto iX8_farOf_197 ?_
            have e3 : i = M 0 1 := by omega
            exact ih (q + 1) f _ _ _ (by omega) (by omega) (by rw [itG_1 h0, hf, e3]) (by omega)
          · have hri := hR i h0i (by omega)
            have hb1 : dsB f := by rw [hf]; exact (itG_b hN dsG_b q.toNat).2 _ (by omega)
            have hb2 : dsB (rlx f (M 1 (2 * i + 1)) (M 1 (2 * i)) (M 4 i)) := rlx_b hb1 (by omega) (by omega) hri.2.2.2.1
            have ba := hb1 (M 1 (2 * i)) (by omega) (by omega)
            have bb := hb1 (M 1 (2 * i + 1)) (by omega) (by omega)
            refine r_aldn iX8_farOf_56 rfl ?_
            refine r_getr iX8_farOf_57 flX8_13 rfl rfl ?_
            refine r_con iX8_farOf_60 ?_
            refine r_ldn iX8_farOf_61 rfl ?_
            refine r_mul iX8_farOf_62 ?_
            refine r_ial iX8_farOf_63 rfl (by omega) ?_
            try simp only [mset_s, mset_n, fset_s, ne_eq, Nat.reduceEqDiff, not_false_eq_true]
            refine r_st iX8_farOf_64 (by decide) rfl ?_
            refine r_aldn iX8_farOf_66 rfl ?_
            refine r_getr iX8_farOf_67 flX8_13 rfl rfl ?_
            refine r_con iX8_farOf_70 ?_
            refine r_ldn iX8_farOf_71 rfl ?_
            refine r_mul iX8_farOf_72 ?_
            refine r_con iX8_farOf_73 ?_
            refine r_add iX8_farOf_74 ?_
            refine r_ial iX8_farOf_75 rfl (by omega) ?_
            try simp only [mset_s, mset_n, fset_s, ne_eq, Nat.reduceEqDiff, not_false_eq_true]
            refine r_st iX8_farOf_76 (by decide) rfl ?_
            refine r_aldn iX8_farOf_78 rfl ?_
            refine r_getr iX8_farOf_79 flX8_80 rfl rfl ?_
            refine r_ld iX8_farOf_82 rfl ?_
            refine r_aldn iX8_farOf_84 rfl ?_
            refine r_getr iX8_farOf_85 flX8_80 rfl rfl ?_
            refine r_ld iX8_farOf_88 rfl ?_
            refine r_ial iX8_farOf_90 rfl (by omega) ?_
            refine r_aldn iX8_farOf_91 rfl ?_
            refine r_getr iX8_farOf_92 flX8_23 rfl rfl ?_
            refine r_ldn iX8_farOf_95 rfl ?_
            refine r_ial iX8_farOf_96 rfl (by omega) ?_
            refine r_add iX8_farOf_97 ?_
            refine r_aldn iX8_farOf_98 rfl ?_
            refine r_getr iX8_farOf_99 flX8_80 rfl rfl ?_
            refine r_ld iX8_farOf_102 rfl ?_
            refine r_ial iX8_farOf_104 rfl (by omega) ?_
            try simp only [mset_s, mset_n, fset_s, ne_eq, Nat.reduceEqDiff, not_false_eq_true]
            refine r_cge iX8_farOf_105 (by omega) (fun h105 => ?_) (fun h105 => ?_)
            · refine r_aldn iX8_farOf_125 rfl ?_
              refine r_getr iX8_farOf_126 flX8_80 rfl rfl ?_
              refine r_ld iX8_farOf_129 rfl ?_
              refine r_ial iX8_farOf_131 rfl (by omega) ?_
              try simp only [mset_s, mset_n, fset_s, ne_eq, Nat.reduceEqDiff, not_false_eq_true]
              refine r_ias iX8_farOf_132 rfl (by omega) ?_
              simp only [mset_mset, mset_s]
              have e1 : fset f (M 1 (2 * i)) (f (M 1 (2 * i))) = rlx f (M 1 (2 * i + 1)) (M 1 (2 * i)) (M 4 i) := by
                unfold rlx
                rw [if_neg (by omega), fset_self]
              rw [e1]
              obtain ⟨f1, hf1⟩ : ∃ f1, f1 = rlx f (M 1 (2 * i + 1)) (M 1 (2 * i)) (M 4 i) := ⟨_, rfl⟩
              rw [← hf1] at hb2 ⊢
              have ca := hb2 (M 1 (2 * i)) (by omega) (by omega)
              have cb := hb2 (M 1 (2 * i + 1)) (by omega) (by omega)
              refine r_aldn iX8_farOf_133 rfl ?_
              refine r_getr iX8_farOf_134 flX8_80 rfl rfl ?_
              refine r_ld iX8_farOf_137 rfl ?_
              refine r_aldn iX8_farOf_139 rfl ?_
              refine r_getr iX8_farOf_140 flX8_80 rfl rfl ?_
              refine r_ld iX8_farOf_143 rfl ?_
              refine r_ial iX8_farOf_145 rfl (by omega) ?_
              refine r_aldn iX8_farOf_146 rfl ?_
              refine r_getr iX8_farOf_147 flX8_23 rfl rfl ?_
              refine r_ldn iX8_farOf_150 rfl ?_
              refine r_ial iX8_farOf_151 rfl (by omega) ?_
              refine r_add iX8_farOf_152 ?_
              refine r_aldn iX8_farOf_153 rfl ?_
              refine r_getr iX8_farOf_154 flX8_80 rfl rfl ?_
              refine r_ld iX8_farOf_157 rfl ?_
              refine r_ial iX8_farOf_159 rfl (by omega) ?_
              try simp only [mset_s, mset_n, fset_s, ne_eq, Nat.reduceEqDiff, not_false_eq_true]
              refine r_cge iX8_farOf_160 (by omega) (fun h160 => ?_) (fun h160 => ?_)
              · refine r_aldn iX8_farOf_180 rfl ?_
                refine r_getr iX8_farOf_181 flX8_80 rfl rfl ?_
                refine r_ld iX8_farOf_184 rfl ?_
                refine r_ial iX8_farOf_186 rfl (by omega) ?_
                try simp only [mset_s, mset_n, fset_s, ne_eq, Nat.reduceEqDiff, not_false_eq_true]
                refine r_ias iX8_farOf_187 rfl (by omega) ?_
                simp only [mset_mset, mset_s]
                have e2 : fset f1 (M 1 (2 * i + 1)) (f1 (M 1 (2 * i + 1))) = rlx f1 (M 1 (2 * i)) (M 1 (2 * i + 1)) (M 4 i) := by
                  unfold rlx
                  rw [if_neg (by omega), fset_self]
                rw [e2]
                refine r_inc iX8_farOf_188 rfl (by decide) rfl ?_
                refine r_goto iX8_farOf_191 ?_
                exact ih2 (i + 1) _ _ _ (by omega) (by omega) hq0 (by rw [rdG_1 h0i, ← hf, hf1]; rfl) (by omega)
              · refine r_aldn iX8_farOf_163 rfl ?_
                refine r_getr iX8_farOf_164 flX8_80 rfl rfl ?_
                refine r_ld iX8_farOf_167 rfl ?_
                refine r_ial iX8_farOf_169 rfl (by omega) ?_
                refine r_aldn iX8_farOf_170 rfl ?_
                refine r_getr iX8_farOf_171 flX8_23 rfl rfl ?_
                refine r_ldn iX8_farOf_174 rfl ?_
                refine r_ial iX8_farOf_175 rfl (by omega) ?_
                refine r_add iX8_farOf_176 ?_
                refine r_goto iX8_farOf_177 ?_
                try simp only [mset_s, mset_n, fset_s, ne_eq, Nat.reduceEqDiff, not_false_eq_true]
                refine r_ias iX8_farOf_187 rfl (by omega) ?_
                simp only [mset_mset, mset_s]
                have e2 : fset f1 (M 1 (2 * i + 1)) (f1 (M 1 (2 * i)) + M 4 i) = rlx f1 (M 1 (2 * i)) (M 1 (2 * i + 1)) (M 4 i) := by
                  unfold rlx
                  rw [if_pos h160]
                rw [e2]
                refine r_inc iX8_farOf_188 rfl (by decide) rfl ?_
                refine r_goto iX8_farOf_191 ?_
                exact ih2 (i + 1) _ _ _ (by omega) (by omega) hq0 (by rw [rdG_1 h0i, ← hf, hf1]; rfl) (by omega)
            · refine r_aldn iX8_farOf_108 rfl ?_
              refine r_getr iX8_farOf_109 flX8_80 rfl rfl ?_
              refine r_ld iX8_farOf_112 rfl ?_
              refine r_ial iX8_farOf_114 rfl (by omega) ?_
              refine r_aldn iX8_farOf_115 rfl ?_
              refine r_getr iX8_farOf_116 flX8_23 rfl rfl ?_
              refine r_ldn iX8_farOf_119 rfl ?_
              refine r_ial iX8_farOf_120 rfl (by omega) ?_
              refine r_add iX8_farOf_121 ?_
              refine r_goto iX8_farOf_122 ?_
              try simp only [mset_s, mset_n, fset_s, ne_eq, Nat.reduceEqDiff, not_false_eq_true]
              refine r_ias iX8_farOf_132 rfl (by omega) ?_
              simp only [mset_mset, mset_s]
              have e1 : fset f (M 1 (2 * i)) (f (M 1 (2 * i + 1)) + M 4 i) = rlx f (M 1 (2 * i + 1)) (M 1 (2 * i)) (M 4 i) := by
                unfold rlx
                rw [if_pos h105]
              rw [e1]
              obtain ⟨f1, hf1⟩ : ∃ f1, f1 = rlx f (M 1 (2 * i + 1)) (M 1 (2 * i)) (M 4 i) := ⟨_, rfl⟩
              rw [← hf1] at hb2 ⊢
              have ca := hb2 (M 1 (2 * i)) (by omega) (by omega)
              have cb := hb2 (M 1 (2 * i + 1)) (by omega) (by omega)
              refine r_aldn iX8_farOf_133 rfl ?_
              refine r_getr iX8_farOf_134 flX8_80 rfl rfl ?_
              refine r_ld iX8_farOf_137 rfl ?_
              refine r_aldn iX8_farOf_139 rfl ?_
              refine r_getr iX8_farOf_140 flX8_80 rfl rfl ?_
              refine r_ld iX8_farOf_143 rfl ?_
              refine r_ial iX8_farOf_145 rfl (by omega) ?_
              refine r_aldn iX8_farOf_146 rfl ?_
              refine r_getr iX8_farOf_147 flX8_23 rfl rfl ?_
              refine r_ldn iX8_farOf_150 rfl ?_
              refine r_ial iX8_farOf_151 rfl (by omega) ?_
              refine r_add iX8_farOf_152 ?_
              refine r_aldn iX8_farOf_153 rfl ?_
              refine r_getr iX8_farOf_154 flX8_80 rfl rfl ?_
              refine r_ld iX8_farOf_157 rfl ?_
              refine r_ial iX8_farOf_159 rfl (by omega) ?_
              try simp only [mset_s, mset_n, fset_s, ne_eq, Nat.reduceEqDiff, not_false_eq_true]
              refine r_cge iX8_farOf_160 (by omega) (fun h160 => ?_) (fun h160 => ?_)
              · refine r_aldn iX8_farOf_180 rfl ?_
                refine r_getr iX8_farOf_181 flX8_80 rfl rfl ?_
                refine r_ld iX8_farOf_184 rfl ?_
                refine r_ial iX8_farOf_186 rfl (by omega) ?_
                try simp only [mset_s, mset_n, fset_s, ne_eq, Nat.reduceEqDiff, not_false_eq_true]
                refine r_ias iX8_farOf_187 rfl (by omega) ?_
                simp only [mset_mset, mset_s]
                have e2 : fset f1 (M 1 (2 * i + 1)) (f1 (M 1 (2 * i + 1))) = rlx f1 (M 1 (2 * i)) (M 1 (2 * i + 1)) (M 4 i) := by
                  unfold rlx
                  rw [if_neg (by omega), fset_self]
                rw [e2]
                refine r_inc iX8_farOf_188 rfl (by decide) rfl ?_
                refine r_goto iX8_farOf_191 ?_
                exact ih2 (i + 1) _ _ _ (by omega) (by omega) hq0 (by rw [rdG_1 h0i, ← hf, hf1]; rfl) (by omega)
              · refine r_aldn iX8_farOf_163 rfl ?_
                refine r_getr iX8_farOf_164 flX8_80 rfl rfl ?_
                refine r_ld iX8_farOf_167 rfl ?_
                refine r_ial iX8_farOf_169 rfl (by omega) ?_
                refine r_aldn iX8_farOf_170 rfl ?_
                refine r_getr iX8_farOf_171 flX8_23 rfl rfl ?_
                refine r_ldn iX8_farOf_174 rfl ?_
                refine r_ial iX8_farOf_175 rfl (by omega) ?_
                refine r_add iX8_farOf_176 ?_
                refine r_goto iX8_farOf_177 ?_
                try simp only [mset_s, mset_n, fset_s, ne_eq, Nat.reduceEqDiff, not_false_eq_true]
                refine r_ias iX8_farOf_187 rfl (by omega) ?_
                simp only [mset_mset, mset_s]
                have e2 : fset f1 (M 1 (2 * i + 1)) (f1 (M 1 (2 * i)) + M 4 i) = rlx f1 (M 1 (2 * i)) (M 1 (2 * i + 1)) (M 4 i) := by
                  unfold rlx
                  rw [if_pos h160]
                rw [e2]
                refine r_inc iX8_farOf_188 rfl (by decide) rfl ?_
                refine r_goto iX8_farOf_191 ?_
                exact ih2 (i + 1) _ _ _ (by omega) (by omega) hq0 (by rw [rdG_1 h0i, ← hf, hf1]; rfl) (by omega)
      refine r_ldn iX8_farOf_38 rfl ?_
      refine r_aldn iX8_farOf_39 rfl ?_
      refine r_geti 0 iX8_farOf_40 flX8_7 rfl rfl rfl rfl ?_
      try simp only [mset_s, mset_n, fset_s, ne_eq, Nat.reduceEqDiff, not_false_eq_true]
      refine r_cge iX8_farOf_43 (by omega) (fun h43 => ?_) (fun h43 => ?_)
      · refine r_aldn iX8_farOf_200 rfl ?_
        refine r_getr iX8_farOf_201 flX8_80 rfl rfl ?_
        refine r_aldn iX8_farOf_204 rfl ?_
        refine r_getr iX8_farOf_205 flX8_32 rfl rfl ?_
        refine r_ldn iX8_farOf_208 rfl ?_
        refine r_ial iX8_farOf_209 rfl (by omega) ?_
        refine r_ial iX8_farOf_210 rfl (by show 0 ≤ M 7 l ∧ M 7 l < _; omega) ?_
        refine r_iret iX8_farOf_211 rfl ?_
        have e1 : q = M 0 0 := by omega
        rw [e1] at hfq
        rw [hfq]
        exact ⟨rfl, rfl⟩
      · refine r_con iX8_farOf_46 ?_
        refine r_stn iX8_farOf_47 (by decide) rfl ?_
        exact I 21 0 f _ _ (by omega) (by omega) (by omega) (by rw [hfq]; rfl) (by omega)
  have L1 : ∀ (n9 : Nat) (i : Int), (0 ≤ i) → (i ≤ 9) → 9 - i < n9 → R LyM g mX8_farOf (d) 2 [some (vr 0), some (vi l), some (vi i), none, none, none] [] (mset M 23 (ini (M 23) (dsG (M 6 l)) i)) (PI ((itG (aM M) (bM M) (M 4) (M 0 1) (ini (M 23) (dsG (M 6 l)) 9) (M 0 0).toNat) (M 7 l)) (mset M 23 (itG (aM M) (bM M) (M 4) (M 0 1) (ini (M 23) (dsG (M 6 l)) 9) (M 0 0).toNat))) := by
    intro n9
    induction n9 with
    | zero =>
      intro i h0 h1 hm9
      omega
    | succ n9 ih =>
      intro i h0 h1 hm9
      refine r_ldn iX8_farOf_2 rfl ?_
      refine r_bip iX8_farOf_3 (by decide) ?_
      refine r_cge iX8_farOf_5 (by omega) (fun h5 => ?_) (fun h5 => ?_)
      · refine r_con iX8_farOf_36 ?_
        refine r_stn iX8_farOf_37 (by decide) rfl ?_
        rw [show i = 9 by omega]
        exact L2 10 0 _ _ _ _ (by omega) (by omega) rfl (by omega)
      · refine r_aldn iX8_farOf_8 rfl ?_
        refine r_getr iX8_farOf_9 flX8_80 rfl rfl ?_
        refine r_ldn iX8_farOf_12 rfl ?_
        refine r_ldn iX8_farOf_13 rfl ?_
        refine r_aldn iX8_farOf_14 rfl ?_
        refine r_getr iX8_farOf_15 flX8_29 rfl rfl ?_
        refine r_ldn iX8_farOf_18 rfl ?_
        try simp only [mset_s, mset_n, fset_s, ne_eq, Nat.reduceEqDiff, not_false_eq_true]
        refine r_ial iX8_farOf_19 rfl (by omega) ?_
        try simp only [mset_s, mset_n, fset_s, ne_eq, Nat.reduceEqDiff, not_false_eq_true]
        refine r_cne iX8_farOf_20 (by omega) (fun h20 => ?_) (fun h20 => ?_)
        · refine r_ldc (n := 1000000) iX8_farOf_27 cnX8_160 (by decide) ?_
          refine r_ias iX8_farOf_29 rfl (by omega) ?_
          refine r_inc iX8_farOf_30 rfl (by decide) rfl ?_
          refine r_goto iX8_farOf_33 ?_
          have e1 := ini_1 (f := M 23) (v := dsG (M 6 l)) h0
          have e2 : dsG (M 6 l) i = 1000000 := if_neg h20
          rw [e2] at e1
          simp only [mset_s, mset_mset]
          rw [e1]
          exact ih (i + 1) (by omega) (by omega) (by omega)
        · refine r_con iX8_farOf_23 ?_
          refine r_goto iX8_farOf_24 ?_
          refine r_ias iX8_farOf_29 rfl (by omega) ?_
          refine r_inc iX8_farOf_30 rfl (by decide) rfl ?_
          refine r_goto iX8_farOf_33 ?_
          have e1 := ini_1 (f := M 23) (v := dsG (M 6 l)) h0
          have e2 : dsG (M 6 l) i = 0 := if_pos h20
          rw [e2] at e1
          simp only [mset_s, mset_mset]
          rw [e1]
          exact ih (i + 1) (by omega) (by omega) (by omega)
  refine r_con iX8_farOf_0 ?_
  refine r_stn iX8_farOf_1 (by decide) rfl ?_
  have L0 := L1 10 0 (by omega) (by omega) (by omega)
  rw [ini_0, mset_eq rfl] at L0
  exact L0
theorem sX8_barred_x (d : Nat) (D : Int → Int) (hD : ∀ f l, 0 ≤ l → l < M 0 6 → itG (aM M) (bM M) (M 4) (M 0 1) (ini f (dsG (M 6 l)) 9) (M 0 0).toNat (M 7 l) = D l) (lx : Int) (hx : 0 ≤ lx ∧ lx < M 0 6) (hfar : D lx = 1000000) (hDb : ∀ l, 0 ≤ l → l < M 0 6 → 0 ≤ D l ∧ D l ≤ 1000000) (hN : NBm M) : Ex LyM g (d + 1) mX8_barred [vr 0] M (fun r M' => r = some (vi (-2)) ∧ ∃ f, M' = mset M 23 f) := by
  refine Ex.in [some (vr 0), none, none] (by decide +kernel) rfl (Nat.le_of_ble_eq_true rfl) ?_ rfl
  obtain ⟨hp0, hr, hl, hR, hL⟩ := id hN
  have L1 : ∀ (n9 : Nat) (i a : Int) (f : Int → Int), (0 ≤ i) → (i ≤ M 0 6) → (a = sg (fun l => M 8 l * D l) i) → (i ≤ lx) → M 0 6 - i < n9 → R LyM g mX8_barred (d + 1) 4 [some (vr 0), some (vi a), some (vi i)] [] (mset M 23 f) (fun r M' => r = some (vi (-2)) ∧ ∃ f, M' = mset M 23 f) := by
    intro n9
    induction n9 with
    | zero =>
      intro i a f h0 h1 ha hil hm9
      omega
    | succ n9 ih =>
      intro i a f h0 h1 ha hil hm9
      refine r_ldn iX8_barred_4 rfl ?_
      refine r_aldn iX8_barred_5 rfl ?_
      refine r_geti 6 iX8_barred_6 flX8_100 rfl rfl rfl rfl ?_
      try simp only [mset_s, mset_n, fset_s, ne_eq, Nat.reduceEqDiff, not_false_eq_true]
      refine r_cge iX8_barred_9 (by omega) (fun h9 => ?_) (fun h9 => ?_)
      · exfalso; omega
      · have hdi := hDb i h0 (by omega)
        have hli := hL i h0 (by omega)
        have e1 := hD f i h0 (by omega)
        refine r_aldn iX8_barred_12 rfl ?_
        refine r_ldn iX8_barred_13 rfl ?_
        refine call_V1i iX8_barred_14 clX8_157 myX8_farOf rfl rfl rfl rfl (sX8_farOf (M := mset M 23 f) _ _ (by exact ⟨h0, h9⟩) hN) ?_
        simp only [mset_s, show aM (mset M 23 f) = aM M from rfl, show bM (mset M 23 f) = bM M from rfl, show (mset M 23 f) 0 = M 0 from rfl, show (mset M 23 f) 4 = M 4 from rfl, show (mset M 23 f) 6 = M 6 from rfl, show (mset M 23 f) 7 = M 7 from rfl, e1]
        refine r_ldc (n := 1000000) iX8_barred_17 cnX8_160 (by decide) ?_
        refine r_cne iX8_barred_19 (by omega) (fun h19 => ?_) (fun h19 => ?_)
        · simp only [mset_s, mset_mset]
          obtain ⟨f2, hf2⟩ : ∃ f2, f2 = itG (aM M) (bM M) (M 4) (M 0 1) (ini f (dsG (M 6 i)) 9) (M 0 0).toNat := ⟨_, rfl⟩
          rw [← hf2]
          have e2 := hD f2 i h0 (by omega)
          refine r_ldn iX8_barred_25 rfl ?_
          refine r_aldn iX8_barred_26 rfl ?_
          refine r_getr iX8_barred_27 flX8_35 rfl rfl ?_
          refine r_ldn iX8_barred_30 rfl ?_
          refine r_ial iX8_barred_31 rfl (by omega) ?_
          refine r_aldn iX8_barred_32 rfl ?_
          refine r_ldn iX8_barred_33 rfl ?_
          refine call_V1i iX8_barred_34 clX8_157 myX8_farOf rfl rfl rfl rfl (sX8_farOf (M := mset M 23 f2) _ _ (by exact ⟨h0, h9⟩) hN) ?_
          simp only [mset_s, mset_mset, mset_n, ne_eq, Nat.reduceEqDiff, not_false_eq_true, show aM (mset M 23 f2) = aM M from rfl, show bM (mset M 23 f2) = bM M from rfl, e2]
          refine r_mul iX8_barred_37 ?_
          refine r_add iX8_barred_38 ?_
          refine r_stn iX8_barred_39 (by decide) rfl ?_
          refine r_inc iX8_barred_40 rfl (by decide) rfl ?_
          refine r_goto iX8_barred_43 ?_
          exact ih (i + 1) _ _ (by omega) (by omega) (by rw [sg_1 h0, ha]) (by rcases Int.lt_or_eq_of_le hil with q | q; omega; rw [q] at h19; exact absurd hfar h19) (by omega)
        · refine r_bip iX8_barred_22 (by decide) ?_
          refine r_iret iX8_barred_24 rfl ?_
          exact ⟨rfl, _, by rw [mset_mset]⟩
  refine r_con iX8_barred_0 ?_
  refine r_stn iX8_barred_1 (by decide) rfl ?_
  refine r_con iX8_barred_2 ?_
  refine r_stn iX8_barred_3 (by decide) rfl ?_
  have L0 := L1 6 0 0 (M 23) (by omega) (by omega) rfl (by omega) (by omega)
  rw [mset_eq rfl] at L0
  exact L0
theorem sX8_barred_o (d : Nat) (D : Int → Int) (hD : ∀ f l, 0 ≤ l → l < M 0 6 → itG (aM M) (bM M) (M 4) (M 0 1) (ini f (dsG (M 6 l)) 9) (M 0 0).toNat (M 7 l) = D l) (hfar : ∀ l, 0 ≤ l → l < M 0 6 → D l ≠ 1000000) (hDb : ∀ l, 0 ≤ l → l < M 0 6 → 0 ≤ D l ∧ D l ≤ 1000000) (hN : NBm M) : Ex LyM g (d + 1) mX8_barred [vr 0] M (fun r M' => r = some (vi (if 0 < sg (fun l => M 8 l * D l) (M 0 6) - sg (fun r => M 2 r * M 4 r) (M 0 1) then sg (fun l => M 8 l * D l) (M 0 6) - sg (fun r => M 2 r * M 4 r) (M 0 1) else 0)) ∧ ∃ f, M' = mset M 23 f) := by
  refine Ex.in [some (vr 0), none, none] (by decide +kernel) rfl (Nat.le_of_ble_eq_true rfl) ?_ rfl
  obtain ⟨hp0, hr, hl, hR, hL⟩ := id hN
  have L2 : ∀ (n9 : Nat) (i a : Int) (f : Int → Int), (0 ≤ i) → (i ≤ M 0 1) → (a = sg (fun l => M 8 l * D l) (M 0 6) - sg (fun r => M 2 r * M 4 r) i) → M 0 1 - i < n9 → R LyM g mX8_barred (d + 1) 48 [some (vr 0), some (vi a), some (vi i)] [] (mset M 23 f) (fun r M' => r = some (vi (if 0 < sg (fun l => M 8 l * D l) (M 0 6) - sg (fun r => M 2 r * M 4 r) (M 0 1) then sg (fun l => M 8 l * D l) (M 0 6) - sg (fun r => M 2 r * M 4 r) (M 0 1) else 0)) ∧ ∃ f, M' = mset M 23 f) := by
    intro n9
    induction n9 with
    | zero =>
      intro i a f h0 h1 ha hm9
      omega
    | succ n9 ih =>
      intro i a f h0 h1 ha hm9
      have hsb := sg_bd (f := fun l => M 8 l * D l) (lo := 0) (hi := 100000000) hl.1 (fun i h0 h1 => by have q1 := hL i h0 h1; have q2 := hDb i h0 h1; exact ⟨Int.mul_nonneg (by omega) q2.1, Int.le_trans (Int.mul_le_mul q1.2.2.2.2.2 q2.2 q2.1 (by omega)) (by omega)⟩)
      have hrb := sg_bd (f := fun r => M 2 r * M 4 r) (lo := 0) (hi := 2000) h0 (fun j h2 h3 => by have q1 := hR j h2 (by omega); exact ⟨Int.mul_nonneg q1.2.1.1 q1.2.2.2.1, Int.le_trans (Int.mul_le_mul q1.2.1.2 q1.2.2.2.2 q1.2.2.2.1 (by omega)) (by omega)⟩)
      refine r_ldn iX8_barred_48 rfl ?_
      refine r_aldn iX8_barred_49 rfl ?_
      refine r_geti 1 iX8_barred_50 flX8_97 rfl rfl rfl rfl ?_
      try simp only [mset_s, mset_n, fset_s, ne_eq, Nat.reduceEqDiff, not_false_eq_true]
      refine r_cge iX8_barred_53 (by omega) (fun h53 => ?_) (fun h53 => ?_)
      · refine r_ldn iX8_barred_78 rfl ?_
        refine r_ifle iX8_barred_79 (by omega) (fun h79 => ?_) (fun h79 => ?_)
        · refine r_con iX8_barred_86 ?_
          refine r_iret iX8_barred_87 rfl ?_
          rw [show i = M 0 1 by omega] at ha
          exact ⟨by rw [← ha, if_neg (by omega)], f, rfl⟩
        · refine r_ldn iX8_barred_82 rfl ?_
          refine r_goto iX8_barred_83 ?_
          refine r_iret iX8_barred_87 rfl ?_
          rw [show i = M 0 1 by omega] at ha
          exact ⟨by rw [← ha, if_pos h79], f, rfl⟩
      · refine r_ldn iX8_barred_56 rfl ?_
        refine r_aldn iX8_barred_57 rfl ?_
        refine r_getr iX8_barred_58 flX8_17 rfl rfl ?_
        refine r_ldn iX8_barred_61 rfl ?_
        refine r_ial iX8_barred_62 rfl (by omega) ?_
        refine r_aldn iX8_barred_63 rfl ?_
        refine r_getr iX8_barred_64 flX8_23 rfl rfl ?_
        refine r_ldn iX8_barred_67 rfl ?_
        refine r_ial iX8_barred_68 rfl (by omega) ?_
        refine r_mul iX8_barred_69 ?_
        try simp only [mset_s, mset_n, fset_s, ne_eq, Nat.reduceEqDiff, not_false_eq_true]
        refine r_sub iX8_barred_70 ?_
        refine r_stn iX8_barred_71 (by decide) rfl ?_
        refine r_inc iX8_barred_72 rfl (by decide) rfl ?_
        refine r_goto iX8_barred_75 ?_
        exact ih (i + 1) _ f (by omega) (by omega) (by rw [sg_1 h0, ha, Int.sub_sub]) (by omega)
  have L1 : ∀ (n9 : Nat) (i a : Int) (f : Int → Int), (0 ≤ i) → (i ≤ M 0 6) → (a = sg (fun l => M 8 l * D l) i) → M 0 6 - i < n9 → R LyM g mX8_barred (d + 1) 4 [some (vr 0), some (vi a), some (vi i)] [] (mset M 23 f) (fun r M' => r = some (vi (if 0 < sg (fun l => M 8 l * D l) (M 0 6) - sg (fun r => M 2 r * M 4 r) (M 0 1) then sg (fun l => M 8 l * D l) (M 0 6) - sg (fun r => M 2 r * M 4 r) (M 0 1) else 0)) ∧ ∃ f, M' = mset M 23 f) := by
    intro n9
    induction n9 with
    | zero =>
      intro i a f h0 h1 ha hm9
      omega
    | succ n9 ih =>
      intro i a f h0 h1 ha hm9
      refine r_ldn iX8_barred_4 rfl ?_
      refine r_aldn iX8_barred_5 rfl ?_
      refine r_geti 6 iX8_barred_6 flX8_100 rfl rfl rfl rfl ?_
      try simp only [mset_s, mset_n, fset_s, ne_eq, Nat.reduceEqDiff, not_false_eq_true]
      refine r_cge iX8_barred_9 (by omega) (fun h9 => ?_) (fun h9 => ?_)
      · refine r_con iX8_barred_46 ?_
        refine r_stn iX8_barred_47 (by decide) rfl ?_
        exact L2 21 0 a f (by omega) (by omega) (by rw [ha, show i = M 0 6 by omega, sg_0, Int.sub_zero]) (by omega)
      · have hdi := hDb i h0 (by omega)
        have hli := hL i h0 (by omega)
        have e1 := hD f i h0 (by omega)
        refine r_aldn iX8_barred_12 rfl ?_
        refine r_ldn iX8_barred_13 rfl ?_
        refine call_V1i iX8_barred_14 clX8_157 myX8_farOf rfl rfl rfl rfl (sX8_farOf (M := mset M 23 f) _ _ (by exact ⟨h0, h9⟩) hN) ?_
        simp only [mset_s, show aM (mset M 23 f) = aM M from rfl, show bM (mset M 23 f) = bM M from rfl, show (mset M 23 f) 0 = M 0 from rfl, show (mset M 23 f) 4 = M 4 from rfl, show (mset M 23 f) 6 = M 6 from rfl, show (mset M 23 f) 7 = M 7 from rfl, e1]
        refine r_ldc (n := 1000000) iX8_barred_17 cnX8_160 (by decide) ?_
        refine r_cne iX8_barred_19 (by omega) (fun h19 => ?_) (fun h19 => ?_)
        · simp only [mset_s, mset_mset]
          obtain ⟨f2, hf2⟩ : ∃ f2, f2 = itG (aM M) (bM M) (M 4) (M 0 1) (ini f (dsG (M 6 i)) 9) (M 0 0).toNat := ⟨_, rfl⟩
          rw [← hf2]
          have e2 := hD f2 i h0 (by omega)
          refine r_ldn iX8_barred_25 rfl ?_
          refine r_aldn iX8_barred_26 rfl ?_
          refine r_getr iX8_barred_27 flX8_35 rfl rfl ?_
          refine r_ldn iX8_barred_30 rfl ?_
          refine r_ial iX8_barred_31 rfl (by omega) ?_
          refine r_aldn iX8_barred_32 rfl ?_
          refine r_ldn iX8_barred_33 rfl ?_
          refine call_V1i iX8_barred_34 clX8_157 myX8_farOf rfl rfl rfl rfl (sX8_farOf (M := mset M 23 f2) _ _ (by exact ⟨h0, h9⟩) hN) ?_
          simp only [mset_s, mset_mset, mset_n, ne_eq, Nat.reduceEqDiff, not_false_eq_true, show aM (mset M 23 f2) = aM M from rfl, show bM (mset M 23 f2) = bM M from rfl, e2]
          refine r_mul iX8_barred_37 ?_
          refine r_add iX8_barred_38 ?_
          refine r_stn iX8_barred_39 (by decide) rfl ?_
          refine r_inc iX8_barred_40 rfl (by decide) rfl ?_
          refine r_goto iX8_barred_43 ?_
          exact ih (i + 1) _ _ (by omega) (by omega) (by rw [sg_1 h0, ha]) (by omega)
        · refine r_bip iX8_barred_22 (by decide) ?_
          refine r_iret iX8_barred_24 rfl ?_
          exact absurd h19 (hfar i h0 (by omega))
  refine r_con iX8_barred_0 ?_
  refine r_stn iX8_barred_1 (by decide) rfl ?_
  refine r_con iX8_barred_2 ?_
  refine r_stn iX8_barred_3 (by decide) rfl ?_
  have L0 := L1 6 0 0 (M 23) (by omega) (by omega) rfl (by omega)
  rw [mset_eq rfl] at L0
  exact L0
end RE
