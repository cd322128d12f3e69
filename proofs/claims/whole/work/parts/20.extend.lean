/-! the search for ways -/
theorem Fr.mono {l e e' : Int} {M M' : Mem} (h : Fr l e' M M') (he : e ≤ e') : Fr l e M M' := ⟨h.1, h.2.1, h.2.2.1, h.2.2.2.1, fun j hj => h.2.2.2.2 j (by omega)⟩
theorem nxt_rng {M : Mem} (hN : NB M) {r p : Int} (h0 : 0 ≤ r) (h1 : r < M 1 1) : nxt (M 2) (M 3) r p = -1 ∨ (0 ≤ nxt (M 2) (M 3) r p ∧ nxt (M 2) (M 3) r p < M 1 0) := by
  have := (hN.2.2.2.1 r h0 h1).1
  unfold nxt
  split
  · omega
  · split
    · omega
    · exact Or.inl rfl
theorem stp_e {rc : Nat} {a b : Int → Int} {t : Int} {k : Nat} {p : Int} {seen : List Int} {r : Int} (h : nxt a b r p < 0 ∨ nxt a b r p ∈ seen ∨ pth rc a b t k (nxt a b r p) (nxt a b r p :: seen) = []) : stp rc a b t k p seen r = [] := by
  unfold stp
  by_cases h1 : nxt a b r p < 0 ∨ nxt a b r p ∈ seen
  · rw [if_pos h1]
  · rw [if_neg h1]
    rcases h with h | h | h
    · exact absurd (Or.inl h) h1
    · exact absurd (Or.inr h) h1
    · rw [h]; rfl
theorem stp_g {rc : Nat} {a b : Int → Int} {t : Int} {k : Nat} {p : Int} {seen : List Int} {r : Int} (h1 : ¬ nxt a b r p < 0) (h2 : nxt a b r p ∉ seen) : stp rc a b t k p seen r = (pth rc a b t k (nxt a b r p) (nxt a b r p :: seen)).map (fun w => r :: w) := by
  unfold stp
  rw [if_neg (fun z => z.elim h1 h2)]
theorem fl_1i {rc : Nat} {a b : Int → Int} {t : Int} {k : Nat} {p : Int} {seen : List Int} {i : Int} (h : 0 ≤ i) : fl rc a b t k p seen (i + 1).toNat = fl rc a b t k p seen i.toNat ++ stp rc a b t k p seen i := by
  rw [show (i + 1).toNat = i.toNat + 1 by omega, fl_1, show ((i.toNat : Nat) : Int) = i by omega]
section LM
variable {g : Gt}
theorem sX6_extend : ∀ (rem d : Nat) (M : Mem) (l p sm e n : Int) (seen pre : List Int) (L : List (List Int)), NB M → (0 ≤ l ∧ l < M 1 2) → (0 ≤ p ∧ p < M 1 0) → e = pre.length → n = e + rem → n ≤ 8 → n < M 1 0 → (0 ≤ sm ∧ sm < 512) → (∀ v, 0 ≤ v → v < 9 → (bt sm v = 0 ↔ v ∉ seen)) → (∀ (k : Nat) (r : Int), pre[k]? = some r → M 36 k = r ∧ 0 ≤ r ∧ r < 20) → (∀ (v : Int) (k : Nat) (s : List Int), 0 ≤ v → v < M 1 0 → (k : Int) < M 1 0 → pth (M 1 1).toNat (M 2) (M 3) (M 9 l) k v s ≠ [] → M 34 v ≤ k) → (∀ v, 0 ≤ v → v < 9 → 0 ≤ M 34 v ∧ M 34 v ≤ 1000000) → Wst M l L → L.length < 8 → Ex LyC g (d + 2 + rem) mX6_extend [vr 27, vr 1, vi l, vi p, vi sm, vi e, vi n] M (fun r M' => r = none ∧ Wst M' l ((L ++ (pth (M 1 1).toNat (M 2) (M 3) (M 9 l) rem p seen).map (fun w => pre ++ w)).take 8) ∧ Fr l e M M') := by
  intro rem
  induction rem with
  | zero =>
    intro d M l p sm e n seen pre L hN h0l hp he hn hn8 hnp hsm hseen hpre hD hDb hW hL8
    refine Ex.in [some (vr 27), some (vr 1), some (vi l), some (vi p), some (vi sm), some (vi e), some (vi n), none, none] (by decide +kernel) rfl (Nat.le_of_ble_eq_true rfl) ?_ rfl
    obtain ⟨hp0, hr, hl, hR, hL⟩ := id hN
    have hll := hL l h0l.1 h0l.2
    have ht : ∀ k, 0 ≤ k → k < n → 0 ≤ M 36 k ∧ M 36 k < 20 := by
      intro k h2 h3
      have h4 : pre[k.toNat]? = some (pre[k.toNat]'(by omega)) := List.getElem?_eq_getElem (by omega)
      have h5 := hpre _ _ h4
      rw [show ((k.toNat : Nat) : Int) = k by omega] at h5
      omega
    refine r_ldn iX6_extend_0 rfl ?_
    refine r_aldn iX6_extend_1 rfl ?_
    refine r_getr iX6_extend_2 flX6_69 rfl rfl ?_
    refine r_ldn iX6_extend_5 rfl ?_
    refine r_ial iX6_extend_6 rfl (by omega) ?_
    refine r_cne iX6_extend_7 (by omega) (fun h7 => ?_) (fun h7 => ?_)
    · refine r_ld iX6_extend_25 rfl ?_
      refine r_ld iX6_extend_27 rfl ?_
      refine r_cge iX6_extend_29 (by omega) (fun h29 => ?_) (fun h29 => ?_)
      · refine r_vret iX6_extend_39 rfl ?_
        have e1 : pth (M 1 1).toNat (M 2) (M 3) (M 9 l) 0 p seen = [] := by unfold pth; rw [if_neg h7]
        exact ⟨rfl, by rw [e1, List.map_nil, List.append_nil, List.take_of_length_le (by omega)]; exact hW, Fr.rf _ _ _⟩
      · omega
    · refine r_ld iX6_extend_10 rfl ?_
      refine r_ld iX6_extend_12 rfl ?_
      refine r_cne iX6_extend_14 (by omega) (fun h14 => ?_) (fun h14 => ?_)
      · refine r_vret iX6_extend_24 rfl ?_
        omega
      · refine r_aldn iX6_extend_17 rfl ?_
        refine r_ldn iX6_extend_18 rfl ?_
        refine r_ld iX6_extend_19 rfl ?_
        refine call_V2v iX6_extend_21 clX6_87 myX6_note rfl rfl rfl rfl (sX6_note _ _ _ (by omega) (by have := hW.1; omega) (by omega) ht) ?_
        refine r_vret iX6_extend_24 rfl ?_
        have e1 : pth (M 1 1).toNat (M 2) (M 3) (M 9 l) 0 p seen = [[]] := by unfold pth; rw [if_pos h7]
        have e2 : n = (pre.length : Int) := by omega
        rw [e2]
        obtain ⟨q1, q2⟩ := hW.note hL8 (fun k r h => (hpre k r h).1) (by omega)
        refine ⟨rfl, ?_, q2.mono (by omega)⟩
        rw [e1]
        rw [List.take_of_length_le (by simp; omega)]
        simpa using q1
  | succ rem ihr =>
    intro d M l p sm e n seen pre L hN h0l hp he hn hn8 hnp hsm hseen hpre hD hDb hW hL8
    refine Ex.in [some (vr 27), some (vr 1), some (vi l), some (vi p), some (vi sm), some (vi e), some (vi n), none, none] (by decide +kernel) rfl (Nat.le_of_ble_eq_true rfl) ?_ rfl
    obtain ⟨hp0, hr, hl, hR, hL⟩ := id hN
    have hll := hL l h0l.1 h0l.2
    have L : ∀ (n9 : Nat) (r : Int) (M1 : Mem) (w8 : Option MV), (0 ≤ r) → (r ≤ M 1 1) → (Fr l e M M1) → (Wst M1 l ((L ++ (fl (M 1 1).toNat (M 2) (M 3) (M 9 l) rem p seen r.toNat).map (fun w => pre ++ w)).take 8)) → (p ≠ M 9 l) → M 1 1 - r < n9 → R LyC g mX6_extend (d + 2 + (rem + 1)) 43 [some (vr 27), some (vr 1), some (vi l), some (vi p), some (vi sm), some (vi e), some (vi n), some (vi r), w8] [] M1 (fun r M' => r = none ∧ Wst M' l ((L ++ (pth (M 1 1).toNat (M 2) (M 3) (M 9 l) (rem + 1) p seen).map (fun w => pre ++ w)).take 8) ∧ Fr l e M M') := by
      intro n9
      induction n9 with
      | zero =>
        intro r M1 w8 h0 h1 hF hW1 hpt hm9
        omega
      | succ n9 ih =>
        intro r M1 w8 h0 h1 hF hW1 hpt hm9
        have f1 : M1 1 = M 1 := hF.1 1 (by decide) (by decide) (by decide) (by decide) (by decide)
        have f2 : M1 2 = M 2 := hF.1 2 (by decide) (by decide) (by decide) (by decide) (by decide)
        have f3 : M1 3 = M 3 := hF.1 3 (by decide) (by decide) (by decide) (by decide) (by decide)
        have f9 : M1 9 = M 9 := hF.1 9 (by decide) (by decide) (by decide) (by decide) (by decide)
        have f34 : M1 34 = M 34 := hF.1 34 (by decide) (by decide) (by decide) (by decide) (by decide)
        have hN1 : NB M1 := by
          have key : ∀ k : Nat, k < 11 → M1 k = M k := fun k hk => hF.1 k (by omega) (by omega) (by omega) (by omega) (by omega)
          unfold NB
          rw [key 1 (by decide), key 2 (by decide), key 3 (by decide), key 4 (by decide), key 5 (by decide), key 6 (by decide), key 7 (by decide), key 8 (by decide), key 9 (by decide), key 10 (by decide)]
          exact hN
        refine r_ld iX6_extend_43 rfl ?_
        refine r_aldn iX6_extend_45 rfl ?_
        refine r_geti 1 iX6_extend_46 flX6_91 rfl rfl rfl rfl ?_
        simp only [f1]
        refine r_cge iX6_extend_49 (by omega) (fun h49 => ?_) (fun h49 => ?_)
        · refine r_vret iX6_extend_144 rfl ?_
          have e1 : r = M 1 1 := by omega
          rw [e1] at hW1
          refine ⟨rfl, ?_, hF⟩
          rw [pth_1 hpt]
          exact hW1
        · refine r_aldn iX6_extend_52 rfl ?_
          refine r_getr iX6_extend_53 flX6_9 rfl rfl ?_
          refine r_ldn iX6_extend_56 rfl ?_
          refine r_ial iX6_extend_57 rfl (by omega) ?_
          refine r_bip iX6_extend_58 (by decide) ?_
          have hc1 := hW1.1
          have hc9 : ((L ++ (fl (M 1 1).toNat (M 2) (M 3) (M 9 l) rem p seen r.toNat).map (fun w => pre ++ w)).take 8).length ≤ 8 := by rw [List.length_take]; omega
          refine r_cge iX6_extend_60 (by omega) (fun h60 => ?_) (fun h60 => ?_)
          · refine r_vret iX6_extend_144 rfl ?_
            obtain ⟨B, hB⟩ := fl_le (rc := (M 1 1).toNat) (a := M 2) (b := M 3) (t := M 9 l) (k := rem) (p := p) (seen := seen) (n := r.toNat) (m := (M 1 1).toNat) (by omega)
            have hlen : ((L ++ (fl (M 1 1).toNat (M 2) (M 3) (M 9 l) rem p seen r.toNat).map (fun w => pre ++ w)).take 8).length = 8 := by omega
            refine ⟨rfl, ?_, hF⟩
            rw [pth_1 hpt, hB, List.map_append, ← List.append_assoc, take_full hlen]
            exact hW1
          · have hlen : ((L ++ (fl (M 1 1).toNat (M 2) (M 3) (M 9 l) rem p seen r.toNat).map (fun w => pre ++ w)).take 8).length < 8 := by omega
            have hcur := take_all hlen
            have hW2 := hW1
            rw [hcur] at hW2
            refine r_aldn iX6_extend_63 rfl ?_
            refine r_ld iX6_extend_64 rfl ?_
            refine r_ldn iX6_extend_66 rfl ?_
            refine call_V2i iX6_extend_67 clX6_94 myX3_across rfl rfl rfl rfl (sX3_across (M := M1) _ _ _ (by rw [f1]; omega) (by omega) hN1) ?_
            simp only [f2, f3]
            have hq := nxt_rng hN (p := p) h0 (by omega)
            refine r_st iX6_extend_70 (by decide) rfl ?_
            refine r_ld iX6_extend_72 rfl ?_
            refine r_iflt iX6_extend_74 (by omega) (fun h74 => ?_) (fun h74 => ?_)
            · refine r_inc iX6_extend_138 rfl (by decide) rfl ?_
              refine r_goto iX6_extend_141 ?_
              have e0 : stp (M 1 1).toNat (M 2) (M 3) (M 9 l) rem p seen r = [] := stp_e (Or.inl h74)
              have e1 : fl (M 1 1).toNat (M 2) (M 3) (M 9 l) rem p seen (r + 1).toNat = fl (M 1 1).toNat (M 2) (M 3) (M 9 l) rem p seen r.toNat := by rw [fl_1i h0, e0, List.append_nil]
              exact ih (r + 1) M1 _ (by omega) (by omega) hF (by rw [e1]; exact hW1) hpt (by omega)
            · refine r_ld iX6_extend_77 rfl ?_
              refine r_ld iX6_extend_79 rfl ?_
              refine r_shr iX6_extend_81 (by omega) (by omega) ?_
              refine r_con iX6_extend_82 ?_
              refine r_and1 iX6_extend_83 (dv_rng (by omega)) ?_
              refine r_ifne iX6_extend_84 (by omega) (fun h84 => ?_) (fun h84 => ?_)
              · refine r_inc iX6_extend_138 rfl (by decide) rfl ?_
                refine r_goto iX6_extend_141 ?_
                have e0 : stp (M 1 1).toNat (M 2) (M 3) (M 9 l) rem p seen r = [] := stp_e (Or.inr (Or.inl (Classical.byContradiction (fun z => h84 (by have := (hseen _ h74 (by omega)).mpr z; unfold bt at this; exact this)))))
                have e1 : fl (M 1 1).toNat (M 2) (M 3) (M 9 l) rem p seen (r + 1).toNat = fl (M 1 1).toNat (M 2) (M 3) (M 9 l) rem p seen r.toNat := by rw [fl_1i h0, e0, List.append_nil]
                exact ih (r + 1) M1 _ (by omega) (by omega) hF (by rw [e1]; exact hW1) hpt (by omega)
              · have hns : nxt (M 2) (M 3) r p ∉ seen := (hseen _ h74 (by omega)).mp (by unfold bt; exact h84)
                refine r_aldn iX6_extend_87 rfl ?_
                refine r_getr iX6_extend_88 flX6_31 rfl rfl ?_
                refine r_getr iX6_extend_91 flX6_79 rfl rfl ?_
                refine r_ld iX6_extend_94 rfl ?_
                refine r_ial iX6_extend_96 rfl (by omega) ?_
                simp only [f34]
                have hdb := hDb (nxt (M 2) (M 3) r p) h74 (by omega)
                refine r_ld iX6_extend_97 rfl ?_
                refine r_ld iX6_extend_99 rfl ?_
                refine r_sub iX6_extend_101 ?_
                refine r_clt iX6_extend_102 (by omega) (fun h102 => ?_) (fun h102 => ?_)
                · refine r_aldn iX6_extend_108 rfl ?_
                  refine r_getr iX6_extend_109 flX6_38 rfl rfl ?_
                  refine r_ld iX6_extend_112 rfl ?_
                  refine r_ld iX6_extend_114 rfl ?_
                  refine r_ias iX6_extend_116 rfl (by omega) ?_
                  refine r_aldn iX6_extend_117 rfl ?_
                  refine r_aldn iX6_extend_118 rfl ?_
                  refine r_ldn iX6_extend_119 rfl ?_
                  refine r_ld iX6_extend_120 rfl ?_
                  refine r_ld iX6_extend_122 rfl ?_
                  refine r_con iX6_extend_124 ?_
                  refine r_ld iX6_extend_125 rfl ?_
                  refine r_shl iX6_extend_127 (by omega) ?_
                  refine r_or iX6_extend_128 (by omega) (by have := Int.pow_pos (n := 2) (m := (nxt (M 2) (M 3) r p).toNat) (by decide); omega) ?_
                  refine r_ld iX6_extend_129 rfl ?_
                  refine r_con iX6_extend_131 ?_
                  refine r_add iX6_extend_132 ?_
                  refine r_ld iX6_extend_133 rfl ?_
                  have hor : (0 ≤ (((sm.toNat ||| (2 ^ (nxt (M 2) (M 3) r p).toNat : Int).toNat : Nat)) : Int) ∧ (((sm.toNat ||| (2 ^ (nxt (M 2) (M 3) r p).toNat : Int).toNat : Nat)) : Int) < 512) ∧ ∀ v, 0 ≤ v → v < 9 → (bt (((sm.toNat ||| (2 ^ (nxt (M 2) (M 3) r p).toNat : Int).toNat : Nat)) : Int) v = 0 ↔ v ∉ nxt (M 2) (M 3) r p :: seen) := by
                    refine ⟨?_, fun v h2 h3 => ?_⟩
                    · have := or_lt (m := sm) (r := nxt (M 2) (M 3) r p) (n := 9) (by simpa using hsm) (by omega)
                      simpa using this
                    · rw [or_bt hsm.1 h74 v h2]
                      by_cases e9 : v = nxt (M 2) (M 3) r p
                      · rw [if_pos e9]
                        refine ⟨fun z => by omega, fun z => absurd (by rw [e9]; exact List.mem_cons_self) z⟩
                      · rw [if_neg e9, hseen v h2 h3, List.mem_cons]
                        exact ⟨fun z y => y.elim e9 z, fun z y => z (Or.inr y)⟩
                  have hpr2 : ∀ (k : Nat) (u : Int), (pre ++ [r])[k]? = some u → (mset M1 36 (fset (M1 36) e r)) 36 k = u ∧ 0 ≤ u ∧ u < 20 := by
                    intro k u hk
                    rw [mset_s]
                    by_cases hk2 : k < pre.length
                    · rw [List.getElem?_append_left hk2] at hk
                      have := hpre k u hk
                      rw [fset_n (by omega), hF.2.2.2.2 _ (by omega)]
                      exact this
                    · rw [List.getElem?_append_right (by omega)] at hk
                      have h8 := (List.getElem?_eq_some_iff.mp hk).1
                      simp at h8
                      rw [show k - pre.length = 0 by omega] at hk
                      cases hk
                      rw [show ((k : Nat) : Int) = e by omega, fset_s]
                      omega
                  refine call_S7p iX6_extend_135 clX6_83 myX6_extend rfl (ihr d (mset M1 36 (fset (M1 36) e r)) l (nxt (M 2) (M 3) r p) _ (e + 1) n (nxt (M 2) (M 3) r p :: seen) (pre ++ [r]) (L ++ (fl (M 1 1).toNat (M 2) (M 3) (M 9 l) rem p seen r.toNat).map (fun w => pre ++ w)) hN1 (by show _ ∧ _ < M1 1 2; rw [f1]; exact h0l) (by show _ ∧ _ < M1 1 0; rw [f1]; omega) (by simp; omega) (by omega) hn8 (by show _ < M1 1 0; rw [f1]; exact hnp) hor.1 hor.2 hpr2 (by show ∀ (v : Int) (k : Nat) (s : List Int), 0 ≤ v → v < M1 1 0 → (k : Int) < M1 1 0 → pth (M1 1 1).toNat (M1 2) (M1 3) (M1 9 l) k v s ≠ [] → M1 34 v ≤ k; rw [f1, f2, f3, f9, f34]; exact hD) (by show ∀ v, 0 ≤ v → v < 9 → 0 ≤ M1 34 v ∧ M1 34 v ≤ 1000000; rw [f34]; exact hDb) hW2 (by rw [← hcur]; exact hlen)) (fun r135 M135 h135 => ?_)
                  refine r_inc iX6_extend_138 rfl (by decide) rfl ?_
                  refine r_goto iX6_extend_141 ?_
                  obtain ⟨rfl, q1, q2⟩ := h135
                  refine ih (r + 1) M135 _ (by omega) (by omega) ((hF.tr (Fr.trail M1) (Int.le_refl _)).tr q2 (by omega)) ?_ hpt (by omega)
                  have e1 : fl (M 1 1).toNat (M 2) (M 3) (M 9 l) rem p seen (r + 1).toNat = fl (M 1 1).toNat (M 2) (M 3) (M 9 l) rem p seen r.toNat ++ (pth (M 1 1).toNat (M 2) (M 3) (M 9 l) rem (nxt (M 2) (M 3) r p) (nxt (M 2) (M 3) r p :: seen)).map (fun w => r :: w) := by rw [fl_1i h0, stp_g (by omega) hns]
                  rw [e1, List.map_append, ← List.append_assoc]
                  simp only [mset_n, ne_eq, Nat.reduceEqDiff, not_false_eq_true, f1, f2, f3, f9] at q1
                  simpa [List.map_map, Function.comp_def] using q1
                · refine r_goto iX6_extend_105 ?_
                  refine r_inc iX6_extend_138 rfl (by decide) rfl ?_
                  refine r_goto iX6_extend_141 ?_
                  have e0 : stp (M 1 1).toNat (M 2) (M 3) (M 9 l) rem p seen r = [] := stp_e (Or.inr (Or.inr (Classical.byContradiction (fun z => by have := hD _ rem _ h74 (by omega) (by omega) z; omega))))
                  have e1 : fl (M 1 1).toNat (M 2) (M 3) (M 9 l) rem p seen (r + 1).toNat = fl (M 1 1).toNat (M 2) (M 3) (M 9 l) rem p seen r.toNat := by rw [fl_1i h0, e0, List.append_nil]
                  exact ih (r + 1) M1 _ (by omega) (by omega) hF (by rw [e1]; exact hW1) hpt (by omega)
    refine r_ldn iX6_extend_0 rfl ?_
    refine r_aldn iX6_extend_1 rfl ?_
    refine r_getr iX6_extend_2 flX6_69 rfl rfl ?_
    refine r_ldn iX6_extend_5 rfl ?_
    refine r_ial iX6_extend_6 rfl (by omega) ?_
    refine r_cne iX6_extend_7 (by omega) (fun h7 => ?_) (fun h7 => ?_)
    · refine r_ld iX6_extend_25 rfl ?_
      refine r_ld iX6_extend_27 rfl ?_
      refine r_cge iX6_extend_29 (by omega) (fun h29 => ?_) (fun h29 => ?_)
      · omega
      · refine r_ld iX6_extend_32 rfl ?_
        refine r_bip iX6_extend_34 (by decide) ?_
        refine r_clt iX6_extend_36 (by omega) (fun h36 => ?_) (fun h36 => ?_)
        · refine r_con iX6_extend_40 ?_
          refine r_st iX6_extend_41 (by decide) rfl ?_
          exact L 21 0 M _ (by omega) (by omega) (Fr.rf _ _ _) (by rw [show (0 : Int).toNat = 0 from rfl]; simp only [fl, List.range_zero, List.flatMap_nil, List.map_nil, List.append_nil]; rw [List.take_of_length_le (by omega)]; exact hW) h7 (by omega)
        · omega
    · refine r_ld iX6_extend_10 rfl ?_
      refine r_ld iX6_extend_12 rfl ?_
      refine r_cne iX6_extend_14 (by omega) (fun h14 => ?_) (fun h14 => ?_)
      · refine r_vret iX6_extend_24 rfl ?_
        exact ⟨rfl, by rw [h7, pth_t, List.map_nil, List.append_nil, List.take_of_length_le (by omega)]; exact hW, Fr.rf _ _ _⟩
      · omega
end LM
