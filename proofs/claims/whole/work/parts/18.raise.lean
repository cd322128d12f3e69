/-! raising the shares -/
def m3 (M : Mem) (A B C : Int → Int) : Mem := fun k => if k = 48 then A else if k = 49 then C else if k = 50 then B else M k
theorem m3_48 (M : Mem) (A B C : Int → Int) : m3 M A B C 48 = A := rfl
theorem m3_49 (M : Mem) (A B C : Int → Int) : m3 M A B C 49 = C := rfl
theorem m3_50 (M : Mem) (A B C : Int → Int) : m3 M A B C 50 = B := rfl
theorem m3_o {M : Mem} {A B C : Int → Int} {k : Nat} (h : ¬ k = 48 ∧ ¬ k = 49 ∧ ¬ k = 50) : m3 M A B C k = M k := by simp [m3, h.1, h.2.1, h.2.2]
theorem m3_s48 (M : Mem) (A B C A' : Int → Int) : mset (m3 M A B C) 48 A' = m3 M A' B C := by
  funext k
  simp only [mset, m3]
  by_cases h : k = 48
  · rw [if_pos h, if_pos h]
  · rw [if_neg h, if_neg h, if_neg h]
theorem m3_s49 (M : Mem) (A B C C' : Int → Int) : mset (m3 M A B C) 49 C' = m3 M A B C' := by
  funext k
  simp only [mset, m3]
  by_cases h : k = 49
  · subst h; rfl
  · rw [if_neg h, if_neg h, if_neg h]
theorem m3_s50 (M : Mem) (A B C B' : Int → Int) : mset (m3 M A B C) 50 B' = m3 M A B' C := by
  funext k
  simp only [mset, m3]
  by_cases h : k = 50
  · subst h; rfl
  · rw [if_neg h, if_neg h, if_neg h]
theorem m3_id (M : Mem) : m3 M (M 48) (M 50) (M 49) = M := by
  funext k
  simp only [m3]
  by_cases h : k = 48
  · rw [if_pos h, h]
  · rw [if_neg h]
    by_cases h2 : k = 49
    · rw [if_pos h2, h2]
    · rw [if_neg h2]
      by_cases h3 : k = 50
      · rw [if_pos h3, h3]
      · rw [if_neg h3]
theorem mic_le {p f : Int → Int} {c : Int} : ∀ {n : Nat}, mic p f c n ≤ c
  | 0 => by simp [mic]
  | n + 1 => by
    have ih := mic_le (p := p) (f := f) (c := c) (n := n)
    simp only [mic]
    split
    · exact ih
    · split <;> omega
theorem nh_bd {sh ri mk sz rm : Int → Int} {lc rc : Int} (hlc : 0 ≤ lc) (hrc : 0 ≤ rc) (hsz : ∀ l, 0 ≤ l → l < lc → 0 ≤ sz l) (hri : ∀ r, 0 ≤ riC ri mk lc r) (hf : ∀ r, 0 ≤ r → r < rc → 0 < riC ri mk lc r → 0 ≤ rm r * 60 - soC sh ri mk lc r) : 0 ≤ nhC sh ri mk sz rm lc rc ∧ nhC sh ri mk sz rm lc rc ≤ 6000 := by
  unfold nhC
  have h1 := mic_bd (p := ri) (f := fun l => sz l * 60) (c := 6000) (by omega) (n := lc.toNat) (fun i h0 h1 _ => by have := hsz i h0 (by omega); omega)
  have h2 := mic_bd (p := fun r => riC ri mk lc r) (f := fun r => (rm r * 60 - soC sh ri mk lc r) / riC ri mk lc r) (c := mic ri (fun l => sz l * 60) 6000 lc.toNat) h1.1 (n := rc.toNat) (fun i h0 h1 h3 => Int.ediv_nonneg (hf i h0 (by omega) (by have := hri i; omega)) (hri i))
  omega
theorem riC_nn {ri mk : Int → Int} {lc r : Int} (h : 0 ≤ lc) : 0 ≤ riC ri mk lc r := by
  have h1 := sg_bd (f := fun l => if ri l = 0 then 0 else if bt (mk l) r = 0 then 0 else 1) (lo := 0) (hi := 1) (n := lc) h (fun i h0 h1 => by split <;> (try split) <;> omega)
  unfold riC
  omega
theorem upto_or (p f v : Int → Int) (i l : Int) : upto p f v i l = v l ∨ upto p f v i l = f l := by
  unfold upto
  split
  · exact Or.inl rfl
  · exact Or.inr rfl
theorem stC_z {sh mk sz rm : Int → Int} {lc rc : Int} {ri : Int → Int} (h : ∀ l, 0 ≤ l → l < 5 → ri l = 0 ∨ ri l = 1) (l : Int) (h0 : 0 ≤ l) (h1 : l < 5) : stC sh mk sz rm lc rc ri l = 0 ∨ stC sh mk sz rm lc rc ri l = 1 := by
  have := stR_z (sh := sh) (mk := mk) (rm := rm) (lc := lc) h rc.toNat l h0 h1
  unfold stC
  rcases upto_or (fun l => if sh l = sz l * 60 then 1 else 0) (stR sh mk rm lc ri rc.toNat) (fun _ => 0) lc l with e | e
  · exact Or.inl e
  · rw [e]; exact this
section LK
variable {g : Gt} {M : Mem}
theorem sX5_raise (d : Nat) (hy : ∀ l, 0 ≤ l → l < M 1 2 → 0 < M 28 l → 0 ≤ wyC (M 7) (M 23) (M 22) l ∧ wyC (M 7) (M 23) (M 22) l < M 28 l) (hF : ∀ k : Nat, k < (M 1 2).toNat → ∀ r, 0 ≤ r → r < M 1 1 → 0 < riC (rnC (ini (M 49) (mkC (M 28) (M 30) (M 7) (M 23) (M 22)) (M 1 2)) (M 10) (M 4) (M 1 2) (M 1 1) ((ini (M 48) (fun _ => 0) (M 1 2)), (ini (M 50) (rsC (M 28)) (M 1 2))) k).2 (ini (M 49) (mkC (M 28) (M 30) (M 7) (M 23) (M 22)) (M 1 2)) (M 1 2) r → 0 ≤ M 4 r * 60 - soC (rnC (ini (M 49) (mkC (M 28) (M 30) (M 7) (M 23) (M 22)) (M 1 2)) (M 10) (M 4) (M 1 2) (M 1 1) ((ini (M 48) (fun _ => 0) (M 1 2)), (ini (M 50) (rsC (M 28)) (M 1 2))) k).1 (rnC (ini (M 49) (mkC (M 28) (M 30) (M 7) (M 23) (M 22)) (M 1 2)) (M 10) (M 4) (M 1 2) (M 1 1) ((ini (M 48) (fun _ => 0) (M 1 2)), (ini (M 50) (rsC (M 28)) (M 1 2))) k).2 (ini (M 49) (mkC (M 28) (M 30) (M 7) (M 23) (M 22)) (M 1 2)) (M 1 2) r) (hS : SH M) (hW : WB M) (hA : AV M) (hN : NB M) : Ex LyC g (d + 3) mX5_raise [vr 47, vr 1, vr 27, vr 21] M (PV (m3 M (rnC (ini (M 49) (mkC (M 28) (M 30) (M 7) (M 23) (M 22)) (M 1 2)) (M 10) (M 4) (M 1 2) (M 1 1) ((ini (M 48) (fun _ => 0) (M 1 2)), (ini (M 50) (rsC (M 28)) (M 1 2))) (M 1 2).toNat).1 (rnC (ini (M 49) (mkC (M 28) (M 30) (M 7) (M 23) (M 22)) (M 1 2)) (M 10) (M 4) (M 1 2) (M 1 1) ((ini (M 48) (fun _ => 0) (M 1 2)), (ini (M 50) (rsC (M 28)) (M 1 2))) (M 1 2).toNat).2 (ini (M 49) (mkC (M 28) (M 30) (M 7) (M 23) (M 22)) (M 1 2)))) := by
  refine Ex.in [some (vr 47), some (vr 1), some (vr 27), some (vr 21), none] (by decide +kernel) rfl (Nat.le_of_ble_eq_true rfl) ?_ rfl
  obtain ⟨hp0, hr, hl, hR, hL⟩ := id hN
  have hC : ∀ l, 0 ≤ l → l < 5 → 0 ≤ (ini (M 49) (mkC (M 28) (M 30) (M 7) (M 23) (M 22)) (M 1 2)) l ∧ (ini (M 49) (mkC (M 28) (M 30) (M 7) (M 23) (M 22)) (M 1 2)) l < 1048576 := by
    intro l h0 h1
    simp only [ini]
    split
    · have h2 := hW l h0 (by omega)
      unfold mkC
      split
      · have h3 := hy l h0 (by omega) (by omega)
        exact (h2.2 _ h3.1 h3.2).2.1
      · omega
    · exact (hS l h0 h1).2.1
  have hSk : ∀ k : Nat, k ≤ (M 1 2).toNat → SH (m3 M (rnC (ini (M 49) (mkC (M 28) (M 30) (M 7) (M 23) (M 22)) (M 1 2)) (M 10) (M 4) (M 1 2) (M 1 1) ((ini (M 48) (fun _ => 0) (M 1 2)), (ini (M 50) (rsC (M 28)) (M 1 2))) k).1 (rnC (ini (M 49) (mkC (M 28) (M 30) (M 7) (M 23) (M 22)) (M 1 2)) (M 10) (M 4) (M 1 2) (M 1 1) ((ini (M 48) (fun _ => 0) (M 1 2)), (ini (M 50) (rsC (M 28)) (M 1 2))) k).2 (ini (M 49) (mkC (M 28) (M 30) (M 7) (M 23) (M 22)) (M 1 2))) := by
    intro k
    induction k with
    | zero =>
      intro _ l h0 h1
      refine ⟨?_, hC l h0 h1, ?_⟩
      · rw [m3_48]
        simp only [rnC, ini]
        split
        · omega
        · exact (hS l h0 h1).1
      · rw [m3_50]
        simp only [rnC, ini]
        split
        · unfold rsC
          split <;> omega
        · exact (hS l h0 h1).2.2
    | succ k ih =>
      intro hk l h0 h1
      have ih2 := ih (by omega)
      have hnb := nh_bd (sh := (rnC (ini (M 49) (mkC (M 28) (M 30) (M 7) (M 23) (M 22)) (M 1 2)) (M 10) (M 4) (M 1 2) (M 1 1) ((ini (M 48) (fun _ => 0) (M 1 2)), (ini (M 50) (rsC (M 28)) (M 1 2))) k).1) (ri := (rnC (ini (M 49) (mkC (M 28) (M 30) (M 7) (M 23) (M 22)) (M 1 2)) (M 10) (M 4) (M 1 2) (M 1 1) ((ini (M 48) (fun _ => 0) (M 1 2)), (ini (M 50) (rsC (M 28)) (M 1 2))) k).2) (mk := (ini (M 49) (mkC (M 28) (M 30) (M 7) (M 23) (M 22)) (M 1 2))) (sz := M 10) (rm := M 4) (lc := M 1 2) (rc := M 1 1) hl.1 hr.1 (fun l h0 h1 => by have := hL l h0 h1; omega) (fun r => riC_nn hl.1) (hF k (by omega))
      refine ⟨?_, hC l h0 h1, stC_z (fun l h0 h1 => (ih2 l h0 h1).2.2) l h0 h1⟩
      rw [m3_48]
      simp only [rnC]
      rcases upto_or (rnC (ini (M 49) (mkC (M 28) (M 30) (M 7) (M 23) (M 22)) (M 1 2)) (M 10) (M 4) (M 1 2) (M 1 1) ((ini (M 48) (fun _ => 0) (M 1 2)), (ini (M 50) (rsC (M 28)) (M 1 2))) k).2 (rnC (ini (M 49) (mkC (M 28) (M 30) (M 7) (M 23) (M 22)) (M 1 2)) (M 10) (M 4) (M 1 2) (M 1 1) ((ini (M 48) (fun _ => 0) (M 1 2)), (ini (M 50) (rsC (M 28)) (M 1 2))) k).1 (fun _ => nhC (rnC (ini (M 49) (mkC (M 28) (M 30) (M 7) (M 23) (M 22)) (M 1 2)) (M 10) (M 4) (M 1 2) (M 1 1) ((ini (M 48) (fun _ => 0) (M 1 2)), (ini (M 50) (rsC (M 28)) (M 1 2))) k).1 (rnC (ini (M 49) (mkC (M 28) (M 30) (M 7) (M 23) (M 22)) (M 1 2)) (M 10) (M 4) (M 1 2) (M 1 1) ((ini (M 48) (fun _ => 0) (M 1 2)), (ini (M 50) (rsC (M 28)) (M 1 2))) k).2 (ini (M 49) (mkC (M 28) (M 30) (M 7) (M 23) (M 22)) (M 1 2)) (M 10) (M 4) (M 1 2) (M 1 1)) (M 1 2) l with e | e
      · rw [e]; exact hnb
      · rw [e]; exact (ih2 l h0 h1).1
  have L2 : ∀ (n9 : Nat) (i : Int) (q : Nat), (i = q) → (i ≤ M 1 2) → M 1 2 - i < n9 → R LyC g mX5_raise (d + 3) 89 [some (vr 47), some (vr 1), some (vr 27), some (vr 21), some (vi i)] [] (m3 M (rnC (ini (M 49) (mkC (M 28) (M 30) (M 7) (M 23) (M 22)) (M 1 2)) (M 10) (M 4) (M 1 2) (M 1 1) ((ini (M 48) (fun _ => 0) (M 1 2)), (ini (M 50) (rsC (M 28)) (M 1 2))) q).1 (rnC (ini (M 49) (mkC (M 28) (M 30) (M 7) (M 23) (M 22)) (M 1 2)) (M 10) (M 4) (M 1 2) (M 1 1) ((ini (M 48) (fun _ => 0) (M 1 2)), (ini (M 50) (rsC (M 28)) (M 1 2))) q).2 (ini (M 49) (mkC (M 28) (M 30) (M 7) (M 23) (M 22)) (M 1 2))) (PV (m3 M (rnC (ini (M 49) (mkC (M 28) (M 30) (M 7) (M 23) (M 22)) (M 1 2)) (M 10) (M 4) (M 1 2) (M 1 1) ((ini (M 48) (fun _ => 0) (M 1 2)), (ini (M 50) (rsC (M 28)) (M 1 2))) (M 1 2).toNat).1 (rnC (ini (M 49) (mkC (M 28) (M 30) (M 7) (M 23) (M 22)) (M 1 2)) (M 10) (M 4) (M 1 2) (M 1 1) ((ini (M 48) (fun _ => 0) (M 1 2)), (ini (M 50) (rsC (M 28)) (M 1 2))) (M 1 2).toNat).2 (ini (M 49) (mkC (M 28) (M 30) (M 7) (M 23) (M 22)) (M 1 2)))) := by
    intro n9
    induction n9 with
    | zero =>
      intro i q h0 h1 hm9
      omega
    | succ n9 ih =>
      intro i q h0 h1 hm9
      refine r_ld iX5_raise_89 rfl ?_
      refine r_aldn iX5_raise_91 rfl ?_
      refine r_geti 2 iX5_raise_92 flX5_22 rfl rfl rfl rfl ?_
      try simp only [m3_48, m3_49, m3_50, m3_o, m3_s48, m3_s49, m3_s50, fset_s, Nat.reduceEqDiff, not_false_eq_true, and_self]
      refine r_cge iX5_raise_95 (by omega) (fun h95 => ?_) (fun h95 => ?_)
      · refine r_vret iX5_raise_119 rfl ?_
        have e1 : (M 1 2).toNat = q := by omega
        rw [e1]
        exact ⟨rfl, rfl⟩
      · refine r_aldn iX5_raise_98 rfl ?_
        refine r_aldn iX5_raise_99 rfl ?_
        refine r_aldn iX5_raise_100 rfl ?_
        refine r_aldn iX5_raise_101 rfl ?_
        refine call_V1i iX5_raise_102 clX5_42 myX5_nextHeight rfl rfl rfl rfl (sX5_nextHeight (M := (m3 M (rnC (ini (M 49) (mkC (M 28) (M 30) (M 7) (M 23) (M 22)) (M 1 2)) (M 10) (M 4) (M 1 2) (M 1 1) ((ini (M 48) (fun _ => 0) (M 1 2)), (ini (M 50) (rsC (M 28)) (M 1 2))) q).1 (rnC (ini (M 49) (mkC (M 28) (M 30) (M 7) (M 23) (M 22)) (M 1 2)) (M 10) (M 4) (M 1 2) (M 1 1) ((ini (M 48) (fun _ => 0) (M 1 2)), (ini (M 50) (rsC (M 28)) (M 1 2))) q).2 (ini (M 49) (mkC (M 28) (M 30) (M 7) (M 23) (M 22)) (M 1 2)))) _ (hF q (by omega)) (hSk q (by omega)) hN) ?_
        refine call_V2v iX5_raise_105 clX5_46 myX5_lift rfl rfl rfl rfl (sX5_lift (M := (m3 M (rnC (ini (M 49) (mkC (M 28) (M 30) (M 7) (M 23) (M 22)) (M 1 2)) (M 10) (M 4) (M 1 2) (M 1 1) ((ini (M 48) (fun _ => 0) (M 1 2)), (ini (M 50) (rsC (M 28)) (M 1 2))) q).1 (rnC (ini (M 49) (mkC (M 28) (M 30) (M 7) (M 23) (M 22)) (M 1 2)) (M 10) (M 4) (M 1 2) (M 1 1) ((ini (M 48) (fun _ => 0) (M 1 2)), (ini (M 50) (rsC (M 28)) (M 1 2))) q).2 (ini (M 49) (mkC (M 28) (M 30) (M 7) (M 23) (M 22)) (M 1 2)))) _ _ (fun l h2 h3 => (hSk q (by omega) l h2 h3).2.2) hN) ?_
        try simp only [m3_48, m3_49, m3_50, m3_o, m3_s48, m3_s49, m3_s50, fset_s, Nat.reduceEqDiff, not_false_eq_true, and_self]
        refine r_aldn iX5_raise_108 rfl ?_
        refine r_aldn iX5_raise_109 rfl ?_
        refine call_V1v iX5_raise_110 clX5_50 myX5_stop rfl rfl rfl rfl (sX5_stop (M := m3 M (upto (rnC (ini (M 49) (mkC (M 28) (M 30) (M 7) (M 23) (M 22)) (M 1 2)) (M 10) (M 4) (M 1 2) (M 1 1) ((ini (M 48) (fun _ => 0) (M 1 2)), (ini (M 50) (rsC (M 28)) (M 1 2))) q).2 (rnC (ini (M 49) (mkC (M 28) (M 30) (M 7) (M 23) (M 22)) (M 1 2)) (M 10) (M 4) (M 1 2) (M 1 1) ((ini (M 48) (fun _ => 0) (M 1 2)), (ini (M 50) (rsC (M 28)) (M 1 2))) q).1 (fun _ => nhC (rnC (ini (M 49) (mkC (M 28) (M 30) (M 7) (M 23) (M 22)) (M 1 2)) (M 10) (M 4) (M 1 2) (M 1 1) ((ini (M 48) (fun _ => 0) (M 1 2)), (ini (M 50) (rsC (M 28)) (M 1 2))) q).1 (rnC (ini (M 49) (mkC (M 28) (M 30) (M 7) (M 23) (M 22)) (M 1 2)) (M 10) (M 4) (M 1 2) (M 1 1) ((ini (M 48) (fun _ => 0) (M 1 2)), (ini (M 50) (rsC (M 28)) (M 1 2))) q).2 (ini (M 49) (mkC (M 28) (M 30) (M 7) (M 23) (M 22)) (M 1 2)) (M 10) (M 4) (M 1 2) (M 1 1)) (M 1 2)) (rnC (ini (M 49) (mkC (M 28) (M 30) (M 7) (M 23) (M 22)) (M 1 2)) (M 10) (M 4) (M 1 2) (M 1 1) ((ini (M 48) (fun _ => 0) (M 1 2)), (ini (M 50) (rsC (M 28)) (M 1 2))) q).2 (ini (M 49) (mkC (M 28) (M 30) (M 7) (M 23) (M 22)) (M 1 2))) _ (fun l h2 h3 => ⟨(hSk (q + 1) (by omega) l h2 h3).1, (hSk q (by omega) l h2 h3).2⟩) hN) ?_
        try simp only [m3_48, m3_49, m3_50, m3_o, m3_s48, m3_s49, m3_s50, fset_s, Nat.reduceEqDiff, not_false_eq_true, and_self]
        refine r_inc iX5_raise_113 rfl (by decide) rfl ?_
        refine r_goto iX5_raise_116 ?_
        exact ih (i + 1) (q + 1) (by omega) (by omega) (by omega)
  have L1 : ∀ (n9 : Nat) (i : Int), (0 ≤ i) → (i ≤ M 1 2) → M 1 2 - i < n9 → R LyC g mX5_raise (d + 3) 3 [some (vr 47), some (vr 1), some (vr 27), some (vr 21), some (vi i)] [] (m3 M (ini (M 48) (fun _ => 0) i) (ini (M 50) (rsC (M 28)) i) (ini (M 49) (mkC (M 28) (M 30) (M 7) (M 23) (M 22)) i)) (PV (m3 M (rnC (ini (M 49) (mkC (M 28) (M 30) (M 7) (M 23) (M 22)) (M 1 2)) (M 10) (M 4) (M 1 2) (M 1 1) ((ini (M 48) (fun _ => 0) (M 1 2)), (ini (M 50) (rsC (M 28)) (M 1 2))) (M 1 2).toNat).1 (rnC (ini (M 49) (mkC (M 28) (M 30) (M 7) (M 23) (M 22)) (M 1 2)) (M 10) (M 4) (M 1 2) (M 1 1) ((ini (M 48) (fun _ => 0) (M 1 2)), (ini (M 50) (rsC (M 28)) (M 1 2))) (M 1 2).toNat).2 (ini (M 49) (mkC (M 28) (M 30) (M 7) (M 23) (M 22)) (M 1 2)))) := by
    intro n9
    induction n9 with
    | zero =>
      intro i h0 h1 hm9
      omega
    | succ n9 ih =>
      intro i h0 h1 hm9
      refine r_ld iX5_raise_3 rfl ?_
      refine r_aldn iX5_raise_5 rfl ?_
      refine r_geti 2 iX5_raise_6 flX5_22 rfl rfl rfl rfl ?_
      try simp only [m3_48, m3_49, m3_50, m3_o, m3_s48, m3_s49, m3_s50, fset_s, Nat.reduceEqDiff, not_false_eq_true, and_self]
      refine r_cge iX5_raise_9 (by omega) (fun h9 => ?_) (fun h9 => ?_)
      · refine r_con iX5_raise_86 ?_
        refine r_st iX5_raise_87 (by decide) rfl ?_
        rw [show i = M 1 2 by omega]
        exact L2 6 0 0 (by omega) (by omega) (by omega)
      · have hwi := hW i h0 (by omega)
        have hyi := hy i h0 (by omega)
        refine r_aldn iX5_raise_12 rfl ?_
        refine r_getr iX5_raise_13 flX5_9 rfl rfl ?_
        refine r_ld iX5_raise_16 rfl ?_
        refine r_con iX5_raise_18 ?_
        refine r_ias iX5_raise_19 rfl (by omega) ?_
        refine r_aldn iX5_raise_20 rfl ?_
        refine r_getr iX5_raise_21 flX5_18 rfl rfl ?_
        refine r_ld iX5_raise_24 rfl ?_
        refine r_aldn iX5_raise_26 rfl ?_
        refine r_getr iX5_raise_27 flX5_28 rfl rfl ?_
        refine r_ld iX5_raise_30 rfl ?_
        refine r_ial iX5_raise_32 rfl (by omega) ?_
        try simp only [m3_48, m3_49, m3_50, m3_o, m3_s48, m3_s49, m3_s50, fset_s, Nat.reduceEqDiff, not_false_eq_true, and_self]
        refine r_ifle iX5_raise_33 (by omega) (fun h33 => ?_) (fun h33 => ?_)
        · refine r_con iX5_raise_40 ?_
          refine r_zas iX5_raise_41 rfl (by omega) (by omega) ?_
          refine r_aldn iX5_raise_42 rfl ?_
          refine r_getr iX5_raise_43 flX5_15 rfl rfl ?_
          refine r_ld iX5_raise_46 rfl ?_
          refine r_aldn iX5_raise_48 rfl ?_
          refine r_getr iX5_raise_49 flX5_18 rfl rfl ?_
          refine r_ld iX5_raise_52 rfl ?_
          refine r_zal iX5_raise_54 rfl (by omega) ?_
          try simp only [m3_48, m3_49, m3_50, m3_o, m3_s48, m3_s49, m3_s50, fset_s, Nat.reduceEqDiff, not_false_eq_true, and_self]
          refine r_ifeq iX5_raise_55 (by omega) (fun h55 => ?_) (fun h55 => ?_)
          · refine r_con iX5_raise_78 ?_
            try simp only [m3_48, m3_49, m3_50, m3_o, m3_s48, m3_s49, m3_s50, fset_s, Nat.reduceEqDiff, not_false_eq_true, and_self]
            refine r_ias iX5_raise_79 rfl (by omega) ?_
            refine r_inc iX5_raise_80 rfl (by decide) rfl ?_
            refine r_goto iX5_raise_83 ?_
            try simp only [m3_48, m3_49, m3_50, m3_o, m3_s48, m3_s49, m3_s50, fset_s, Nat.reduceEqDiff, not_false_eq_true, and_self]
            have eA := ini_1 (f := M 48) (v := fun _ => 0) h0
            have eB := ini_1 (f := M 50) (v := rsC (M 28)) h0
            have eC := ini_1 (f := M 49) (v := mkC (M 28) (M 30) (M 7) (M 23) (M 22)) h0
            have e1 : rsC (M 28) i = 0 := if_neg (by omega)
            have e2 : mkC (M 28) (M 30) (M 7) (M 23) (M 22) i = 0 := if_neg (by omega)
            rw [e1] at eB
            rw [e2] at eC
            have ih1 := ih (i + 1) (by omega) (by omega) (by omega)
            rw [← eA, ← eB, ← eC] at ih1
            exact ih1
          · omega
        · refine r_con iX5_raise_36 ?_
          refine r_goto iX5_raise_37 ?_
          refine r_zas iX5_raise_41 rfl (by omega) (by omega) ?_
          refine r_aldn iX5_raise_42 rfl ?_
          refine r_getr iX5_raise_43 flX5_15 rfl rfl ?_
          refine r_ld iX5_raise_46 rfl ?_
          refine r_aldn iX5_raise_48 rfl ?_
          refine r_getr iX5_raise_49 flX5_18 rfl rfl ?_
          refine r_ld iX5_raise_52 rfl ?_
          refine r_zal iX5_raise_54 rfl (by omega) ?_
          try simp only [m3_48, m3_49, m3_50, m3_o, m3_s48, m3_s49, m3_s50, fset_s, Nat.reduceEqDiff, not_false_eq_true, and_self]
          refine r_ifeq iX5_raise_55 (by omega) (fun h55 => ?_) (fun h55 => ?_)
          · omega
          · refine r_aldn iX5_raise_58 rfl ?_
            refine r_getr iX5_raise_59 flX5_33 rfl rfl ?_
            refine r_ld iX5_raise_62 rfl ?_
            refine r_aldn iX5_raise_64 rfl ?_
            refine r_aldn iX5_raise_65 rfl ?_
            refine r_ld iX5_raise_66 rfl ?_
            refine call_S3i iX5_raise_68 clX5_34 myX5_wayOf rfl (sX5_wayOf (M := m3 M (fset (ini (M 48) (fun _ => 0) i) i 0) (fset (ini (M 50) (rsC (M 28)) i) i 1) (ini (M 49) (mkC (M 28) (M 30) (M 7) (M 23) (M 22)) i)) _ _ (by exact ⟨h0, h9⟩) hA hN) ?_
            refine call_N2i iX5_raise_71 clX5_38 myX7_slot rfl (sX7_slot _ _ _) ?_
            try simp only [m3_48, m3_49, m3_50, m3_o, m3_s48, m3_s49, m3_s50, fset_s, Nat.reduceEqDiff, not_false_eq_true, and_self]
            refine r_ial iX5_raise_74 rfl (by show 0 ≤ 8 * i + wyC (M 7) (M 23) (M 22) i ∧ 8 * i + wyC (M 7) (M 23) (M 22) i < _; have := hyi (by omega); omega) ?_
            refine r_goto iX5_raise_75 ?_
            try simp only [m3_48, m3_49, m3_50, m3_o, m3_s48, m3_s49, m3_s50, fset_s, Nat.reduceEqDiff, not_false_eq_true, and_self]
            refine r_ias iX5_raise_79 rfl (by omega) ?_
            refine r_inc iX5_raise_80 rfl (by decide) rfl ?_
            refine r_goto iX5_raise_83 ?_
            try simp only [m3_48, m3_49, m3_50, m3_o, m3_s48, m3_s49, m3_s50, fset_s, Nat.reduceEqDiff, not_false_eq_true, and_self]
            have eA := ini_1 (f := M 48) (v := fun _ => 0) h0
            have eB := ini_1 (f := M 50) (v := rsC (M 28)) h0
            have eC := ini_1 (f := M 49) (v := mkC (M 28) (M 30) (M 7) (M 23) (M 22)) h0
            have e1 : rsC (M 28) i = 1 := if_pos h33
            have e2 : mkC (M 28) (M 30) (M 7) (M 23) (M 22) i = M 30 (8 * i + wyC (M 7) (M 23) (M 22) i) := if_pos h33
            rw [e1] at eB
            rw [e2] at eC
            have ih1 := ih (i + 1) (by omega) (by omega) (by omega)
            rw [← eA, ← eB, ← eC] at ih1
            exact ih1
  refine r_con iX5_raise_0 ?_
  refine r_st iX5_raise_1 (by decide) rfl ?_
  have L0 := L1 6 0 (by omega) (by omega) (by omega)
  rw [ini_0, ini_0, ini_0, m3_id] at L0
  exact L0
end LK
