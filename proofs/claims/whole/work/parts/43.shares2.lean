/-! the reference: all shares -/
def m25 (M : Mem) (A R T L : Int → Int) : Mem := fun k => if k = 25 then A else if k = 24 then R else if k = 26 then T else if k = 27 then L else M k
theorem m25_i (M : Mem) : m25 M (M 25) (M 24) (M 26) (M 27) = M := by
  funext k
  simp only [m25]
  by_cases h : k = 25
  · rw [if_pos h, h]
  · rw [if_neg h]
    by_cases h1 : k = 24
    · rw [if_pos h1, h1]
    · rw [if_neg h1]
      by_cases h2 : k = 26
      · rw [if_pos h2, h2]
      · rw [if_neg h2]
        by_cases h3 : k = 27
        · rw [if_pos h3, h3]
        · rw [if_neg h3]
theorem m25_25 (M : Mem) (A R T L X : Int → Int) : mset (m25 M A R T L) 25 X = m25 M X R T L := by
  funext k
  simp only [mset, m25]
  by_cases h : k = 25
  · rw [if_pos h, if_pos h]
  · rw [if_neg h, if_neg h, if_neg h]
theorem m25_24 (M : Mem) (A R T L X : Int → Int) : mset (m25 M A R T L) 24 X = m25 M A X T L := by
  funext k
  simp only [mset, m25]
  by_cases h : k = 24
  · rw [if_pos h, if_pos h, if_neg (by omega)]
  · rw [if_neg h, if_neg h, if_neg h]
theorem m25_26 (M : Mem) (A R T L X : Int → Int) : mset (m25 M A R T L) 26 X = m25 M A R X L := by
  funext k
  simp only [mset, m25]
  by_cases h : k = 26
  · rw [if_pos h, if_pos h, if_neg (by omega), if_neg (by omega)]
  · rw [if_neg h, if_neg h, if_neg h]
theorem m25_27 (M : Mem) (A R T L X : Int → Int) : mset (m25 M A R T L) 27 X = m25 M A R T X := by
  funext k
  simp only [mset, m25]
  by_cases h : k = 27
  · rw [if_pos h, if_pos h, if_neg (by omega), if_neg (by omega), if_neg (by omega)]
  · rw [if_neg h, if_neg h, if_neg h]
theorem m25_a (M : Mem) (A R T L : Int → Int) : m25 M A R T L 25 = A := rfl
theorem m25_b (M : Mem) (A R T L : Int → Int) : m25 M A R T L 24 = R := rfl
theorem m25_c (M : Mem) (A R T L : Int → Int) : m25 M A R T L 26 = T := rfl
theorem m25_e (M : Mem) (A R T L : Int → Int) : m25 M A R T L 27 = L := rfl
theorem m25_0 (M : Mem) (A R T L : Int → Int) : m25 M A R T L 0 = M 0 := rfl
theorem m25_8 (M : Mem) (A R T L : Int → Int) : m25 M A R T L 8 = M 8 := rfl
theorem m27_m25 (M : Mem) (A R T L R' T' L' : Int → Int) (a b : Int) : m27 (m25 M A R T L) a b R' T' L' = m25 (m0 M a b) A R' T' L' := by
  funext k
  simp only [m27, m25, m0, mset]
  by_cases h1 : k = 24
  · rw [if_pos h1, if_neg (by omega), if_pos h1]
  · rw [if_neg h1, if_neg h1]
    by_cases h2 : k = 26
    · rw [if_pos h2, if_neg (by omega), if_pos h2, if_neg h1]
    · rw [if_neg h2, if_neg h2]
      by_cases h3 : k = 27
      · rw [if_pos h3, if_neg (by omega), if_pos h3, if_neg h1, if_neg h2]
      · rw [if_neg h3, if_neg h3]
        by_cases h0 : k = 0
        · subst h0; rfl
        · rw [if_neg h0, if_neg h0, if_neg h1, if_neg h2, if_neg h3]
theorem m25_m27 (M : Mem) (A R T L R' T' L' : Int → Int) (a b c e : Int) : m27 (m25 (m0 M c e) A R T L) a b R' T' L' = m25 (m0 M a b) A R' T' L' := by
  rw [m27_m25, m0_m0]
theorem rn_sub {mk sz rm : Int → Int} {lc rc : Int} {s0 : (Int → Int) × (Int → Int)} (hrc : 0 ≤ rc) {l : Int} (h0 : 0 ≤ l) (h1 : l < lc) : ∀ k : Nat, (rnC mk sz rm lc rc s0 k).2 l = 0 ∨ (rnC mk sz rm lc rc s0 k).2 l = s0.2 l
  | 0 => Or.inr rfl
  | k + 1 => by
    have ih := rn_sub (mk := mk) (sz := sz) (rm := rm) (s0 := s0) hrc h0 h1 k
    simp only [rnC]
    generalize rnC mk sz rm lc rc s0 k = s at *
    rcases stC_c (sh := upto s.2 s.1 (fun _ => nhC s.1 s.2 mk sz rm lc rc) lc) (mk := mk) (sz := sz) (rm := rm) (ri := s.2) hrc h0 h1 with q | q
    · exact Or.inl q.1
    · rw [q.1]; exact ih
theorem fpt_lt (f : Int → Int) : ∀ n : Nat, fpt f n < n
  | 0 => by simp [fpt]
  | n + 1 => by
    have := fpt_lt f n
    simp only [fpt]
    split
    · omega
    · split <;> omega
theorem chS_bd {kd hd wm am : Int → Int} {l : Int} (h : 0 ≤ wm l) : -1 ≤ chS kd hd wm am l ∧ chS kd hd wm am l < wm l := by
  unfold chS
  have h1 := fpt_bd (fun i => am (8 * l + i)) (wm l).toNat
  have h2 := fpt_lt (fun i => am (8 * l + i)) (wm l).toNat
  split
  · split <;> omega
  · split
    · omega
    · split <;> omega
theorem tp_is {x s : Int} : (tp x = s ∧ lw x = 1) ↔ x = s * 60 := by
  refine ⟨fun h => ?_, fun h => ?_⟩
  · have := tp_lw x
    rw [h.1, h.2] at this
    omega
  · rw [h]; exact tp_60 s
section RO
variable {g : Gt} {M : Mem} {mk : Int → Int}
theorem sX8_findShares (d : Nat) (hmk : ∀ l, 0 ≤ l → l < M 0 6 → ∀ r, 0 ≤ r → r < M 0 1 → ((0 ≤ (chS (M 5) (M 9) (M 11) (M 10)) l ∧ hsM (M 12) (M 13) (8 * l + (chS (M 5) (M 9) (M 11) (M 10)) l) r ≠ 0) ↔ bt (mk l) r ≠ 0)) (hH : ∀ l, 0 ≤ l → l < M 0 6 → 0 ≤ M 9 l ∧ M 9 l ≤ 7) (hW : WBm M) (hA : AVm M) (hN : NBm M) : Ex LyM g (d + 3) mX8_findShares [vr 0] M (fun r M' => r = none ∧ ∃ a b A R G K, M' = m25 (m0 M a b) A R G K ∧ ∀ l, 0 ≤ l → l < M 0 6 → G l = tp ((rnC mk (M 8) (M 2) (M 0 6) (M 0 1) ((fun _ : Int => (0 : Int)), ini (M 24) (fun l => if 0 ≤ chS (M 5) (M 9) (M 11) (M 10) l then 1 else 0) (M 0 6)) (M 0 6).toNat).1 l) ∧ K l = lw ((rnC mk (M 8) (M 2) (M 0 6) (M 0 1) ((fun _ : Int => (0 : Int)), ini (M 24) (fun l => if 0 ≤ chS (M 5) (M 9) (M 11) (M 10) l then 1 else 0) (M 0 6)) (M 0 6).toNat).1 l)) := by
  refine Ex.in [some (vr 0), none, none] (by decide +kernel) rfl (Nat.le_of_ble_eq_true rfl) ?_ rfl
  obtain ⟨hp0, hr, hl, hR, hL⟩ := id hN
  have hsz : ∀ l, 0 ≤ l → l < M 0 6 → M 8 l ≤ 100 := fun l z0 z1 => (hL l z0 z1).2.2.2.2.2
  have hI0 : Iv mk (M 8) (M 2) (M 0 6) (M 0 1) (ini (fun _ => 0) (fun _ => 0) (M 0 6)) (ini (M 24) (fun l => if 0 ≤ chS (M 5) (M 9) (M 11) (M 10) l then 1 else 0) (M 0 6)) 0 := Iv.init hl (fun l => by by_cases q : 0 ≤ (chS (M 5) (M 9) (M 11) (M 10)) l; right; exact if_pos q; left; exact if_neg q) (fun l z0 z1 => by have := (hL l z0 z1).2.2.2.2; omega) (fun r z0 z1 => (hR r z0 z1).2.1.1)
  have hi0 : ini (fun _ => 0) (fun _ => 0) (M 0 6) = (fun _ => (0 : Int)) := by
    funext j
    simp only [ini]
    split <;> rfl
  rw [hi0] at hI0
  have hiv := fun k => rn_iv (s0 := ((fun _ : Int => (0 : Int)), ini (M 24) (fun l => if 0 ≤ chS (M 5) (M 9) (M 11) (M 10) l then 1 else 0) (M 0 6))) hI0 hsz hl.1 hr.1 k
  have hend := rn_end (s0 := ((fun _ : Int => (0 : Int)), ini (M 24) (fun l => if 0 ≤ chS (M 5) (M 9) (M 11) (M 10) l then 1 else 0) (M 0 6))) hI0 hsz hl.1 hr.1
  have L2 : ∀ (n9 : Nat) (k : Nat) (a b : Int) (G K : Int → Int) (w2 : Option MV), ((k : Int) ≤ M 0 6) → (∀ l, 0 ≤ l → l < M 0 6 → G l = tp ((rnC mk (M 8) (M 2) (M 0 6) (M 0 1) ((fun _ : Int => (0 : Int)), ini (M 24) (fun l => if 0 ≤ chS (M 5) (M 9) (M 11) (M 10) l then 1 else 0) (M 0 6)) k).1 l) ∧ K l = lw ((rnC mk (M 8) (M 2) (M 0 6) (M 0 1) ((fun _ : Int => (0 : Int)), ini (M 24) (fun l => if 0 ≤ chS (M 5) (M 9) (M 11) (M 10) l then 1 else 0) (M 0 6)) k).1 l)) → M 0 6 - k < n9 → R LyM g mX8_findShares (d + 3) 80 [some (vr 0), some (vi (sg (rnC mk (M 8) (M 2) (M 0 6) (M 0 1) ((fun _ : Int => (0 : Int)), ini (M 24) (fun l => if 0 ≤ chS (M 5) (M 9) (M 11) (M 10) l then 1 else 0) (M 0 6)) k).2 (M 0 6))), w2] [] (m25 (m0 M a b) (ini (M 25) (chS (M 5) (M 9) (M 11) (M 10)) (M 0 6)) (rnC mk (M 8) (M 2) (M 0 6) (M 0 1) ((fun _ : Int => (0 : Int)), ini (M 24) (fun l => if 0 ≤ chS (M 5) (M 9) (M 11) (M 10) l then 1 else 0) (M 0 6)) k).2 G K) (fun r M' => r = none ∧ ∃ a b A R G K, M' = m25 (m0 M a b) A R G K ∧ ∀ l, 0 ≤ l → l < M 0 6 → G l = tp ((rnC mk (M 8) (M 2) (M 0 6) (M 0 1) ((fun _ : Int => (0 : Int)), ini (M 24) (fun l => if 0 ≤ chS (M 5) (M 9) (M 11) (M 10) l then 1 else 0) (M 0 6)) (M 0 6).toNat).1 l) ∧ K l = lw ((rnC mk (M 8) (M 2) (M 0 6) (M 0 1) ((fun _ : Int => (0 : Int)), ini (M 24) (fun l => if 0 ≤ chS (M 5) (M 9) (M 11) (M 10) l then 1 else 0) (M 0 6)) (M 0 6).toNat).1 l)) := by
    intro n9
    induction n9 with
    | zero =>
      intro k a b G K w2 hk hgk hm9
      omega
    | succ n9 ih =>
      intro k a b G K w2 hk hgk hm9
      obtain ⟨⟨hp, I⟩, hs⟩ := hiv k
      have hsb := sg_bd (f := (rnC mk (M 8) (M 2) (M 0 6) (M 0 1) ((fun _ : Int => (0 : Int)), ini (M 24) (fun l => if 0 ≤ chS (M 5) (M 9) (M 11) (M 10) l then 1 else 0) (M 0 6)) k).2) (lo := 0) (hi := 1) hl.1 (fun l z0 z1 => by have := I.z l z0 z1; omega)
      have hs0 := sg_bd (f := ini (M 24) (fun l => if 0 ≤ chS (M 5) (M 9) (M 11) (M 10) l then 1 else 0) (M 0 6)) (lo := 0) (hi := 1) hl.1 (fun l z0 z1 => by have := hI0.z l z0 z1; omega)
      replace hs : sg (rnC mk (M 8) (M 2) (M 0 6) (M 0 1) ((fun _ : Int => (0 : Int)), ini (M 24) (fun l => if 0 ≤ chS (M 5) (M 9) (M 11) (M 10) l then 1 else 0) (M 0 6)) k).2 (M 0 6) = 0 ∨ sg (rnC mk (M 8) (M 2) (M 0 6) (M 0 1) ((fun _ : Int => (0 : Int)), ini (M 24) (fun l => if 0 ≤ chS (M 5) (M 9) (M 11) (M 10) l then 1 else 0) (M 0 6)) k).2 (M 0 6) + k ≤ sg (ini (M 24) (fun l => if 0 ≤ chS (M 5) (M 9) (M 11) (M 10) l then 1 else 0) (M 0 6)) (M 0 6) := hs
      refine r_ldn iX8_findShares_80 rfl ?_
      refine r_ifle iX8_findShares_81 (by omega) (fun h81 => ?_) (fun h81 => ?_)
      · refine r_vret iX8_findShares_92 rfl ?_
        refine ⟨rfl, a, b, _, _, G, K, rfl, fun l z0 z1 => ?_⟩
        have q9 := sg_ex hl.1 I.z
        have q8 : ∀ l, 0 ≤ l → l < M 0 6 → (rnC mk (M 8) (M 2) (M 0 6) (M 0 1) ((fun _ : Int => (0 : Int)), ini (M 24) (fun l => if 0 ≤ chS (M 5) (M 9) (M 11) (M 10) l then 1 else 0) (M 0 6)) k).2 l = 0 := by
          rcases q9 with q | q
          · exact q.2
          · omega
        have e9 := rn_late (mk := mk) (sz := M 8) (rm := M 2) (s0 := ((fun _ : Int => (0 : Int)), ini (M 24) (fun l => if 0 ≤ chS (M 5) (M 9) (M 11) (M 10) l then 1 else 0) (M 0 6))) hr.1 q8 ((M 0 6).toNat - k)
        rw [show k + ((M 0 6).toNat - k) = (M 0 6).toNat by omega] at e9
        rw [e9]
        exact hgk l z0 z1
      · have q9 := sg_ex hl.1 I.z
        have q8 : ∃ l, 0 ≤ l ∧ l < M 0 6 ∧ (rnC mk (M 8) (M 2) (M 0 6) (M 0 1) ((fun _ : Int => (0 : Int)), ini (M 24) (fun l => if 0 ≤ chS (M 5) (M 9) (M 11) (M 10) l then 1 else 0) (M 0 6)) k).2 l = 1 := by
          rcases q9 with q | q
          · omega
          · exact q.2
        obtain ⟨l0, c0, c1, c2⟩ := q8
        have S9 : SR (m25 (m0 M a b) (ini (M 25) (chS (M 5) (M 9) (M 11) (M 10)) (M 0 6)) (rnC mk (M 8) (M 2) (M 0 6) (M 0 1) ((fun _ : Int => (0 : Int)), ini (M 24) (fun l => if 0 ≤ chS (M 5) (M 9) (M 11) (M 10) l then 1 else 0) (M 0 6)) k).2 G K) (rnC mk (M 8) (M 2) (M 0 6) (M 0 1) ((fun _ : Int => (0 : Int)), ini (M 24) (fun l => if 0 ≤ chS (M 5) (M 9) (M 11) (M 10) l then 1 else 0) (M 0 6)) k).1 mk := by
          refine ⟨I.z, fun l z0 z1 => (hgk l z0 z1).1, fun l z0 z1 => (hgk l z0 z1).2, fun l z0 z1 => ?_, fun l z0 z1 => ?_, fun l z0 z1 z2 => ?_, fun l z0 z1 r y0 y1 => ?_⟩
          · have e1 := I.b l z0 z1
            have e2 := hsz l z0 z1
            omega
          · show -1 ≤ ini (M 25) (chS (M 5) (M 9) (M 11) (M 10)) (M 0 6) l ∧ ini (M 25) (chS (M 5) (M 9) (M 11) (M 10)) (M 0 6) l < M 11 l
            rw [show ini (M 25) (chS (M 5) (M 9) (M 11) (M 10)) (M 0 6) l = (chS (M 5) (M 9) (M 11) (M 10)) l from if_pos ⟨z0, z1⟩]
            exact chS_bd (hW l z0 z1).1.1
          · show 0 ≤ ini (M 25) (chS (M 5) (M 9) (M 11) (M 10)) (M 0 6) l
            rw [show ini (M 25) (chS (M 5) (M 9) (M 11) (M 10)) (M 0 6) l = (chS (M 5) (M 9) (M 11) (M 10)) l from if_pos ⟨z0, z1⟩]
            have e1 : (rnC mk (M 8) (M 2) (M 0 6) (M 0 1) ((fun _ : Int => (0 : Int)), ini (M 24) (fun l => if 0 ≤ chS (M 5) (M 9) (M 11) (M 10) l then 1 else 0) (M 0 6)) k).2 l = 1 := z2
            have e3 : ini (M 24) (fun l => if 0 ≤ chS (M 5) (M 9) (M 11) (M 10) l then 1 else 0) (M 0 6) l = if 0 ≤ (chS (M 5) (M 9) (M 11) (M 10)) l then 1 else 0 := if_pos ⟨z0, z1⟩
            rcases rn_sub (mk := mk) (sz := M 8) (rm := M 2) (lc := M 0 6) (rc := M 0 1) (s0 := ((fun _ : Int => (0 : Int)), ini (M 24) (fun l => if 0 ≤ chS (M 5) (M 9) (M 11) (M 10) l then 1 else 0) (M 0 6))) hr.1 z0 z1 k with e2 | e2
            · omega
            · by_cases q : 0 ≤ (chS (M 5) (M 9) (M 11) (M 10)) l
              · exact q
              · rw [if_neg q] at e3
                have e4 : (rnC mk (M 8) (M 2) (M 0 6) (M 0 1) ((fun _ : Int => (0 : Int)), ini (M 24) (fun l => if 0 ≤ chS (M 5) (M 9) (M 11) (M 10) l then 1 else 0) (M 0 6)) k).2 l = ini (M 24) (fun l => if 0 ≤ chS (M 5) (M 9) (M 11) (M 10) l then 1 else 0) (M 0 6) l := e2
                omega
          · show (0 ≤ ini (M 25) (chS (M 5) (M 9) (M 11) (M 10)) (M 0 6) l ∧ hsM (M 12) (M 13) (8 * l + ini (M 25) (chS (M 5) (M 9) (M 11) (M 10)) (M 0 6) l) r ≠ 0) ↔ _
            rw [show ini (M 25) (chS (M 5) (M 9) (M 11) (M 10)) (M 0 6) l = (chS (M 5) (M 9) (M 11) (M 10)) l from if_pos ⟨z0, z1⟩]
            exact hmk l z0 z1 r y0 y1
        refine r_aldn iX8_findShares_84 rfl ?_
        refine call_V0p iX8_findShares_85 clX8_234 myX8_rise rfl rfl rfl rfl (sX8_rise (M := (m25 (m0 M a b) (ini (M 25) (chS (M 5) (M 9) (M 11) (M 10)) (M 0 6)) (rnC mk (M 8) (M 2) (M 0 6) (M 0 1) ((fun _ : Int => (0 : Int)), ini (M 24) (fun l => if 0 ≤ chS (M 5) (M 9) (M 11) (M 10) l then 1 else 0) (M 0 6)) k).2 G K)) (x := (rnC mk (M 8) (M 2) (M 0 6) (M 0 1) ((fun _ : Int => (0 : Int)), ini (M 24) (fun l => if 0 ≤ chS (M 5) (M 9) (M 11) (M 10) l then 1 else 0) (M 0 6)) k).1) (mk := mk) _ hp l0 S9 I c0 c1 c2 hW hN) (fun r85 M85 h85 => ?_)
        obtain ⟨e1, a9, b9, G9, K9, e2, e3⟩ := h85
        subst e1
        subst e2
        rw [m25_m27]
        refine r_stn iX8_findShares_88 (by decide) rfl ?_
        refine r_goto iX8_findShares_89 ?_
        have L0 := fun w2 => ih (k + 1) a9 b9 G9 K9 w2 (by omega) e3 (by omega)
        exact L0 _
  have L1 : ∀ (n9 : Nat) (i o : Int), (0 ≤ i) → (i ≤ M 0 6) → (o = sg (fun l => if 0 ≤ chS (M 5) (M 9) (M 11) (M 10) l then 1 else 0) i) → M 0 6 - i < n9 → R LyM g mX8_findShares (d + 3) 4 [some (vr 0), some (vi o), some (vi i)] [] (m25 M (ini (M 25) (chS (M 5) (M 9) (M 11) (M 10)) i) (ini (M 24) (fun l => if 0 ≤ chS (M 5) (M 9) (M 11) (M 10) l then 1 else 0) i) (ini (M 26) (fun _ => 0) i) (ini (M 27) (fun _ => 1) i)) (fun r M' => r = none ∧ ∃ a b A R G K, M' = m25 (m0 M a b) A R G K ∧ ∀ l, 0 ≤ l → l < M 0 6 → G l = tp ((rnC mk (M 8) (M 2) (M 0 6) (M 0 1) ((fun _ : Int => (0 : Int)), ini (M 24) (fun l => if 0 ≤ chS (M 5) (M 9) (M 11) (M 10) l then 1 else 0) (M 0 6)) (M 0 6).toNat).1 l) ∧ K l = lw ((rnC mk (M 8) (M 2) (M 0 6) (M 0 1) ((fun _ : Int => (0 : Int)), ini (M 24) (fun l => if 0 ≤ chS (M 5) (M 9) (M 11) (M 10) l then 1 else 0) (M 0 6)) (M 0 6).toNat).1 l)) := by
    intro n9
    induction n9 with
    | zero =>
      intro i o h0 h1 ho hm9
      omega
    | succ n9 ih =>
      intro i o h0 h1 ho hm9
      refine r_ldn iX8_findShares_4 rfl ?_
      refine r_aldn iX8_findShares_5 rfl ?_
      refine r_geti 6 iX8_findShares_6 flX8_100 rfl rfl rfl rfl ?_
      try simp only [m25_a, m25_b, m25_c, m25_e, m25_0, m25_8, m25_25, m25_24, m25_26, m25_27, m0_6, m0_1, m0_k8, fset_s]
      refine r_cge iX8_findShares_9 (by omega) (fun h9 => ?_) (fun h9 => ?_)
      · have el : i = M 0 6 := by omega
        rw [el] at ho
        have L0 := fun w2 => L2 6 0 (M 0 31) (M 0 32) (ini (M 26) (fun _ => 0) (M 0 6)) (ini (M 27) (fun _ => 1) (M 0 6)) w2 (by omega) (fun l z0 z1 => ⟨by rw [show ini (M 26) (fun _ => 0) (M 0 6) l = 0 from if_pos ⟨z0, z1⟩]; exact (tp_60 0).1.symm, by rw [show ini (M 27) (fun _ => 1) (M 0 6) l = 1 from if_pos ⟨z0, z1⟩]; exact (tp_60 0).2.symm⟩) (by omega)
        rw [m0_self] at L0
        have eo : o = sg (rnC mk (M 8) (M 2) (M 0 6) (M 0 1) ((fun _ : Int => (0 : Int)), ini (M 24) (fun l => if 0 ≤ chS (M 5) (M 9) (M 11) (M 10) l then 1 else 0) (M 0 6)) 0).2 (M 0 6) := by
          rw [ho]
          exact sg_congr (fun l z0 z1 => (show ini (M 24) (fun l => if 0 ≤ chS (M 5) (M 9) (M 11) (M 10) l then 1 else 0) (M 0 6) l = _ from if_pos ⟨z0, z1⟩).symm)
        rw [eo, el]
        exact L0 _
      · have hi6 : i < M 0 6 := h9
        have hcb := chS_bd (kd := M 5) (hd := M 9) (wm := M 11) (am := M 10) (l := i) (hW i h0 hi6).1.1
        have hwb := (hW i h0 hi6).1
        refine r_aldn iX8_findShares_12 rfl ?_
        refine r_getr iX8_findShares_13 flX8_87 rfl rfl ?_
        refine r_ldn iX8_findShares_16 rfl ?_
        refine r_aldn iX8_findShares_17 rfl ?_
        refine r_ldn iX8_findShares_18 rfl ?_
        refine call_V1i iX8_findShares_19 clX8_231 myX8_choose rfl rfl rfl rfl (sX8_choose (M := (m25 M (ini (M 25) (chS (M 5) (M 9) (M 11) (M 10)) i) (ini (M 24) (fun l => if 0 ≤ chS (M 5) (M 9) (M 11) (M 10) l then 1 else 0) i) (ini (M 26) (fun _ => 0) i) (ini (M 27) (fun _ => 1) i))) _ i ⟨h0, hi6⟩ (hH i h0 hi6) hW hA hN) ?_
        change R _ _ _ _ _ _ (vi ((chS (M 5) (M 9) (M 11) (M 10)) i) :: _) _ _
        refine r_ias iX8_findShares_22 rfl (by omega) ?_
        try simp only [m25_a, m25_b, m25_c, m25_e, m25_0, m25_8, m25_25, m25_24, m25_26, m25_27, m0_6, m0_1, m0_k8, fset_s]
        refine r_aldn iX8_findShares_23 rfl ?_
        refine r_getr iX8_findShares_24 flX8_83 rfl rfl ?_
        refine r_ldn iX8_findShares_27 rfl ?_
        refine r_aldn iX8_findShares_28 rfl ?_
        refine r_getr iX8_findShares_29 flX8_87 rfl rfl ?_
        refine r_ldn iX8_findShares_32 rfl ?_
        refine r_ial iX8_findShares_33 rfl (by omega) ?_
        try simp only [m25_a, m25_b, m25_c, m25_e, m25_0, m25_8, m25_25, m25_24, m25_26, m25_27, m0_6, m0_1, m0_k8, fset_s]
        refine r_iflt iX8_findShares_34 (by omega) (fun h34 => ?_) (fun h34 => ?_)
        · refine r_con iX8_findShares_41 ?_
          refine r_zas iX8_findShares_42 rfl (by omega) (by omega) ?_
          try simp only [m25_a, m25_b, m25_c, m25_e, m25_0, m25_8, m25_25, m25_24, m25_26, m25_27, m0_6, m0_1, m0_k8, fset_s]
          refine r_aldn iX8_findShares_43 rfl ?_
          refine r_getr iX8_findShares_44 flX8_90 rfl rfl ?_
          refine r_ldn iX8_findShares_47 rfl ?_
          refine r_lcon (z := 0) iX8_findShares_48 rfl ?_
          refine r_las iX8_findShares_49 rfl (by omega) ?_
          try simp only [m25_a, m25_b, m25_c, m25_e, m25_0, m25_8, m25_25, m25_24, m25_26, m25_27, m0_6, m0_1, m0_k8, fset_s]
          refine r_aldn iX8_findShares_50 rfl ?_
          refine r_getr iX8_findShares_51 flX8_94 rfl rfl ?_
          refine r_ldn iX8_findShares_54 rfl ?_
          refine r_lcon (z := 1) iX8_findShares_55 rfl ?_
          refine r_las iX8_findShares_56 rfl (by omega) ?_
          try simp only [m25_a, m25_b, m25_c, m25_e, m25_0, m25_8, m25_25, m25_24, m25_26, m25_27, m0_6, m0_1, m0_k8, fset_s]
          refine r_ldn iX8_findShares_57 rfl ?_
          refine r_aldn iX8_findShares_58 rfl ?_
          refine r_getr iX8_findShares_59 flX8_83 rfl rfl ?_
          refine r_ldn iX8_findShares_62 rfl ?_
          refine r_zal iX8_findShares_63 rfl (by omega) ?_
          try simp only [m25_a, m25_b, m25_c, m25_e, m25_0, m25_8, m25_25, m25_24, m25_26, m25_27, m0_6, m0_1, m0_k8, fset_s]
          refine r_ifeq iX8_findShares_64 (by omega) (fun h64 => ?_) (fun h64 => ?_)
          · refine r_con iX8_findShares_71 ?_
            refine r_add iX8_findShares_72 ?_
            refine r_stn iX8_findShares_73 (by decide) rfl ?_
            refine r_inc iX8_findShares_74 rfl (by decide) rfl ?_
            refine r_goto iX8_findShares_77 ?_
            try simp only [m25_a, m25_b, m25_c, m25_e, m25_0, m25_8, m25_25, m25_24, m25_26, m25_27, m0_6, m0_1, m0_k8, fset_s]
            have e1 : (if 0 ≤ (chS (M 5) (M 9) (M 11) (M 10)) i then (1 : Int) else 0) = 0 := if_neg (show ¬ 0 ≤ (chS (M 5) (M 9) (M 11) (M 10)) i by omega)
            have f1 := ini_1 (f := M 25) (v := (chS (M 5) (M 9) (M 11) (M 10))) h0
            have f2 := ini_1 (f := M 24) (v := (fun l => if 0 ≤ chS (M 5) (M 9) (M 11) (M 10) l then 1 else 0)) h0
            rw [e1] at f2
            have f3 : fset (ini (M 26) (fun _ => 0) i) i 0 = _ := ini_1 (f := M 26) (v := fun _ => 0) h0
            have f4 : fset (ini (M 27) (fun _ => 1) i) i 1 = _ := ini_1 (f := M 27) (v := fun _ => 1) h0
            rw [f1, f2, f3, f4]
            exact ih (i + 1) _ (by omega) (by omega) (by rw [sg_1 h0, e1, ho]) (by omega)
          · refine r_con iX8_findShares_67 ?_
            refine r_goto iX8_findShares_68 ?_
            refine r_add iX8_findShares_72 ?_
            refine r_stn iX8_findShares_73 (by decide) rfl ?_
            refine r_inc iX8_findShares_74 rfl (by decide) rfl ?_
            refine r_goto iX8_findShares_77 ?_
            try simp only [m25_a, m25_b, m25_c, m25_e, m25_0, m25_8, m25_25, m25_24, m25_26, m25_27, m0_6, m0_1, m0_k8, fset_s]
            exact absurd rfl h64
        · refine r_con iX8_findShares_37 ?_
          refine r_goto iX8_findShares_38 ?_
          refine r_zas iX8_findShares_42 rfl (by omega) (by omega) ?_
          try simp only [m25_a, m25_b, m25_c, m25_e, m25_0, m25_8, m25_25, m25_24, m25_26, m25_27, m0_6, m0_1, m0_k8, fset_s]
          refine r_aldn iX8_findShares_43 rfl ?_
          refine r_getr iX8_findShares_44 flX8_90 rfl rfl ?_
          refine r_ldn iX8_findShares_47 rfl ?_
          refine r_lcon (z := 0) iX8_findShares_48 rfl ?_
          refine r_las iX8_findShares_49 rfl (by omega) ?_
          try simp only [m25_a, m25_b, m25_c, m25_e, m25_0, m25_8, m25_25, m25_24, m25_26, m25_27, m0_6, m0_1, m0_k8, fset_s]
          refine r_aldn iX8_findShares_50 rfl ?_
          refine r_getr iX8_findShares_51 flX8_94 rfl rfl ?_
          refine r_ldn iX8_findShares_54 rfl ?_
          refine r_lcon (z := 1) iX8_findShares_55 rfl ?_
          refine r_las iX8_findShares_56 rfl (by omega) ?_
          try simp only [m25_a, m25_b, m25_c, m25_e, m25_0, m25_8, m25_25, m25_24, m25_26, m25_27, m0_6, m0_1, m0_k8, fset_s]
          refine r_ldn iX8_findShares_57 rfl ?_
          refine r_aldn iX8_findShares_58 rfl ?_
          refine r_getr iX8_findShares_59 flX8_83 rfl rfl ?_
          refine r_ldn iX8_findShares_62 rfl ?_
          refine r_zal iX8_findShares_63 rfl (by omega) ?_
          try simp only [m25_a, m25_b, m25_c, m25_e, m25_0, m25_8, m25_25, m25_24, m25_26, m25_27, m0_6, m0_1, m0_k8, fset_s]
          refine r_ifeq iX8_findShares_64 (by omega) (fun h64 => ?_) (fun h64 => ?_)
          · refine r_con iX8_findShares_71 ?_
            refine r_add iX8_findShares_72 ?_
            refine r_stn iX8_findShares_73 (by decide) rfl ?_
            refine r_inc iX8_findShares_74 rfl (by decide) rfl ?_
            refine r_goto iX8_findShares_77 ?_
            try simp only [m25_a, m25_b, m25_c, m25_e, m25_0, m25_8, m25_25, m25_24, m25_26, m25_27, m0_6, m0_1, m0_k8, fset_s]
            exact absurd h64 (by decide)
          · refine r_con iX8_findShares_67 ?_
            refine r_goto iX8_findShares_68 ?_
            refine r_add iX8_findShares_72 ?_
            refine r_stn iX8_findShares_73 (by decide) rfl ?_
            refine r_inc iX8_findShares_74 rfl (by decide) rfl ?_
            refine r_goto iX8_findShares_77 ?_
            try simp only [m25_a, m25_b, m25_c, m25_e, m25_0, m25_8, m25_25, m25_24, m25_26, m25_27, m0_6, m0_1, m0_k8, fset_s]
            have e1 : (if 0 ≤ (chS (M 5) (M 9) (M 11) (M 10)) i then (1 : Int) else 0) = 1 := if_pos h34
            have f1 := ini_1 (f := M 25) (v := (chS (M 5) (M 9) (M 11) (M 10))) h0
            have f2 := ini_1 (f := M 24) (v := (fun l => if 0 ≤ chS (M 5) (M 9) (M 11) (M 10) l then 1 else 0)) h0
            rw [e1] at f2
            have f3 : fset (ini (M 26) (fun _ => 0) i) i 0 = _ := ini_1 (f := M 26) (v := fun _ => 0) h0
            have f4 : fset (ini (M 27) (fun _ => 1) i) i 1 = _ := ini_1 (f := M 27) (v := fun _ => 1) h0
            rw [f1, f2, f3, f4]
            exact ih (i + 1) _ (by omega) (by omega) (by rw [sg_1 h0, e1, ho]) (by omega)
  refine r_con iX8_findShares_0 ?_
  refine r_stn iX8_findShares_1 (by decide) rfl ?_
  refine r_con iX8_findShares_2 ?_
  refine r_stn iX8_findShares_3 (by decide) rfl ?_
  have L0 := L1 6 0 0 (by omega) (by omega) rfl (by omega)
  rw [ini_0, ini_0, ini_0, ini_0, m25_i] at L0
  exact L0
theorem sX8_share_x (d : Nat) (l w : Int) (hlr : -2147483648 ≤ l ∧ l ≤ 2147483647) (hwr : -2147483648 ≤ w ∧ w ≤ 2147483647) (h : ¬ ((0 ≤ l ∧ l < M 0 6) ∧ 0 ≤ w ∧ w ≤ 1)) (hN : NBm M) : Ex LyM g (d + 4) mX8_share [vr 0, vi l, vi w] M (PI (-1) M) := by
  refine Ex.in [some (vr 0), some (vi l), some (vi w)] (by decide +kernel) rfl (Nat.le_of_ble_eq_true rfl) ?_ rfl
  obtain ⟨hp0, hr, hl, hR, hL⟩ := id hN
  refine r_aldn iX8_share_0 rfl ?_
  refine r_ldn iX8_share_1 rfl ?_
  refine call_V1i iX8_share_2 clX8_142 myX8_isLoad rfl rfl rfl rfl (sX8_isLoad _ _ (by omega) hN) ?_
  refine r_ifeq iX8_share_5 (by split <;> omega) (fun h5 => ?_) (fun h5 => ?_)
  · rw [ite10] at h5
    refine r_con iX8_share_17 ?_
    refine r_iret iX8_share_18 rfl ?_
    exact ⟨rfl, rfl⟩
  · rw [ne_eq, ite10n] at h5
    refine r_ldn iX8_share_8 rfl ?_
    refine r_con iX8_share_9 ?_
    refine r_con iX8_share_10 ?_
    refine call_S3i iX8_share_11 clX8_122 myX8_in rfl (sX8_in _ _ _ _ (by omega)) ?_
    refine r_ifne iX8_share_14 (by split <;> omega) (fun h14 => ?_) (fun h14 => ?_)
    · rw [ne_eq, ite10n] at h14
      exfalso; omega
    · rw [ite10] at h14
      refine r_con iX8_share_17 ?_
      refine r_iret iX8_share_18 rfl ?_
      exact ⟨rfl, rfl⟩
theorem sX8_share_o (d : Nat) (l w : Int) (h : (0 ≤ l ∧ l < M 0 6) ∧ 0 ≤ w ∧ w ≤ 1) (hmk : ∀ l, 0 ≤ l → l < M 0 6 → ∀ r, 0 ≤ r → r < M 0 1 → ((0 ≤ (chS (M 5) (M 9) (M 11) (M 10)) l ∧ hsM (M 12) (M 13) (8 * l + (chS (M 5) (M 9) (M 11) (M 10)) l) r ≠ 0) ↔ bt (mk l) r ≠ 0)) (hH : ∀ l, 0 ≤ l → l < M 0 6 → 0 ≤ M 9 l ∧ M 9 l ≤ 7) (hW : WBm M) (hA : AVm M) (hN : NBm M) : Ex LyM g (d + 4) mX8_share [vr 0, vi l, vi w] M (fun r M' => r = some (vi (if w = 0 then tp ((rnC mk (M 8) (M 2) (M 0 6) (M 0 1) ((fun _ : Int => (0 : Int)), ini (M 24) (fun l => if 0 ≤ chS (M 5) (M 9) (M 11) (M 10) l then 1 else 0) (M 0 6)) (M 0 6).toNat).1 l) else lw ((rnC mk (M 8) (M 2) (M 0 6) (M 0 1) ((fun _ : Int => (0 : Int)), ini (M 24) (fun l => if 0 ≤ chS (M 5) (M 9) (M 11) (M 10) l then 1 else 0) (M 0 6)) (M 0 6).toNat).1 l))) ∧ ∃ a b A R G K, M' = m25 (m0 M a b) A R G K) := by
  refine Ex.in [some (vr 0), some (vi l), some (vi w)] (by decide +kernel) rfl (Nat.le_of_ble_eq_true rfl) ?_ rfl
  obtain ⟨hp0, hr, hl, hR, hL⟩ := id hN
  have hsz : ∀ l, 0 ≤ l → l < M 0 6 → M 8 l ≤ 100 := fun l z0 z1 => (hL l z0 z1).2.2.2.2.2
  have hI0 : Iv mk (M 8) (M 2) (M 0 6) (M 0 1) (ini (fun _ => 0) (fun _ => 0) (M 0 6)) (ini (M 24) (fun l => if 0 ≤ chS (M 5) (M 9) (M 11) (M 10) l then 1 else 0) (M 0 6)) 0 := Iv.init hl (fun l => by by_cases q : 0 ≤ (chS (M 5) (M 9) (M 11) (M 10)) l; right; exact if_pos q; left; exact if_neg q) (fun l z0 z1 => by have := (hL l z0 z1).2.2.2.2; omega) (fun r z0 z1 => (hR r z0 z1).2.1.1)
  have hi0 : ini (fun _ => 0) (fun _ => 0) (M 0 6) = (fun _ => (0 : Int)) := by
    funext j
    simp only [ini]
    split <;> rfl
  rw [hi0] at hI0
  have hiv := fun k => rn_iv (s0 := ((fun _ : Int => (0 : Int)), ini (M 24) (fun l => if 0 ≤ chS (M 5) (M 9) (M 11) (M 10) l then 1 else 0) (M 0 6))) hI0 hsz hl.1 hr.1 k
  have hend := rn_end (s0 := ((fun _ : Int => (0 : Int)), ini (M 24) (fun l => if 0 ≤ chS (M 5) (M 9) (M 11) (M 10) l then 1 else 0) (M 0 6))) hI0 hsz hl.1 hr.1
  have hxb : ∀ l, 0 ≤ l → l < M 0 6 → 0 ≤ (rnC mk (M 8) (M 2) (M 0 6) (M 0 1) ((fun _ : Int => (0 : Int)), ini (M 24) (fun l => if 0 ≤ chS (M 5) (M 9) (M 11) (M 10) l then 1 else 0) (M 0 6)) (M 0 6).toNat).1 l ∧ (rnC mk (M 8) (M 2) (M 0 6) (M 0 1) ((fun _ : Int => (0 : Int)), ini (M 24) (fun l => if 0 ≤ chS (M 5) (M 9) (M 11) (M 10) l then 1 else 0) (M 0 6)) (M 0 6).toNat).1 l ≤ 6000 := fun l z0 z1 => by
    obtain ⟨⟨hp, I⟩, hs⟩ := hiv (M 0 6).toNat
    have e1 := I.b l z0 z1
    have e2 := hsz l z0 z1
    omega
  have hxl := hxb l h.1.1 h.1.2
  have htb := tp_bd hxl.1
  have hlb := lw_bd ((rnC mk (M 8) (M 2) (M 0 6) (M 0 1) ((fun _ : Int => (0 : Int)), ini (M 24) (fun l => if 0 ≤ chS (M 5) (M 9) (M 11) (M 10) l then 1 else 0) (M 0 6)) (M 0 6).toNat).1 l)
  refine r_aldn iX8_share_0 rfl ?_
  refine r_ldn iX8_share_1 rfl ?_
  refine call_V1i iX8_share_2 clX8_142 myX8_isLoad rfl rfl rfl rfl (sX8_isLoad _ _ (by omega) hN) ?_
  refine r_ifeq iX8_share_5 (by split <;> omega) (fun h5 => ?_) (fun h5 => ?_)
  · rw [ite10] at h5
    exfalso; omega
  · rw [ne_eq, ite10n] at h5
    refine r_ldn iX8_share_8 rfl ?_
    refine r_con iX8_share_9 ?_
    refine r_con iX8_share_10 ?_
    refine call_S3i iX8_share_11 clX8_122 myX8_in rfl (sX8_in _ _ _ _ (by omega)) ?_
    refine r_ifne iX8_share_14 (by split <;> omega) (fun h14 => ?_) (fun h14 => ?_)
    · rw [ne_eq, ite10n] at h14
      refine r_aldn iX8_share_19 rfl ?_
      refine call_V0p iX8_share_20 clX8_237 myX8_findShares rfl rfl rfl rfl (sX8_findShares (mk := mk) _ hmk hH hW hA hN) (fun r20 M20 h20 => ?_)
      obtain ⟨e1, a, b, A, R9, G, K, e2, e3⟩ := h20
      subst e1
      subst e2
      refine r_ldn iX8_share_23 rfl ?_
      refine r_ifne iX8_share_24 (by omega) (fun h24 => ?_) (fun h24 => ?_)
      · refine r_aldn iX8_share_36 rfl ?_
        refine r_getr iX8_share_37 flX8_94 rfl rfl ?_
        refine r_ldn iX8_share_40 rfl ?_
        refine r_lal iX8_share_41 rfl (by omega) ?_
        try simp only [m25_a, m25_b, m25_c, m25_e, m25_0, m25_8, m25_25, m25_24, m25_26, m25_27, m0_6, m0_1, m0_k8, fset_s]
        rw [(e3 l h.1.1 h.1.2).2]
        refine r_l2i iX8_share_42 (by omega) ?_
        refine r_iret iX8_share_43 rfl ?_
        exact ⟨by rw [if_neg h24], a, b, A, R9, G, K, rfl⟩
      · refine r_aldn iX8_share_27 rfl ?_
        refine r_getr iX8_share_28 flX8_90 rfl rfl ?_
        refine r_ldn iX8_share_31 rfl ?_
        refine r_lal iX8_share_32 rfl (by omega) ?_
        refine r_goto iX8_share_33 ?_
        try simp only [m25_a, m25_b, m25_c, m25_e, m25_0, m25_8, m25_25, m25_24, m25_26, m25_27, m0_6, m0_1, m0_k8, fset_s]
        rw [(e3 l h.1.1 h.1.2).1]
        refine r_l2i iX8_share_42 (by omega) ?_
        refine r_iret iX8_share_43 rfl ?_
        exact ⟨by rw [if_pos h24], a, b, A, R9, G, K, rfl⟩
    · rw [ite10] at h14
      exfalso; omega
theorem sX8_whole (d : Nat) (hmk : ∀ l, 0 ≤ l → l < M 0 6 → ∀ r, 0 ≤ r → r < M 0 1 → ((0 ≤ (chS (M 5) (M 9) (M 11) (M 10)) l ∧ hsM (M 12) (M 13) (8 * l + (chS (M 5) (M 9) (M 11) (M 10)) l) r ≠ 0) ↔ bt (mk l) r ≠ 0)) (hH : ∀ l, 0 ≤ l → l < M 0 6 → 0 ≤ M 9 l ∧ M 9 l ≤ 7) (hW : WBm M) (hA : AVm M) (hN : NBm M) : Ex LyM g (d + 4) mX8_whole [vr 0] M (fun r M' => r = some (vi (sg (fun l => if (rnC mk (M 8) (M 2) (M 0 6) (M 0 1) ((fun _ : Int => (0 : Int)), ini (M 24) (fun l => if 0 ≤ chS (M 5) (M 9) (M 11) (M 10) l then 1 else 0) (M 0 6)) (M 0 6).toNat).1 l = M 8 l * 60 then 1 else 0) (M 0 6))) ∧ ∃ a b A R G K, M' = m25 (m0 M a b) A R G K) := by
  refine Ex.in [some (vr 0), none, none] (by decide +kernel) rfl (Nat.le_of_ble_eq_true rfl) ?_ rfl
  obtain ⟨hp0, hr, hl, hR, hL⟩ := id hN
  have hsz : ∀ l, 0 ≤ l → l < M 0 6 → M 8 l ≤ 100 := fun l z0 z1 => (hL l z0 z1).2.2.2.2.2
  have hI0 : Iv mk (M 8) (M 2) (M 0 6) (M 0 1) (ini (fun _ => 0) (fun _ => 0) (M 0 6)) (ini (M 24) (fun l => if 0 ≤ chS (M 5) (M 9) (M 11) (M 10) l then 1 else 0) (M 0 6)) 0 := Iv.init hl (fun l => by by_cases q : 0 ≤ (chS (M 5) (M 9) (M 11) (M 10)) l; right; exact if_pos q; left; exact if_neg q) (fun l z0 z1 => by have := (hL l z0 z1).2.2.2.2; omega) (fun r z0 z1 => (hR r z0 z1).2.1.1)
  have hi0 : ini (fun _ => 0) (fun _ => 0) (M 0 6) = (fun _ => (0 : Int)) := by
    funext j
    simp only [ini]
    split <;> rfl
  rw [hi0] at hI0
  have hiv := fun k => rn_iv (s0 := ((fun _ : Int => (0 : Int)), ini (M 24) (fun l => if 0 ≤ chS (M 5) (M 9) (M 11) (M 10) l then 1 else 0) (M 0 6))) hI0 hsz hl.1 hr.1 k
  have hend := rn_end (s0 := ((fun _ : Int => (0 : Int)), ini (M 24) (fun l => if 0 ≤ chS (M 5) (M 9) (M 11) (M 10) l then 1 else 0) (M 0 6))) hI0 hsz hl.1 hr.1
  have hxb : ∀ l, 0 ≤ l → l < M 0 6 → 0 ≤ (rnC mk (M 8) (M 2) (M 0 6) (M 0 1) ((fun _ : Int => (0 : Int)), ini (M 24) (fun l => if 0 ≤ chS (M 5) (M 9) (M 11) (M 10) l then 1 else 0) (M 0 6)) (M 0 6).toNat).1 l ∧ (rnC mk (M 8) (M 2) (M 0 6) (M 0 1) ((fun _ : Int => (0 : Int)), ini (M 24) (fun l => if 0 ≤ chS (M 5) (M 9) (M 11) (M 10) l then 1 else 0) (M 0 6)) (M 0 6).toNat).1 l ≤ 6000 := fun l z0 z1 => by
    obtain ⟨⟨hp, I⟩, hs⟩ := hiv (M 0 6).toNat
    have e1 := I.b l z0 z1
    have e2 := hsz l z0 z1
    omega
  have L : ∀ (n9 : Nat) (i o a b : Int) (A R9 G K : Int → Int), (0 ≤ i) → (i ≤ M 0 6) → (o = sg (fun l => if (rnC mk (M 8) (M 2) (M 0 6) (M 0 1) ((fun _ : Int => (0 : Int)), ini (M 24) (fun l => if 0 ≤ chS (M 5) (M 9) (M 11) (M 10) l then 1 else 0) (M 0 6)) (M 0 6).toNat).1 l = M 8 l * 60 then 1 else 0) i) → (∀ l, 0 ≤ l → l < M 0 6 → G l = tp ((rnC mk (M 8) (M 2) (M 0 6) (M 0 1) ((fun _ : Int => (0 : Int)), ini (M 24) (fun l => if 0 ≤ chS (M 5) (M 9) (M 11) (M 10) l then 1 else 0) (M 0 6)) (M 0 6).toNat).1 l) ∧ K l = lw ((rnC mk (M 8) (M 2) (M 0 6) (M 0 1) ((fun _ : Int => (0 : Int)), ini (M 24) (fun l => if 0 ≤ chS (M 5) (M 9) (M 11) (M 10) l then 1 else 0) (M 0 6)) (M 0 6).toNat).1 l)) → M 0 6 - i < n9 → R LyM g mX8_whole (d + 4) 8 [some (vr 0), some (vi o), some (vi i)] [] (m25 (m0 M a b) A R9 G K) (fun r M' => r = some (vi (sg (fun l => if (rnC mk (M 8) (M 2) (M 0 6) (M 0 1) ((fun _ : Int => (0 : Int)), ini (M 24) (fun l => if 0 ≤ chS (M 5) (M 9) (M 11) (M 10) l then 1 else 0) (M 0 6)) (M 0 6).toNat).1 l = M 8 l * 60 then 1 else 0) (M 0 6))) ∧ ∃ a b A R G K, M' = m25 (m0 M a b) A R G K) := by
    intro n9
    induction n9 with
    | zero =>
      intro i o a b A R9 G K h0 h1 ho e3 hm9
      omega
    | succ n9 ih =>
      intro i o a b A R9 G K h0 h1 ho e3 hm9
      refine r_ldn iX8_whole_8 rfl ?_
      refine r_aldn iX8_whole_9 rfl ?_
      refine r_geti 6 iX8_whole_10 flX8_100 rfl rfl rfl rfl ?_
      try simp only [m25_a, m25_b, m25_c, m25_e, m25_0, m25_8, m25_25, m25_24, m25_26, m25_27, m0_6, m0_1, m0_k8, fset_s]
      refine r_cge iX8_whole_13 (by omega) (fun h13 => ?_) (fun h13 => ?_)
      · refine r_ldn iX8_whole_58 rfl ?_
        refine r_iret iX8_whole_59 rfl ?_
        exact ⟨by rw [ho, show i = M 0 6 by omega], a, b, A, R9, G, K, rfl⟩
      · have hi6 : i < M 0 6 := h13
        have hxi := hxb i h0 hi6
        have htb := tp_bd hxi.1
        have hlb := lw_bd ((rnC mk (M 8) (M 2) (M 0 6) (M 0 1) ((fun _ : Int => (0 : Int)), ini (M 24) (fun l => if 0 ≤ chS (M 5) (M 9) (M 11) (M 10) l then 1 else 0) (M 0 6)) (M 0 6).toNat).1 i)
        have hzi := (hL i h0 hi6).2.2.2.2
        refine r_ldn iX8_whole_16 rfl ?_
        refine r_aldn iX8_whole_17 rfl ?_
        refine r_getr iX8_whole_18 flX8_90 rfl rfl ?_
        refine r_ldn iX8_whole_21 rfl ?_
        refine r_lal iX8_whole_22 rfl (by omega) ?_
        refine r_aldn iX8_whole_23 rfl ?_
        refine r_getr iX8_whole_24 flX8_35 rfl rfl ?_
        refine r_ldn iX8_whole_27 rfl ?_
        refine r_ial iX8_whole_28 rfl (by omega) ?_
        try simp only [m25_a, m25_b, m25_c, m25_e, m25_0, m25_8, m25_25, m25_24, m25_26, m25_27, m0_6, m0_1, m0_k8, fset_s]
        refine r_i2l iX8_whole_29 (by omega) ?_
        try simp only [m25_a, m25_b, m25_c, m25_e, m25_0, m25_8, m25_25, m25_24, m25_26, m25_27, m0_6, m0_1, m0_k8, fset_s]
        rw [(e3 i h0 hi6).1]
        refine r_lcmp iX8_whole_30 (by omega) ?_
        refine r_ifne iX8_whole_31 (by split <;> (try split) <;> omega) (fun h31 => ?_) (fun h31 => ?_)
        · rw [lc_ne] at h31
          refine r_con iX8_whole_49 ?_
          refine r_add iX8_whole_50 ?_
          refine r_stn iX8_whole_51 (by decide) rfl ?_
          refine r_inc iX8_whole_52 rfl (by decide) rfl ?_
          refine r_goto iX8_whole_55 ?_
          exact ih (i + 1) _ a b A R9 G K (by omega) (by omega) (by rw [sg_1 h0, ho, if_neg (fun q => h31 (tp_is.mpr q).1)]) e3 (by omega)
        · rw [lc_eq] at h31
          refine r_aldn iX8_whole_34 rfl ?_
          refine r_getr iX8_whole_35 flX8_94 rfl rfl ?_
          refine r_ldn iX8_whole_38 rfl ?_
          refine r_lal iX8_whole_39 rfl (by omega) ?_
          refine r_lcon (z := 1) iX8_whole_40 rfl ?_
          try simp only [m25_a, m25_b, m25_c, m25_e, m25_0, m25_8, m25_25, m25_24, m25_26, m25_27, m0_6, m0_1, m0_k8, fset_s]
          rw [(e3 i h0 hi6).2]
          refine r_lcmp iX8_whole_41 (by omega) ?_
          refine r_ifne iX8_whole_42 (by split <;> (try split) <;> omega) (fun h42 => ?_) (fun h42 => ?_)
          · rw [lc_ne] at h42
            refine r_con iX8_whole_49 ?_
            refine r_add iX8_whole_50 ?_
            refine r_stn iX8_whole_51 (by decide) rfl ?_
            refine r_inc iX8_whole_52 rfl (by decide) rfl ?_
            refine r_goto iX8_whole_55 ?_
            exact ih (i + 1) _ a b A R9 G K (by omega) (by omega) (by rw [sg_1 h0, ho, if_neg (fun q => h42 (tp_is.mpr q).2)]) e3 (by omega)
          · rw [lc_eq] at h42
            refine r_con iX8_whole_45 ?_
            refine r_goto iX8_whole_46 ?_
            refine r_add iX8_whole_50 ?_
            refine r_stn iX8_whole_51 (by decide) rfl ?_
            refine r_inc iX8_whole_52 rfl (by decide) rfl ?_
            refine r_goto iX8_whole_55 ?_
            exact ih (i + 1) _ a b A R9 G K (by omega) (by omega) (by rw [sg_1 h0, ho, if_pos (tp_is.mp ⟨h31, h42⟩)]) e3 (by omega)
  refine r_aldn iX8_whole_0 rfl ?_
  refine call_V0p iX8_whole_1 clX8_237 myX8_findShares rfl rfl rfl rfl (sX8_findShares (mk := mk) _ hmk hH hW hA hN) (fun r1 M1 h1 => ?_)
  obtain ⟨e1, a, b, A, R9, G, K, e2, e3⟩ := h1
  subst e1
  subst e2
  refine r_con iX8_whole_4 ?_
  refine r_stn iX8_whole_5 (by decide) rfl ?_
  refine r_con iX8_whole_6 ?_
  refine r_stn iX8_whole_7 (by decide) rfl ?_
  exact L 6 0 0 a b A R9 G K (by omega) (by omega) rfl e3 (by omega)
end RO
