theorem WL.inj {M : Mem} {l : Int} (h : WL M l) (hN : NB M) (hl : 0 ≤ l ∧ l < M 1 2) {i : Int} (h0 : 0 ≤ i) (h1 : i < M 28 l) : ∀ k k', 0 ≤ k → k < M 29 (8 * l + i) → 0 ≤ k' → k' < M 29 (8 * l + i) → M 31 (8 * (8 * l + i) + k) = M 31 (8 * (8 * l + i) + k') → k = k' := by
  intro k k' a0 a1 b0 b1 e
  obtain ⟨w, w1, w2, w3, w4⟩ := h.at h0 h1
  have ok := wsL_ok (w := w) hN.1.2 (hN.2.2.2.2 l hl.1 hl.2).2.2.2.1 (List.mem_of_getElem? w1)
  rw [w2] at a1 b1
  have q1 := w4 k.toNat w[k.toNat] (List.getElem?_eq_getElem (by omega))
  have q2 := w4 k'.toNat w[k'.toNat] (List.getElem?_eq_getElem (by omega))
  rw [show ((k.toNat : Nat) : Int) = k by omega] at q1
  rw [show ((k'.toNat : Nat) : Int) = k' by omega] at q2
  have q3 : w[k.toNat] = w[k'.toNat] := by rw [← q1, ← q2]; exact e
  have pw := List.pairwise_iff_getElem.mp ok.2.2
  by_cases c1 : k.toNat < k'.toNat
  · exact absurd q3 (pw _ _ (by omega) (by omega) c1)
  · by_cases c2 : k'.toNat < k.toNat
    · exact absurd q3.symm (pw _ _ (by omega) (by omega) c2)
    · omega
theorem Bx.box {n : Nat} {fs ls fs' ls' v : Int → Int} (e : ∀ j : Int, 0 ≤ j → j < n → fs j = fs' j ∧ ls j = ls' j) (h : Bx n fs ls v) : Bx n fs' ls' v := fun j a b => by
  have q := e j a b
  rw [← q.1, ← q.2]
  exact h j a b
theorem BsN.box {n : Nat} {fs ls fs' ls' : Int → Int} {fe : (Int → Int) → Prop} {t : Int} (e : ∀ j : Int, 0 ≤ j → j < n → fs j = fs' j ∧ ls j = ls' j) (h : BsN n fs ls fe t) : BsN n fs' ls' fe t :=
  fun v a b => h v (Bx.box (fun j x y => ⟨(e j x y).1.symm, (e j x y).2.symm⟩) a) b
theorem BsS.box {n : Nat} {fs ls fs' ls' : Int → Int} {co : (Int → Int) → Int} {fe : (Int → Int) → Prop} {t c : Int} {b : Int → Int} (e : ∀ j : Int, 0 ≤ j → j < n → fs j = fs' j ∧ ls j = ls' j) (h : BsS n fs ls co fe t c b) : BsS n fs' ls' co fe t c b :=
  ⟨h.1.box e, h.2.1, h.2.2.1, h.2.2.2.1, fun v a b => h.2.2.2.2 v (Bx.box (fun j x y => ⟨(e j x y).1.symm, (e j x y).2.symm⟩) a) b⟩
theorem rk_top {n : Nat} {fs ls v : Int → Int} (hb : ∀ j : Int, 0 ≤ j → j < n → 0 ≤ fs j ∧ ls j ≤ 7) (h : Bx n fs ls v) : 0 ≤ rk v n ∧ rk v n < 8 ^ n := rk_bd (Bx.dg hb h)
theorem p8 {n : Nat} (h : n ≤ 5) : (8 : Int) ^ n ≤ 32768 := by
  have : n = 0 ∨ n = 1 ∨ n = 2 ∨ n = 3 ∨ n = 4 ∨ n = 5 := by omega
  rcases this with rfl | rfl | rfl | rfl | rfl | rfl <;> decide
theorem BsN.all {n : Nat} {fs ls : Int → Int} {fe : (Int → Int) → Prop} (hb : ∀ j : Int, 0 ≤ j → j < n → 0 ≤ fs j ∧ ls j ≤ 7) (h : BsN n fs ls fe (8 ^ n)) : BsN n fs ls fe 32768 := fun v a _ => h v a (rk_top hb a).2
theorem BsS.all {n : Nat} {fs ls : Int → Int} {co : (Int → Int) → Int} {fe : (Int → Int) → Prop} {c : Int} {b : Int → Int} (hn : n ≤ 5) (hb : ∀ j : Int, 0 ≤ j → j < n → 0 ≤ fs j ∧ ls j ≤ 7) (h : BsS n fs ls co fe (8 ^ n) c b) : BsS n fs ls co fe 32768 c b :=
  ⟨h.1, by have := h.2.1; have := p8 hn; omega, h.2.2.1, h.2.2.2.1, fun v a _ => h.2.2.2.2 v a (rk_top hb a).2⟩
def m43 (M : Mem) (A B : Int → Int) : Mem := fun k => if k = 42 then A else if k = 43 then B else M k
theorem m43_42 (M : Mem) (A B : Int → Int) : m43 M A B 42 = A := rfl
theorem m43_43 (M : Mem) (A B : Int → Int) : m43 M A B 43 = B := rfl
theorem m43_o {M : Mem} {A B : Int → Int} {k : Nat} (h : ¬ k = 42 ∧ ¬ k = 43) : m43 M A B k = M k := by
  simp only [m43]
  rw [if_neg h.1, if_neg h.2]
theorem m43_s42 (M : Mem) (A B X : Int → Int) : mset (m43 M A B) 42 X = m43 M X B := by
  funext k
  simp only [mset, m43]
  by_cases h : k = 42
  · rw [if_pos h, if_pos h]
  · rw [if_neg h, if_neg h, if_neg h]
theorem m43_s43 (M : Mem) (A B X : Int → Int) : mset (m43 M A B) 43 X = m43 M A X := by
  funext k
  simp only [mset, m43]
  by_cases h : k = 43
  · rw [if_pos h, if_pos h, if_neg (by omega)]
  · rw [if_neg h, if_neg h, if_neg h]
theorem m43_id (M : Mem) : m43 M (M 42) (M 43) = M := by
  funext k
  simp only [m43]
  by_cases h : k = 42
  · rw [if_pos h, h]
  · rw [if_neg h]
    by_cases h2 : k = 43
    · rw [if_pos h2, h2]
    · rw [if_neg h2]
/-- the search begins -/
def sb (M : Mem) : Mem := mset (mset M 39 (fset (M 39) 0 1000000000)) 46 (M 4)
theorem sb_o {M : Mem} {k : Nat} (h : ¬ k = 39 ∧ ¬ k = 46) : sb M k = M k := by
  unfold sb
  rw [mset_n h.2, mset_n h.1]
def SX (M : Mem) (z c : Int) (b : Int → Int) : Prop := (z = 0 ∧ BsN (M 1 2).toNat (fsM (M 7) (M 23)) (lsM (M 7) (M 23) (M 28)) (fun c => feF (M 29) (M 31) (M 10) (M 4) (M 1 2) (M 1 1) c) 32768) ∨ (z = 1 ∧ 0 ≤ c ∧ BsS (M 1 2).toNat (fsM (M 7) (M 23)) (lsM (M 7) (M 23) (M 28)) (fun c => coF (M 29) (M 31) (M 10) (M 5) c (M 1 2)) (fun c => feF (M 29) (M 31) (M 10) (M 4) (M 1 2) (M 1 1) c) 32768 c b)
theorem CC_of {M : Mem} {A B CT LF : Int → Int} (hW : ∀ l, 0 ≤ l → l < M 1 2 → WL M l) (hN : NB M) (hA : ∀ j, 0 ≤ j → j < M 1 2 → 0 ≤ A j ∧ A j ≤ B j ∧ B j < M 28 j) (w1 : ∀ j, -1 < j → j < M 1 2 → ∀ i, A j ≤ i → i ≤ B j → CT (8 * j + i) = M 10 j * prC (M 5) (M 29) (M 31) (8 * j + i) ∧ LF j ≤ LF (j + 1) + CT (8 * j + i)) (w2 : LF (M 1 2) = 0) (w3 : ∀ j, -1 < j → j ≤ M 1 2 → 0 ≤ LF j ∧ LF j ≤ 40000 * (M 1 2 - j)) : CC (m45 (m43 (sb M) A B) CT LF) := by
  obtain ⟨hp0, hr, hl, hR, hL⟩ := id hN
  refine ⟨hl, fun r a b => ⟨(hR r a b).2.1, (hR r a b).2.2.1⟩, fun j a b => ?_, fun j i a b c d => ?_, w2, fun j a b => ?_⟩
  · have q := hA j a b
    have q2 := (hW j a b).cnt
    have q3 := hL j a b
    refine ⟨⟨q.1, q.2.1, ?_⟩, q3.2.2.2.2⟩
    show B j ≤ 7
    omega
  · have q : 0 ≤ A j ∧ A j ≤ B j ∧ B j < M 28 j := hA j a b
    have c' : A j ≤ i := c
    have d' : i ≤ B j := d
    have v := (hW j a b).vs hN ⟨a, b⟩ (i := i) (by omega) (by omega)
    have w := w1 j (by omega) b i c d
    exact ⟨v.1, v.2.2, (hW j a b).inj hN ⟨a, b⟩ (by omega) (by omega), w.1, w.2⟩
  · have q := w3 j (by omega) b
    have b' : j ≤ M 1 2 := b
    have q' : 0 ≤ LF j ∧ LF j ≤ 40000 * (M 1 2 - j) := q
    show 0 ≤ LF j ∧ LF j ≤ 200000
    omega
section CN
variable {g : Gt} {M : Mem}
theorem sX0_search (d : Nat) (hH : ∀ l, 0 ≤ l → l < M 1 2 → 0 ≤ M 23 l ∧ M 23 l ≤ 7) (hW : ∀ l, 0 ≤ l → l < M 1 2 → WL M l) (hN : NB M) : Ex LyC g (d + 9) mX0_search [vr 39, vr 1, vr 27, vr 21] M (fun q M' => ∃ z, q = some (vi z) ∧ (∀ k, k < 39 ∨ 46 < k → M' k = M k) ∧ SX M z (M' 39 0) (M' 40)) := by
  refine Ex.in [some (vr 39), some (vr 1), some (vr 27), some (vr 21), none, none] (by decide +kernel) rfl (Nat.le_of_ble_eq_true rfl) ?_ rfl
  obtain ⟨hp0, hr, hl, hR, hL⟩ := id hN
  have L : ∀ (n9 : Nat) (A B : Int → Int) (i : Int) (w5 : Option MV), (0 ≤ i) → (i ≤ M 1 2) → (∀ j, 0 ≤ j → j < i → A j = (fsM (M 7) (M 23)) j ∧ B j = (lsM (M 7) (M 23) (M 28)) j ∧ 0 ≤ A j ∧ A j ≤ B j ∧ B j < M 28 j) → M 1 2 - i < n9 → R LyC g mX0_search (d + 9) 24 [some (vr 39), some (vr 1), some (vr 27), some (vr 21), some (vi i), w5] [] (m43 (sb M) A B) (fun q M' => ∃ z, q = some (vi z) ∧ (∀ k, k < 39 ∨ 46 < k → M' k = M k) ∧ SX M z (M' 39 0) (M' 40)) := by
    intro n9
    induction n9 with
    | zero =>
      intro A B i w5 h0 h1 u1 hm9
      omega
    | succ n9 ih =>
      intro A B i w5 h0 h1 u1 hm9
      refine r_ld iX0_search_24 rfl ?_
      refine r_aldn iX0_search_26 rfl ?_
      refine r_geti 2 iX0_search_27 flX0_49 rfl rfl rfl rfl ?_
      try simp only [m43_42, m43_43, m43_o, m43_s42, m43_s43, sb_o, Nat.reduceEqDiff, not_false_eq_true, and_self, fset_s]
      refine r_cge iX0_search_30 (by omega) (fun h30 => ?_) (fun h30 => ?_)
      · have hi : i = M 1 2 := by omega
        have hWB := WB_of hN hW
        refine r_aldn iX0_search_129 rfl ?_
        refine r_aldn iX0_search_130 rfl ?_
        refine r_aldn iX0_search_131 rfl ?_
        refine call_V2p iX0_search_132 clX0_69 myX0_weigh rfl rfl rfl rfl (sX0_weigh (M := (m43 (sb M) A B)) _ (fun j a b => (u1 j a (by rw [hi]; exact b)).2.2) (fun l a b => by exact hWB l a b) hN) (fun r132 M132 h132 => ?_)
        obtain ⟨c1, CT, LF, c2, c3, c4, c5⟩ := h132
        subst c1
        subst c2
        have hCC := CC_of hW hN (fun j a b => (u1 j a (by omega)).2.2) c3 c4 c5
        refine r_aldn iX0_search_135 rfl ?_
        refine r_aldn iX0_search_136 rfl ?_
        refine r_aldn iX0_search_137 rfl ?_
        refine r_con iX0_search_138 ?_
        refine r_con iX0_search_139 ?_
        have hch := sX0_choose (g := g) (m45 (m43 (sb M) A B) CT LF) hCC hN (fun j i a b c e => (hW j a b).vs hN ⟨a, b⟩ (by have q : 0 ≤ A j ∧ A j ≤ B j ∧ B j < M 28 j := (u1 j a (by rw [hi]; exact b)).2.2; have c2 : A j ≤ i := c; omega) (by have q : 0 ≤ A j ∧ A j ≤ B j ∧ B j < M 28 j := (u1 j a (by rw [hi]; exact b)).2.2; have e2 : i ≤ B j := e; omega)) (M 1 2).toNat (d + (6 - (M 1 2).toNat)) (m45 (m43 (sb M) A B) CT LF) 0 0 0 rfl (by show (0 : Int) + ((M 1 2).toNat : Nat) = M 1 2; omega) (fun _ _ _ _ _ => rfl) (fun j a b => by omega) rfl (fun r a b => ?A1) ?A2 ?A3
        case A1 =>
          have q := (hR r a b).2.1
          show M 4 r = M 4 r - 0 ∧ 0 ≤ M 4 r ∧ M 4 r ≤ 100
          omega
        case A2 =>
          show 0 + LF 0 < 1000000000
          have q := c5 0 (by omega) hl.1
          have q2 : 0 ≤ LF 0 ∧ LF 0 ≤ 40000 * (M 1 2 - 0) := q
          omega
        case A3 =>
          refine Or.inl ⟨rfl, fun v hv hlt _ => ?_⟩
          have q := (rk_top hCC.hb hv).1
          have q2 : rk v (M 1 2).toNat < 0 * 8 ^ ((M 1 2).toNat - 0) := hlt
          have q3 : 0 ≤ rk v (M 1 2).toNat := q
          omega
        refine call_S5p iX0_search_140 clX0_73 myX0_choose rfl (Ex.dep (by show d + (6 - (M 1 2).toNat) + 2 + (M 1 2).toNat = d + 8; omega) hch) (fun r140 M140 h140 => ?_)
        obtain ⟨b1, b2, b3, b4⟩ := h140
        subst b1
        have b5 := StP.le b4
        have b6 := SP.ge hCC b4
        refine r_aldn iX0_search_143 rfl ?_
        refine r_geti 0 iX0_search_144 flX0_12 rfl rfl rfl rfl ?_
        refine r_ldc (n := 1000000000) iX0_search_147 cnX0_11 (by decide) ?_
        refine r_cge iX0_search_149 (by omega) (fun h149 => ?_) (fun h149 => ?_)
        · refine r_con iX0_search_156 ?_
          refine r_zret iX0_search_157 rfl (by omega) ?_
          refine ⟨_, rfl, fun k hk => ?_, ?_⟩
          · rw [b2 k (by omega) (by omega) (by omega), m45_o (by omega), m43_o (by omega), sb_o (by omega)]
          · have hbx : ∀ j : Int, 0 ≤ j → j < (((M 1 2).toNat : Nat) : Int) → A j = (fsM (M 7) (M 23)) j ∧ B j = (lsM (M 7) (M 23) (M 28)) j := fun j a b => ⟨(u1 j a (by omega)).1, (u1 j a (by omega)).2.1⟩
            have b7 : StP (M 1 2).toNat A B (fun c => coF (M 29) (M 31) (M 10) (M 5) c (M 1 2)) (fun c => feF (M 29) (M 31) (M 10) (M 4) (M 1 2) (M 1 1) c) ((0 + 1) * 8 ^ ((M 1 2).toNat - 0)) (M140 39 0) (M140 40) := b4
            rw [Int.zero_add, Int.one_mul, Nat.sub_zero] at b7
            rcases b7 with ⟨x1, x2⟩ | ⟨x1, x2⟩
            · exact Or.inl ⟨rfl, (x2.all hCC.hb).box hbx⟩
            · exfalso; omega
        · refine r_con iX0_search_152 ?_
          refine r_goto iX0_search_153 ?_
          refine r_zret iX0_search_157 rfl (by omega) ?_
          refine ⟨_, rfl, fun k hk => ?_, ?_⟩
          · rw [b2 k (by omega) (by omega) (by omega), m45_o (by omega), m43_o (by omega), sb_o (by omega)]
          · have hbx : ∀ j : Int, 0 ≤ j → j < (((M 1 2).toNat : Nat) : Int) → A j = (fsM (M 7) (M 23)) j ∧ B j = (lsM (M 7) (M 23) (M 28)) j := fun j a b => ⟨(u1 j a (by omega)).1, (u1 j a (by omega)).2.1⟩
            have b7 : StP (M 1 2).toNat A B (fun c => coF (M 29) (M 31) (M 10) (M 5) c (M 1 2)) (fun c => feF (M 29) (M 31) (M 10) (M 4) (M 1 2) (M 1 1) c) ((0 + 1) * 8 ^ ((M 1 2).toNat - 0)) (M140 39 0) (M140 40) := b4
            rw [Int.zero_add, Int.one_mul, Nat.sub_zero] at b7
            rcases b7 with ⟨x1, x2⟩ | ⟨x1, x2⟩
            · exfalso; omega
            · exact Or.inr ⟨rfl, b6, (x2.all (show (M 1 2).toNat ≤ 5 by omega) hCC.hb).box hbx⟩
      · have hll := hL i h0 h30
        have hci := (hW i h0 h30).cnt
        have hhi := hH i h0 h30
        refine r_aldn iX0_search_33 rfl ?_
        refine r_getr iX0_search_34 flX0_52 rfl rfl ?_
        refine r_ld iX0_search_37 rfl ?_
        refine r_ial iX0_search_39 rfl (by omega) ?_
        refine r_con iX0_search_40 ?_
        try simp only [m43_42, m43_43, m43_o, m43_s42, m43_s43, sb_o, Nat.reduceEqDiff, not_false_eq_true, and_self, fset_s]
        refine r_cne iX0_search_41 (by omega) (fun h41 => ?_) (fun h41 => ?_)
        · refine r_con iX0_search_48 ?_
          have hkd : ¬ M 7 i = 2 := h41
          refine r_st iX0_search_49 (by decide) rfl ?_
          refine r_aldn iX0_search_51 rfl ?_
          refine r_getr iX0_search_52 flX0_23 rfl rfl ?_
          refine r_ld iX0_search_55 rfl ?_
          refine r_ld iX0_search_57 rfl ?_
          refine r_ifeq iX0_search_59 (by omega) (fun h59 => ?_) (fun h59 => ?_)
          · refine r_con iX0_search_72 ?_
            try simp only [m43_42, m43_43, m43_o, m43_s42, m43_s43, sb_o, Nat.reduceEqDiff, not_false_eq_true, and_self, fset_s]
            refine r_ias iX0_search_73 rfl (by omega) ?_
            refine r_aldn iX0_search_74 rfl ?_
            refine r_getr iX0_search_75 flX0_26 rfl rfl ?_
            refine r_ld iX0_search_78 rfl ?_
            refine r_ld iX0_search_80 rfl ?_
            refine r_ifeq iX0_search_82 (by omega) (fun h82 => ?_) (fun h82 => ?_)
            · refine r_aldn iX0_search_95 rfl ?_
              refine r_getr iX0_search_96 flX0_60 rfl rfl ?_
              refine r_ld iX0_search_99 rfl ?_
              refine r_ial iX0_search_101 rfl (by omega) ?_
              refine r_con iX0_search_102 ?_
              refine r_sub iX0_search_103 ?_
              try simp only [m43_42, m43_43, m43_o, m43_s42, m43_s43, sb_o, Nat.reduceEqDiff, not_false_eq_true, and_self, fset_s]
              refine r_ias iX0_search_104 rfl (by omega) ?_
              refine r_aldn iX0_search_105 rfl ?_
              refine r_ld iX0_search_106 rfl ?_
              refine r_aldn iX0_search_108 rfl ?_
              refine r_getr iX0_search_109 flX0_26 rfl rfl ?_
              refine r_ld iX0_search_112 rfl ?_
              refine r_ial iX0_search_114 rfl (by omega) ?_
              try simp only [m43_42, m43_43, m43_o, m43_s42, m43_s43, sb_o, Nat.reduceEqDiff, not_false_eq_true, and_self, fset_s]
              refine call_V2i iX0_search_115 clX0_65 myX6_has rfl rfl rfl rfl (sX6_has (M := m43 (sb M) (fset A i (0)) (fset B i (M 28 i - 1))) _ _ _ (by omega) (by omega) hci) ?_
              try simp only [m43_42, m43_43, m43_o, m43_s42, m43_s43, sb_o, Nat.reduceEqDiff, not_false_eq_true, and_self, fset_s]
              refine r_ifne iX0_search_118 (by split <;> omega) (fun h118 => ?_) (fun h118 => ?_)
              · rw [ne_eq, ite10n] at h118
                refine r_inc iX0_search_123 rfl (by decide) rfl ?_
                refine r_goto iX0_search_126 ?_
                refine ih (fset A i (0)) (fset B i (M 28 i - 1)) (i + 1) _ (by omega) (by omega) (fun j q0 q1 => ?_) (by omega)
                by_cases e : j = i
                · subst e
                  rw [fset_s, fset_s]
                  unfold fsM lsM
                  rw [if_neg hkd, if_neg (by omega)]
                  have q5 := hH j q0 h30
                  refine ⟨rfl, rfl, ?_⟩
                  omega
                · rw [fset_n e, fset_n e]; exact u1 j q0 (by omega)
              · rw [ite10] at h118
                refine r_con iX0_search_121 ?_
                refine r_zret iX0_search_122 rfl (by omega) ?_
                refine ⟨0, rfl, fun k hk => ?_, Or.inl ⟨rfl, fun v hv _ _ => ?_⟩⟩
                · rw [m43_o (by omega), sb_o (by omega)]
                · have q := hv i h0 (by omega)
                  have q1 := hH i h0 h30
                  unfold fsM lsM at q
                  rw [if_neg hkd, if_neg (by omega)] at q; omega
            · exfalso; omega
          · exfalso; omega
        · refine r_con iX0_search_44 ?_
          refine r_goto iX0_search_45 ?_
          have hkd : M 7 i = 2 := h41
          refine r_st iX0_search_49 (by decide) rfl ?_
          refine r_aldn iX0_search_51 rfl ?_
          refine r_getr iX0_search_52 flX0_23 rfl rfl ?_
          refine r_ld iX0_search_55 rfl ?_
          refine r_ld iX0_search_57 rfl ?_
          refine r_ifeq iX0_search_59 (by omega) (fun h59 => ?_) (fun h59 => ?_)
          · exfalso; omega
          · refine r_aldn iX0_search_62 rfl ?_
            refine r_getr iX0_search_63 flX0_55 rfl rfl ?_
            refine r_ld iX0_search_66 rfl ?_
            refine r_ial iX0_search_68 rfl (by omega) ?_
            refine r_goto iX0_search_69 ?_
            try simp only [m43_42, m43_43, m43_o, m43_s42, m43_s43, sb_o, Nat.reduceEqDiff, not_false_eq_true, and_self, fset_s]
            refine r_ias iX0_search_73 rfl (by omega) ?_
            refine r_aldn iX0_search_74 rfl ?_
            refine r_getr iX0_search_75 flX0_26 rfl rfl ?_
            refine r_ld iX0_search_78 rfl ?_
            refine r_ld iX0_search_80 rfl ?_
            refine r_ifeq iX0_search_82 (by omega) (fun h82 => ?_) (fun h82 => ?_)
            · exfalso; omega
            · refine r_aldn iX0_search_85 rfl ?_
              refine r_getr iX0_search_86 flX0_55 rfl rfl ?_
              refine r_ld iX0_search_89 rfl ?_
              refine r_ial iX0_search_91 rfl (by omega) ?_
              refine r_goto iX0_search_92 ?_
              try simp only [m43_42, m43_43, m43_o, m43_s42, m43_s43, sb_o, Nat.reduceEqDiff, not_false_eq_true, and_self, fset_s]
              refine r_ias iX0_search_104 rfl (by omega) ?_
              refine r_aldn iX0_search_105 rfl ?_
              refine r_ld iX0_search_106 rfl ?_
              refine r_aldn iX0_search_108 rfl ?_
              refine r_getr iX0_search_109 flX0_26 rfl rfl ?_
              refine r_ld iX0_search_112 rfl ?_
              refine r_ial iX0_search_114 rfl (by omega) ?_
              try simp only [m43_42, m43_43, m43_o, m43_s42, m43_s43, sb_o, Nat.reduceEqDiff, not_false_eq_true, and_self, fset_s]
              refine call_V2i iX0_search_115 clX0_65 myX6_has rfl rfl rfl rfl (sX6_has (M := m43 (sb M) (fset A i (M 23 i)) (fset B i (M 23 i))) _ _ _ (by omega) (by omega) hci) ?_
              try simp only [m43_42, m43_43, m43_o, m43_s42, m43_s43, sb_o, Nat.reduceEqDiff, not_false_eq_true, and_self, fset_s]
              refine r_ifne iX0_search_118 (by split <;> omega) (fun h118 => ?_) (fun h118 => ?_)
              · rw [ne_eq, ite10n] at h118
                refine r_inc iX0_search_123 rfl (by decide) rfl ?_
                refine r_goto iX0_search_126 ?_
                refine ih (fset A i (M 23 i)) (fset B i (M 23 i)) (i + 1) _ (by omega) (by omega) (fun j q0 q1 => ?_) (by omega)
                by_cases e : j = i
                · subst e
                  rw [fset_s, fset_s]
                  unfold fsM lsM
                  rw [if_pos hkd, if_pos (by omega)]
                  have q5 := hH j q0 h30
                  refine ⟨rfl, rfl, ?_⟩
                  omega
                · rw [fset_n e, fset_n e]; exact u1 j q0 (by omega)
              · rw [ite10] at h118
                refine r_con iX0_search_121 ?_
                refine r_zret iX0_search_122 rfl (by omega) ?_
                refine ⟨0, rfl, fun k hk => ?_, Or.inl ⟨rfl, fun v hv _ _ => ?_⟩⟩
                · rw [m43_o (by omega), sb_o (by omega)]
                · have q := hv i h0 (by omega)
                  have q1 := hH i h0 h30
                  unfold fsM lsM at q
                  rw [if_pos hkd, if_neg (by omega)] at q; omega
  refine r_aldn iX0_search_0 rfl ?_
  refine r_ldc (n := 1000000000) iX0_search_1 cnX0_11 (by decide) ?_
  refine r_puti 0 iX0_search_3 fpX0_12 rfl rfl rfl ?_
  refine r_aldn iX0_search_6 rfl ?_
  refine r_getr iX0_search_7 flX0_38 rfl rfl ?_
  refine r_con iX0_search_10 ?_
  refine r_aldn iX0_search_11 rfl ?_
  refine r_getr iX0_search_12 flX0_35 rfl rfl ?_
  refine r_con iX0_search_15 ?_
  refine r_bip iX0_search_16 (by decide) ?_
  refine r_copy iX0_search_18 clX0_43 rfl rfl rfl rfl ?_
  refine r_con iX0_search_21 ?_
  refine r_st iX0_search_22 (by decide) rfl ?_
  have L0 := L 6 (sb M 42) (sb M 43) 0 none (by omega) (by omega) (fun j q0 q1 => by omega) (by omega)
  rw [m43_id] at L0
  exact L0
end CN
