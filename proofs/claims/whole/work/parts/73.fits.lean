/-! amounts put; fits; filling; the cut that meets a load -/
theorem mt_pos {f : Int → Int} {q : Int → Bool} {c : Int} (c0 : 1 ≤ c) (hc : q c = true) : ∀ {k : Nat}, c ≤ k → 0 ≤ mt f q k
  | 0, h => by omega
  | k + 1, h => by
    simp only [mt]
    by_cases e : c = (k : Int) + 1
    · split
      · omega
      · rename_i n
        by_cases z : mt f q k < 0
        · exact absurd ⟨by rw [← e]; exact hc, Or.inl z⟩ n
        · omega
    · have := mt_pos (f := f) c0 hc (k := k) (by omega)
      split <;> omega
theorem mt_ok {M : Mem} (hN : NB M) {l : Int} (h0 : 0 ≤ l) (h1 : l < M 1 2) (f : Int → Int) : 0 ≤ mt f (cutQ (M 8 l) (M 9 l)) (2 ^ (M 1 0).toNat - 2 : Int).toNat ∧ mt f (cutQ (M 8 l) (M 9 l)) (2 ^ (M 1 0).toNat - 2 : Int).toNat ≤ 2147483647 := by
  obtain ⟨hp0, hr, hl, hR, hL⟩ := hN
  have ll := hL l h0 h1
  have p1 := pw_le hp0.1 hp0.2
  have p2 := pw_le0 (n := M 8 l) (by omega) (by omega)
  have rg := mt_rng f (cutQ (M 8 l) (M 9 l)) (2 ^ (M 1 0).toNat - 2 : Int).toNat
  have p3 : (2 : Int) ^ (M 8 l).toNat * 2 ≤ 2 ^ (M 1 0).toNat := by
    have e : (2 : Int) ^ (M 8 l).toNat * 2 = 2 ^ (M 8 l + 1).toNat := by rw [show (M 8 l + 1).toNat = (M 8 l).toNat + 1 by omega, Int.pow_succ]
    rw [e]
    by_cases q : M 8 l + 1 = M 1 0
    · rw [q]; exact Int.le_refl _
    · have := pw_lt (n := M 8 l + 1) (m := M 1 0) (by omega) (by omega)
      omega
  have p4 : (4 : Int) ≤ 2 ^ (M 1 0).toNat := by
    have := pw_lt (n := 1) (m := M 1 0) (by omega) (by omega)
    have e : (2 : Int) ^ (1 : Int).toNat = 2 := rfl
    by_cases q : M 1 0 = 2
    · rw [q]; decide
    · have := pw_lt (n := 2) (m := M 1 0) (by omega) (by omega)
      have e : (2 : Int) ^ (2 : Int).toNat = 4 := rfl
      omega
  have h := mt_pos (f := f) (q := cutQ (M 8 l) (M 9 l)) (c := 2 ^ (M 8 l).toNat) (by omega) (by
    have b1 := bt_self (M 8 l)
    have b2 := bt_oth (f := M 8 l) (t := M 9 l) (by omega) (by omega) ll.2.2.2.1
    unfold cutQ
    simp [b1, b2]) (k := (2 ^ (M 1 0).toNat - 2 : Int).toNat) (by omega)
  omega
theorem sg_two {f : Int → Int} {n i j : Int} (h : ∀ i : Int, 0 ≤ i → i < n → 0 ≤ f i) (i0 : 0 ≤ i) (ij : i < j) (jn : j < n) : f i + f j ≤ sg f n := by
  have a := sg_mono' (f := f) (a := j + 1) (b := n) (by omega) (by omega) h
  rw [sg_1 (by omega)] at a
  have b := sg_part (f := f) (n := j) (fun i a b => h i a (by omega)) i0 ij
  omega
theorem fpt_neg {f : Int → Int} {n : Nat} : fpt f n < 0 ↔ ∀ k : Int, 0 ≤ k → k < n → f k = 0 := ⟨fpt_all, fun h => by rw [fpt_no h]; omega⟩
section FV
variable {M N M' : Mem} {am am' : Int → Int} {l i r v : Int}
theorem EA.put (E : EA M am am') (h0 : 0 ≤ l) (h1 : l < M 1 2) (i0 : 0 ≤ i) (i1 : i < M 28 l) (i8 : i < 8) (hv : 0 ≤ v ∧ v ≤ 100) : EA M (fset am (8 * l + i) v) (fset am' (8 * l + i) v) := by
  refine ⟨fun s a b => ?_, fun s a b => ?_⟩
  · by_cases e : s = 8 * l + i
    · rw [e, fset_s]
      exact ⟨hv, fun _ => by rw [show (8 * l + i) / 8 = l by omega, show (8 * l + i) % 8 = i by omega]; exact ⟨h1, i1⟩⟩
    · rw [fset_n e]; exact E.1 s a b
  · by_cases e : s = 8 * l + i
    · rw [e, fset_s, fset_s]
    · rw [fset_n e, fset_n e]; exact E.2 s a b
theorem Fu.put (F : Fu M N) (E : EA M am am') : Inv (mset M 22 am) (mset N 10 am') := by
  obtain ⟨⟨i1, i2, i3, i4, i5, i6⟩, w⟩ := F
  refine ⟨⟨i1.1, fun s a b => ⟨(E.1 s a b).1, fun q => ?_⟩, i1.2.2.1, i1.2.2.2⟩, ⟨i2.1, i2.2.1, E.2, i2.2.2.2⟩, i3, i4, i5, i6.tr (fun k hk => mset_n (by omega)) rfl (fun k hk => mset_n (by omega)) rfl⟩
  have z := (E.1 s a b).2 q
  have c := (w (s / 8) (by omega) z.1).1
  exact ⟨z.1, by show s % 8 < (wsL (M 1) (M 2) (M 3) (M 8 (s / 8)) (M 9 (s / 8))).length; omega⟩
theorem Fu.same (F : Fu M N) : Inv M N := F.1
theorem Fu.hold (F : Fu M N) (h0 : 0 ≤ l) (h1 : l < M 1 2) (i0 : 0 ≤ i) (i1 : i < M 28 l) : Inv (mset M 23 (fset (M 23) l i)) (mset N 9 (fset (N 9) l i)) := by
  have c := (F.2 l h0 h1).1
  have cb := F.cb h0 h1
  obtain ⟨⟨i1', i2, i3, i4, i5, i6⟩, w⟩ := F
  refine ⟨⟨i1'.1, i1'.2.1, fun j a b => ?_, fun j a b => ?_, i1'.2.2.2.2⟩, ⟨i2.1, i2.2.1, i2.2.2.1, fun j a b => ?_⟩, i3, i4, i5, i6.tr (fun k hk => mset_n (by omega)) rfl (fun k hk => mset_n (by omega)) rfl⟩
  · show (0 ≤ (fset (M 23) l i) j ∧ (fset (M 23) l i) j ≤ 7) ∧ ((fset (M 23) l i) j = 0 ∨ (fset (M 23) l i) j < (wsL (M 1) (M 2) (M 3) (M 8 j) (M 9 j)).length)
    by_cases e : j = l
    · rw [e, fset_s]; exact ⟨by omega, Or.inr (by omega)⟩
    · rw [fset_n e]; exact i1'.2.2.1 j a b
  · show (fset (M 23) l i) j = 0
    have a' : M 1 2 ≤ j := a
    rw [fset_n (by omega)]; exact i1'.2.2.2.1 j a b
  · show (fset (M 23) l i) j = (fset (N 9) l i) j
    by_cases e : j = l
    · rw [e, fset_s, fset_s]
    · rw [fset_n e, fset_n e]; exact i2.2.2.2 j a b
theorem Fu.fit (F : Fu M N) : ((∀ l, 0 ≤ l → l < M 1 2 → ttC (M 22) l = M 10 l ∧ (M 7 l = 0 ∨ ptC (M 22) l = 1) ∧ (M 7 l < 2 ∨ fpC (M 22) l = M 23 l)) ∧ fpt (fun r => ovC (M 22) (M 30) (M 4) r) (M 1 1).toNat < 0) ↔ (sg (fun r => if 0 < ovM (N 11) (N 12) (N 13) (N 10) (N 2) (N 0 6) r then 1 else 0) (N 0 1) = 0 ∧ ∀ l, 0 ≤ l → l < N 0 6 → (seM (N 11) (N 10) l = N 8 l ∧ (N 5 l = 0 ∨ nzM (N 11) (N 10) l = 1) ∧ (N 5 l < 2 ∨ 0 < N 10 (8 * l + N 9 l)))) := by
  have E := F.ea
  have I := F.1
  have hN := I.nb
  have n1 := I.n1
  have n2 := I.n2
  have ovb : ∀ r, 0 ≤ r → r < M 1 1 → 0 ≤ ovC (M 22) (M 30) (M 4) r := fun r a b => (ov_bd I.a40 (hN.2.2.2.1 r a b).2.1).1
  have ho : fpt (fun r => ovC (M 22) (M 30) (M 4) r) (M 1 1).toNat < 0 ↔ sg (fun r => if 0 < ovM (N 11) (N 12) (N 13) (N 10) (N 2) (N 0 6) r then (1 : Int) else 0) (N 0 1) = 0 := by
    rw [fpt_neg]
    have x := sg_ex (f := fun r => if 0 < ovM (N 11) (N 12) (N 13) (N 10) (N 2) (N 0 6) r then (1 : Int) else 0) (n := N 0 1) (by have := hN.2.1; omega) (fun l _ _ => by split; exact Or.inr rfl; exact Or.inl rfl)
    constructor
    · intro h
      rcases x with x | ⟨_, r, a, b, c⟩
      · exact x.1
      · have z := h r a (by omega)
        try dsimp only at z
        rw [F.ov E a] at z
        rw [if_neg (by omega)] at c
        omega
    · intro h k a b
      rcases x with x | x
      · have z := x.2 k a (by omega)
        have y := ovb k a (by omega)
        try dsimp only
        rw [F.ov E a] at y ⊢
        by_cases q : 0 < ovM (N 11) (N 12) (N 13) (N 10) (N 2) (N 0 6) k
        · rw [if_pos q] at z; omega
        · omega
      · omega
  have hl : ∀ l, 0 ≤ l → l < M 1 2 → ((ttC (M 22) l = M 10 l ∧ (M 7 l = 0 ∨ ptC (M 22) l = 1) ∧ (M 7 l < 2 ∨ fpC (M 22) l = M 23 l)) ↔ (seM (N 11) (N 10) l = N 8 l ∧ (N 5 l = 0 ∨ nzM (N 11) (N 10) l = 1) ∧ (N 5 l < 2 ∨ 0 < N 10 (8 * l + N 9 l)))) := fun l a b => by
    have hl5 := hN.2.2.1
    have hh := (I.hz l a b).1
    have k7 := (hN.2.2.2.2 l a b).1
    rw [← F.tt E a b, ← F.pt E a b, ← I.r10, ← I.r7, ← I.hd l a b, ← I.am (8 * l + M 23 l) (by omega) (by omega)]
    have key : ptC (M 22) l = 1 → (fpC (M 22) l = M 23 l ↔ 0 < M 22 (8 * l + M 23 l)) := fun hp => by
      have ab := fun i (c : 0 ≤ i) (d : i < 8) => I.a40 (8 * l + i) (by omega) (by omega)
      constructor
      · intro e
        have z := fpt_nz (f := fun i => M 22 (8 * l + i)) (n := 8) (by unfold fpC at e; omega)
        have e' : fpt (fun i => M 22 (8 * l + i)) 8 = M 23 l := e
        rw [e'] at z
        have := ab (M 23 l) (by omega) (by omega)
        try dsimp only at z
        omega
      · intro q
        have b2 := fpt_lt (fun i => M 22 (8 * l + i)) 8
        by_cases c : fpt (fun i => M 22 (8 * l + i)) 8 < 0
        · have := fpt_all c (M 23 l) (by omega) (by omega)
          try dsimp only at this
          omega
        · have z := fpt_nz (f := fun i => M 22 (8 * l + i)) (n := 8) (by omega)
          try dsimp only at z
          unfold fpC ptC at *
          generalize fpt (fun i => M 22 (8 * l + i)) 8 = p at *
          have hf : ∀ i : Int, 0 ≤ i → i < 8 → 0 ≤ (if M 22 (8 * l + i) = 0 then (0 : Int) else 1) := fun i _ _ => by split <;> omega
          by_cases c1 : p < M 23 l
          · have := sg_two (f := fun i => if M 22 (8 * l + i) = 0 then (0 : Int) else 1) (n := 8) (i := p) (j := M 23 l) hf (by omega) c1 (by omega)
            try dsimp only at this
            rw [if_neg z, if_neg (by omega)] at this
            omega
          · by_cases c2 : M 23 l < p
            · have := sg_two (f := fun i => if M 22 (8 * l + i) = 0 then (0 : Int) else 1) (n := 8) (i := M 23 l) (j := p) hf (by omega) c2 (by omega)
              try dsimp only at this
              rw [if_neg z, if_neg (by omega)] at this
              omega
            · omega
    constructor
    · rintro ⟨x1, x2, x3⟩
      refine ⟨x1, x2, ?_⟩
      by_cases c : M 7 l < 2
      · exact Or.inl c
      · exact Or.inr ((key (x2.resolve_left (by omega))).mp (x3.resolve_left c))
    · rintro ⟨x1, x2, x3⟩
      refine ⟨x1, x2, ?_⟩
      by_cases c : M 7 l < 2
      · exact Or.inl c
      · exact Or.inr ((key (x2.resolve_left (by omega))).mpr (x3.resolve_left c))
  rw [ho]
  constructor
  · rintro ⟨x1, x2⟩
    exact ⟨x2, fun l a b => (hl l a (by omega)).mp (x1 l a (by omega))⟩
  · rintro ⟨x1, x2⟩
    exact ⟨fun l a b => (hl l a b).mpr (x2 l a (by omega)), x1⟩
theorem Fu.flsE (F : Fu M N) (E : EA M am am') (h0 : 0 ≤ l) (h1 : l < M 1 2) {w : Int} (hw : 0 ≤ w) (hw2 : w + ttC am l ≤ 100) : ∀ n : Nat, n ≤ M 28 l → (fls (fun am s => frC am (M 30) (M 4) (M 29) (M 31) s) (8 * l) w am n).2 = (fls (fun am s => frM (N 11) (N 12) (N 13) am (N 2) (N 0 6) (N 0 1) s) (8 * l) w am' n).2 ∧ EA M (fls (fun am s => frC am (M 30) (M 4) (M 29) (M 31) s) (8 * l) w am n).1 (fls (fun am s => frM (N 11) (N 12) (N 13) am (N 2) (N 0 6) (N 0 1) s) (8 * l) w am' n).1 ∧ (0 ≤ (fls (fun am s => frC am (M 30) (M 4) (M 29) (M 31) s) (8 * l) w am n).2 ∧ (fls (fun am s => frC am (M 30) (M 4) (M 29) (M 31) s) (8 * l) w am n).2 ≤ w) ∧ ttC (fls (fun am s => frC am (M 30) (M 4) (M 29) (M 31) s) (8 * l) w am n).1 l = ttC am l + (fls (fun am s => frC am (M 30) (M 4) (M 29) (M 31) s) (8 * l) w am n).2
  | 0, _ => ⟨rfl, E, ⟨by simp [fls], by simp [fls]; exact hw⟩, by simp [fls]⟩
  | n + 1, h => by
    have ih := Fu.flsE F E h0 h1 hw hw2 n (by omega)
    have cb := F.cb h0 h1
    have hl5 := F.1.nb.2.2.1
    simp only [fls]
    generalize fls (fun am s => frC am (M 30) (M 4) (M 29) (M 31) s) (8 * l) w am n = x at *
    generalize fls (fun am s => frM (N 11) (N 12) (N 13) am (N 2) (N 0 6) (N 0 1) s) (8 * l) w am' n = y at *
    obtain ⟨e1, e2, e3, e4⟩ := ih
    have fe := F.fr e2 h0 h1 (i := n) (by omega) (by omega)
    have fb := fr_bd (am := x.1) (mk := M 30) (rm := M 4) (st := M 29) (rd := M 31) (8 * l + n)
    have ea := e2.2 (8 * l + n) (by omega) (by omega)
    have tf := tt_fset (am := x.1) (l := l) (i := n) (v := x.1 (8 * l + n) + if frC x.1 (M 30) (M 4) (M 29) (M 31) (8 * l + n) < w - x.2 then frC x.1 (M 30) (M 4) (M 29) (M 31) (8 * l + n) else w - x.2) (by omega) (by omega)
    have tp := tt_part (am := x.1) (l := l) (fun i a b => ((e2.1 (8 * l + i) (by omega) (by omega)).1).1) (i := n) (by omega) (by omega)
    have nn := ((e2.1 (8 * l + n) (by omega) (by omega)).1).1
    rw [← fe, ← e1, ← ea]
    refine ⟨rfl, ?_, ?_, ?_⟩
    · exact e2.put h0 h1 (by omega) (by omega) (by omega) (by split <;> omega)
    · split <;> omega
    · rw [tf]; omega
end FV
