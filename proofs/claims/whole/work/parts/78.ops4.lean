theorem Co.sc {sc sc' a b rm pr ln kd fr to sz am hd : Int → Int} (h0 : sc 0 = sc' 0) (h1 : sc 1 = sc' 1) (h2 : sc 2 = sc' 2) (h : Co sc a b rm pr ln kd fr to sz am hd) : Co sc' a b rm pr ln kd fr to sz am hd := by
  have e : ∀ s t, wsL sc a b s t = wsL sc' a b s t := wsL_sc h0 h1
  unfold Co netB at *
  simp only [e] at h
  rw [h0, h1, h2] at h
  exact h
theorem kp2_out {f v0 v1 : Int → Int} {r : Int} : ∀ {n : Nat}, ¬ (0 ≤ r ∧ r < n) → kp2 f v0 v1 n (2 * r) = f (2 * r) ∧ kp2 f v0 v1 n (2 * r + 1) = f (2 * r + 1)
  | 0, _ => ⟨rfl, rfl⟩
  | n + 1, h => by
    have ih := kp2_out (f := f) (v0 := v0) (v1 := v1) (r := r) (n := n) (by omega)
    simp only [kp2]
    rw [fset_n (by omega), fset_n (by omega), fset_n (by omega), fset_n (by omega)]
    exact ih
section OT
variable {M N : Mem}
theorem Inv.road (I : Inv M N) {p q rm pr lo hi : Int} (hf : M 1 1 < 20) (h1 : 0 ≤ lo ∧ lo < hi ∧ hi < M 1 0) (h2 : 0 ≤ rm ∧ rm ≤ 100) (h3 : 0 ≤ pr ∧ pr ≤ 50) (elo : (if q < p then q else p) = lo) (ehi : (if p < q then q else p) = hi) : CoM (rdC M p q rm pr) ∧ Re (rdC M p q rm pr) (rdM N lo hi rm pr) ∧ (FO (rdC M p q rm pr) ∧ ∀ l, (rdC M p q rm pr) 1 2 ≤ l → l < 5 → (rdC M p q rm pr) 32 l = 0) ∧ SH (rdC M p q rm pr) ∧ KE (rdC M p q rm pr) (rdM N lo hi rm pr) := by
  obtain ⟨i1, i2, i3, i4, i5, i6⟩ := I
  obtain ⟨⟨n1, n2, n3, n4, n5⟩, c2, c3, c4, ⟨z1, z2, z3, z4, z5⟩, z6⟩ := i1
  obtain ⟨⟨r0, r1, r2⟩, ⟨b2, b3, b4, b5, b6, b7, b8, b9, b10⟩, am, hd⟩ := i2
  have hz : ∀ s, 0 ≤ s → s < 40 → fillN (M 22) 40 0 s = 0 := fun s a b => by unfold fillN; rw [if_pos ⟨a, b⟩]
  have hz5 : ∀ (f : Int → Int) (s : Int), 0 ≤ s → s < 5 → fillN f 5 0 s = 0 := fun f s a b => by unfold fillN; rw [if_pos ⟨a, b⟩]
  have e1 : (rdC M p q rm pr) 1 1 = M 1 1 + 1 := rfl
  refine ⟨⟨⟨n1, ⟨by show 0 ≤ M 1 1 + 1; omega, by show M 1 1 + 1 ≤ 20; omega⟩, n3, fun r a b => ?_, n5⟩, fun s a b => ?_, fun l a b => ?_, fun l a b => ?_, ⟨?_, ?_, z3.put n2.1 hf, z4.put n2.1 hf, z5.put n2.1 hf⟩, z6⟩, ⟨⟨r0, by show M 1 1 + 1 = N 0 1 + 1; omega, r2⟩, ⟨?_, ?_, by show fset (M 4) (M 1 1) rm = fset (N 2) (N 0 1) rm; rw [b4, r1], by show fset (M 5) (M 1 1) pr = fset (N 3) (N 0 1) pr; rw [b5, r1], by show fset (M 6) (M 1 1) 1 = fset (N 4) (N 0 1) 1; rw [b6, r1], b7, b8, b9, b10⟩, fun s a b => ?_, fun l a b => ?_⟩, ⟨⟨i3.1.1, fun l a b => ?_, fun l a b c => ?_⟩, fun l a b => ?_⟩, i4, i6.tr (fun k hk => ?_) rfl (fun k hk => ?_) rfl⟩
  · have b' : r < M 1 1 + 1 := b
    show (0 ≤ fset (M 2) (M 1 1) (if q < p then q else p) r ∧ fset (M 2) (M 1 1) (if q < p then q else p) r < fset (M 3) (M 1 1) (if p < q then q else p) r ∧ fset (M 3) (M 1 1) (if p < q then q else p) r < M 1 0) ∧ (0 ≤ fset (M 4) (M 1 1) rm r ∧ fset (M 4) (M 1 1) rm r ≤ 100) ∧ (0 ≤ fset (M 5) (M 1 1) pr r ∧ fset (M 5) (M 1 1) pr r ≤ 50) ∧ (0 ≤ fset (M 6) (M 1 1) 1 r ∧ fset (M 6) (M 1 1) 1 r ≤ 20)
    by_cases e : r = M 1 1
    · rw [e, fset_s, fset_s, fset_s, fset_s, fset_s, elo, ehi]
      exact ⟨h1, h2, h3, by omega⟩
    · rw [fset_n e, fset_n e, fset_n e, fset_n e, fset_n e]
      exact n4 r a (by omega)
  · show (0 ≤ fillN (M 22) 40 0 s ∧ fillN (M 22) 40 0 s ≤ 100) ∧ (fillN (M 22) 40 0 s ≠ 0 → _)
    rw [hz s a b]
    exact ⟨by omega, fun x => absurd rfl x⟩
  · have b' : l < M 1 2 := b
    show (0 ≤ fillN (M 23) 5 0 l ∧ fillN (M 23) 5 0 l ≤ 7) ∧ (fillN (M 23) 5 0 l = 0 ∨ _)
    rw [hz5 _ l a (by omega)]
    exact ⟨by omega, Or.inl rfl⟩
  · have a' : M 1 2 ≤ l := a
    exact hz5 _ l (by omega) b
  · exact z1.put n2.1 hf
  · exact z2.put n2.1 hf
  · show fset (M 2) (M 1 1) (if q < p then q else p) = fun r => (fset (fset (N 1) (2 * N 0 1) lo) (2 * N 0 1 + 1) hi) (2 * r)
    funext r
    rw [elo, b2, r1]
    by_cases e : r = N 0 1
    · rw [e, fset_s, fset_n (show ¬ 2 * N 0 1 = 2 * N 0 1 + 1 by omega), fset_s]
    · rw [fset_n e, fset_n (show ¬ 2 * r = 2 * N 0 1 + 1 by omega), fset_n (show ¬ 2 * r = 2 * N 0 1 by omega)]; rfl
  · show fset (M 3) (M 1 1) (if p < q then q else p) = fun r => (fset (fset (N 1) (2 * N 0 1) lo) (2 * N 0 1 + 1) hi) (2 * r + 1)
    funext r
    rw [ehi, b3, r1]
    by_cases e : r = N 0 1
    · rw [e, fset_s, fset_s]
    · rw [fset_n e, fset_n (by omega), fset_n (by omega)]; rfl
  · have b' : s < 8 * M 1 2 := b
    show fillN (M 22) 40 0 s = ini (N 10) (fun _ => 0) 40 s
    rw [hz s a (by omega)]
    unfold ini
    rw [if_pos (by omega)]
  · have b' : l < M 1 2 := b
    show fillN (M 23) 5 0 l = ini (N 9) (fun _ => 0) 5 l
    rw [hz5 _ l a (by omega)]
    unfold ini
    rw [if_pos (by omega)]
  · exact Or.inl (hz5 (M 32) l a b)
  · have b' : l < M 1 2 := b
    have c' : fillN (M 32) 5 0 l = 1 := c
    rw [hz5 _ l a (by omega)] at c'
    omega
  · have a' : M 1 2 ≤ l := a
    exact hz5 (M 32) l (by omega) b
  · unfold rdC fgC
    rw [mset_n (by omega), mset_n (by omega), mset_n (by omega), mset_n (by omega), mset_n (by omega), mset_n (by omega), mset_n (by omega), mset_n (by omega), mset_n (by omega)]
  · unfold rdM rdN
    rw [mset_n (by omega), mset_n (by omega), mset_n (by omega), mset_n (by omega), mset_n (by omega), mset_n (by omega), mset_n (by omega)]
theorem op_road (I : Inv M N) (p q rm pr : Int) (hp : -2147483648 ≤ p ∧ p ≤ 2147483647) (hq : -2147483648 ≤ q ∧ q ≤ 2147483647) (hrm : -2147483648 ≤ rm ∧ rm ≤ 2147483647) (hpr : -2147483648 ≤ pr ∧ pr ≤ 2147483647) : Op mX7_road mX8_road [vr 0, vi p, vi q, vi rm, vi pr] M N := by
  have n0 := I.n0
  have n1 := I.n1
  have hN := I.nb.2.1
  by_cases c : (p ≠ q ∧ (0 ≤ p ∧ p < M 1 0) ∧ 0 ≤ q ∧ q < M 1 0) ∧ (0 ≤ rm ∧ rm ≤ 100) ∧ (0 ≤ pr ∧ pr ≤ 50)
  · by_cases f : M 1 1 = 20
    · exact Op.pi (fun g => sX7_road_f 11 p q rm pr hp hq hrm hpr I.nb c f) (fun g => sX8_road_f 14 p q rm pr hp hq hrm hpr I.nbm (by omega) (by omega)) rfl I
    · have J := I.road (p := p) (q := q) (rm := rm) (pr := pr) (lo := if q < p then q else p) (hi := if p < q then q else p) (by omega) (by split <;> split <;> omega) c.2.1 c.2.2 rfl rfl
      exact Op.of (P := fun M' => M' = rdC M p q rm pr) (Q := fun N' => (∀ l, 0 ≤ l → l < N 0 6 → WLm N' l) ∧ FwM (rdM N (if q < p then q else p) (if p < q then q else p) rm pr) N') (fun g => sX7_road_o 11 p q rm pr hp hq hrm hpr I.nb c f) (fun g => sX8_road_o 12 p q rm pr _ _ hp hq hrm hpr (by by_cases x : p < q; exact Or.inl ⟨x, if_neg (by omega), if_pos x⟩; exact Or.inr ⟨by omega, if_pos (by omega), if_neg (by omega)⟩) (by omega) (by omega) I.nbm) n1 (fun M' N' e w => by rw [e]; exact Inv.up J.1 J.2.1 J.2.2.1 J.2.2.2.1 J.2.2.2.2 w.2 w.1)
  · exact Op.pi (fun g => sX7_road_x 11 p q rm pr hp hq hrm hpr I.nb c) (fun g => sX8_road_x 14 p q rm pr hp hq hrm hpr I.nbm (by omega)) rfl I
theorem Inv.load (I : Inv M N) {k f t s : Int} (hf : M 1 2 < 5) (h1 : 0 ≤ k ∧ k ≤ 2) (h2 : 0 ≤ f ∧ f < M 1 0) (h3 : 0 ≤ t ∧ t < M 1 0) (h4 : f ≠ t) (h5 : 1 ≤ s ∧ s ≤ 100) : CoM (ldC M k f t s) ∧ Re (ldC M k f t s) (ldM N k f t s) ∧ (FO (ldC M k f t s) ∧ ∀ l, (ldC M k f t s) 1 2 ≤ l → l < 5 → (ldC M k f t s) 32 l = 0) ∧ SH (ldC M k f t s) ∧ KE (ldC M k f t s) (ldM N k f t s) := by
  obtain ⟨i1, i2, i3, i4, i5, i6⟩ := I
  obtain ⟨⟨n1, n2, n3, n4, n5⟩, c2, c3, c4, z5, z6, z7, z8, z9⟩ := i1
  obtain ⟨⟨r0, r1, r2⟩, ⟨b2, b3, b4, b5, b6, b7, b8, b9, b10⟩, am, hd⟩ := i2
  have ws : ∀ l, l ≠ M 1 2 → wsL ((ldC M k f t s) 1) (M 2) (M 3) ((ldC M k f t s) 8 l) ((ldC M k f t s) 9 l) = wsL (M 1) (M 2) (M 3) (M 8 l) (M 9 l) := fun l e => by
    show wsL (fset (M 1) 2 (M 1 2 + 1)) (M 2) (M 3) (fset (M 8) (M 1 2) f l) (fset (M 9) (M 1 2) t l) = _
    rw [fset_n e, fset_n e]
    exact wsL_sc rfl rfl _ _
  refine ⟨⟨⟨n1, n2, ⟨by show 0 ≤ M 1 2 + 1; omega, by show M 1 2 + 1 ≤ 5; omega⟩, n4, fun l a b => ?_⟩, fun j a b => ⟨(c2 j a b).1, fun x => ?_⟩, fun l a b => ?_, fun l a b => ?_, z5, z6.put n3.1 hf, z7.put n3.1 hf, z8.put n3.1 hf, z9.put n3.1 hf⟩, ⟨⟨r0, r1, by show M 1 2 + 1 = N 0 6 + 1; omega⟩, ⟨b2, b3, b4, b5, b6, by show fset (M 7) (M 1 2) k = fset (N 5) (N 0 6) k; rw [b7, r2], by show fset (M 8) (M 1 2) f = fset (N 6) (N 0 6) f; rw [b8, r2], by show fset (M 9) (M 1 2) t = fset (N 7) (N 0 6) t; rw [b9, r2], by show fset (M 10) (M 1 2) s = fset (N 8) (N 0 6) s; rw [b10, r2]⟩, fun j a b => ?_, fun l a b => ?_⟩, ⟨⟨i3.1.1, i3.1.2.1, fun l a b c => ?_⟩, fun l a b => ?_⟩, i4, i6.tr (fun k hk => ?_) rfl (fun k hk => ?_) rfl⟩
  · have b' : l < M 1 2 + 1 := b
    show (0 ≤ fset (M 7) (M 1 2) k l ∧ fset (M 7) (M 1 2) k l ≤ 2) ∧ (0 ≤ fset (M 8) (M 1 2) f l ∧ fset (M 8) (M 1 2) f l < M 1 0) ∧ (0 ≤ fset (M 9) (M 1 2) t l ∧ fset (M 9) (M 1 2) t l < M 1 0) ∧ fset (M 8) (M 1 2) f l ≠ fset (M 9) (M 1 2) t l ∧ (1 ≤ fset (M 10) (M 1 2) s l ∧ fset (M 10) (M 1 2) s l ≤ 100)
    by_cases e : l = M 1 2
    · rw [e, fset_s, fset_s, fset_s, fset_s]
      exact ⟨h1, h2, h3, h4, h5⟩
    · rw [fset_n e, fset_n e, fset_n e, fset_n e]
      exact n5 l a (by omega)
  · have q := (c2 j a b).2 x
    refine ⟨by show j / 8 < M 1 2 + 1; omega, ?_⟩
    have e := ws (j / 8) (by omega)
    show j % 8 < (wsL ((ldC M k f t s) 1) (M 2) (M 3) ((ldC M k f t s) 8 (j / 8)) ((ldC M k f t s) 9 (j / 8))).length
    rw [e]; exact q.2
  · have b' : l < M 1 2 + 1 := b
    show (0 ≤ M 23 l ∧ M 23 l ≤ 7) ∧ (M 23 l = 0 ∨ M 23 l < (wsL ((ldC M k f t s) 1) (M 2) (M 3) ((ldC M k f t s) 8 l) ((ldC M k f t s) 9 l)).length)
    by_cases e : l = M 1 2
    · have := c4 l (by omega) (by omega)
      exact ⟨by omega, Or.inl this⟩
    · rw [ws l e]; exact c3 l a (by omega)
  · have a' : M 1 2 + 1 ≤ l := a
    exact c4 l (by omega) b
  · have b' : j < 8 * (M 1 2 + 1) := b
    show M 22 j = clr (N 10) (8 * N 0 6) 8 j
    unfold clr
    by_cases x : j < 8 * M 1 2
    · rw [if_neg (by omega)]; exact am j a x
    · rw [if_pos (by omega)]
      by_cases y : M 22 j = 0
      · exact y
      · have := ((c2 j a (by omega)).2 y).1
        omega
  · have b' : l < M 1 2 + 1 := b
    show M 23 l = fset (N 9) (N 0 6) 0 l
    by_cases e : l = M 1 2
    · rw [e, r2, fset_s, ← r2]; exact c4 _ (by omega) hf
    · rw [fset_n (by omega)]; exact hd l a (by omega)
  · have b' : l < M 1 2 + 1 := b
    have c' : M 32 l = 1 := c
    by_cases e : l = M 1 2
    · have := i3.2 l (by omega) (by omega)
      omega
    · have w := i3.1.2.2 l a (by omega) c'
      unfold WL at *
      rw [show (ldC M k f t s) 2 = M 2 from rfl, show (ldC M k f t s) 3 = M 3 from rfl, ws l e]
      exact w
  · have a' : M 1 2 + 1 ≤ l := a
    exact i3.2 l (by omega) b
  · unfold ldC
    rw [mset_n (by omega), mset_n (by omega), mset_n (by omega), mset_n (by omega), mset_n (by omega)]
  · unfold ldM ldN
    rw [mset_n (by omega), mset_n (by omega), mset_n (by omega), mset_n (by omega), mset_n (by omega), mset_n (by omega), mset_n (by omega)]
theorem op_load (I : Inv M N) (k f t s : Int) (hk : -2147483648 ≤ k ∧ k ≤ 2147483647) (hf : -2147483648 ≤ f ∧ f ≤ 2147483647) (ht : -2147483648 ≤ t ∧ t ≤ 2147483647) (hs : -2147483648 ≤ s ∧ s ≤ 2147483647) : Op mX7_load mX8_load [vr 0, vi k, vi f, vi t, vi s] M N := by
  have n0 := I.n0
  have n2 := I.n2
  have hN := I.nb.2.2.1
  by_cases c : (f ≠ t ∧ (0 ≤ f ∧ f < M 1 0) ∧ 0 ≤ t ∧ t < M 1 0) ∧ (0 ≤ k ∧ k ≤ 2) ∧ (1 ≤ s ∧ s ≤ 100)
  · by_cases e : M 1 2 = 5
    · exact Op.pi (fun g => sX7_load_f 11 k f t s hk hf ht hs I.nb c e) (fun g => sX8_load_f 14 k f t s hk hf ht hs I.nbm (by omega) (by omega)) rfl I
    · have J := I.load (k := k) (f := f) (t := t) (s := s) (by omega) c.2.1 c.1.2.1 c.1.2.2 c.1.1 c.2.2
      exact Op.of (P := fun M' => M' = ldC M k f t s) (Q := fun N' => (∀ l, 0 ≤ l → l < N 0 6 + 1 → WLm N' l) ∧ FwM (ldM N k f t s) N') (fun g => sX7_load_o 11 k f t s hk hf ht hs I.nb c e) (fun g => sX8_load_o 12 k f t s hk hf ht hs I.nbm (by omega) (by omega)) n2 (fun M' N' e w => by rw [e]; exact Inv.up J.1 J.2.1 J.2.2.1 J.2.2.2.1 J.2.2.2.2 w.2 w.1)
  · exact Op.pi (fun g => sX7_load_x 11 k f t s hk hf ht hs I.nb c) (fun g => sX8_load_x 14 k f t s hk hf ht hs I.nbm (by omega)) rfl I
theorem op_keep (I : Inv M N) : Op mX7_keep mX8_keep [vr 0] M N := by
  refine Op.pi (fun g => sX7_keep 13) (fun g => sX8_keep 15) rfl ?_
  obtain ⟨i1, i2, i3, i4, i5, i6⟩ := I
  refine ⟨i1, i2, i3, i4, i5, rfl, Or.inr rfl, fun _ => ⟨Co.sc (sc := M 1) rfl rfl rfl i1, ?_⟩⟩
  obtain ⟨⟨r0, r1, r2⟩, ⟨b2, b3, b4, b5, b6, b7, b8, b9, b10⟩, am, hd⟩ := i2
  have n5 := i1.1.2.2.1
  refine ⟨⟨r0, r1, r2⟩, fun r a b => ?_, fun l a b => ?_, fun s a b => ?_, fun l a b => ?_⟩
  · have q := kp5_at (f := N 15) (v0 := aM N) (v1 := bM N) (v2 := N 2) (v3 := N 3) (v4 := N 4) a (n := 20) (by omega)
    show M 2 r = kp5 (N 15) (aM N) (bM N) (N 2) (N 3) (N 4) 20 (5 * r) ∧ M 3 r = kp5 (N 15) (aM N) (bM N) (N 2) (N 3) (N 4) 20 (5 * r + 1) ∧ M 4 r = kp5 (N 15) (aM N) (bM N) (N 2) (N 3) (N 4) 20 (5 * r + 2) ∧ M 5 r = kp5 (N 15) (aM N) (bM N) (N 2) (N 3) (N 4) 20 (5 * r + 3) ∧ M 6 r = kp5 (N 15) (aM N) (bM N) (N 2) (N 3) (N 4) 20 (5 * r + 4)
    rw [q.1, q.2.1, q.2.2.1, q.2.2.2.1, q.2.2.2.2, b2, b3, b4, b5, b6]
    exact ⟨rfl, rfl, rfl, rfl, rfl⟩
  · have q := kp5_at (f := N 16) (v0 := N 5) (v1 := N 6) (v2 := N 7) (v3 := N 8) (v4 := N 9) a (n := 5) (by omega)
    show M 7 l = kp5 (N 16) (N 5) (N 6) (N 7) (N 8) (N 9) 5 (5 * l) ∧ M 8 l = kp5 (N 16) (N 5) (N 6) (N 7) (N 8) (N 9) 5 (5 * l + 1) ∧ M 9 l = kp5 (N 16) (N 5) (N 6) (N 7) (N 8) (N 9) 5 (5 * l + 2) ∧ M 10 l = kp5 (N 16) (N 5) (N 6) (N 7) (N 8) (N 9) 5 (5 * l + 3)
    rw [q.1, q.2.1, q.2.2.1, q.2.2.2.1, b7, b8, b9, b10]
    exact ⟨rfl, rfl, rfl, rfl⟩
  · have b' : s < 8 * M 1 2 := b
    show M 22 s = ini (N 17) (N 10) 40 s
    unfold ini
    rw [if_pos (by omega)]
    exact am s a b'
  · have b' : l < M 1 2 := b
    have q := kp5_at (f := N 16) (v0 := N 5) (v1 := N 6) (v2 := N 7) (v3 := N 8) (v4 := N 9) a (n := 5) (by omega)
    show M 23 l = kp5 (N 16) (N 5) (N 6) (N 7) (N 8) (N 9) 5 (5 * l + 4)
    rw [q.2.2.2.2]
    exact hd l a b'
theorem Inv.back (I : Inv M N) (h : M 0 8 = 1) : CoM (bkC M) ∧ Re (bkC M) (bkM N) ∧ (FO (bkC M) ∧ ∀ l, (bkC M) 1 2 ≤ l → l < 5 → (bkC M) 32 l = 0) ∧ SH (bkC M) ∧ KE (bkC M) (bkM N) := by
  obtain ⟨i1, i2, i3, i4, i5, i6⟩ := I
  obtain ⟨k1, k2⟩ := i6.2.2 h
  have hz5 : ∀ (f : Int → Int) (s : Int), 0 ≤ s → s < 5 → fillN f 5 0 s = 0 := fun f s a b => by unfold fillN; rw [if_pos ⟨a, b⟩]
  have co : CoM (bkC M) := Co.sc (sc := M 11) rfl rfl rfl k1
  obtain ⟨⟨n1, n2, n3, n4, n5⟩, c2, c3, c4, ⟨z1, z2, z3, z4, z5⟩, z6, z7, z8, z9⟩ := k1
  obtain ⟨_, _, _, _, ⟨y1, y2, y3, y4, y5⟩, y6, y7, y8, y9⟩ := i1
  obtain ⟨⟨s0, s1, s2⟩, t1, t2, t3, t4⟩ := k2
  obtain ⟨⟨r0, r1, r2⟩, ⟨b2, b3, b4, b5, b6, b7, b8, b9, b10⟩, am, hd⟩ := i2
  refine ⟨co, ⟨⟨s0, s1, s2⟩, ⟨?_, ?_, ?_, ?_, ?_, ?_, ?_, ?_, ?_⟩, fun s a b => ?_, fun l a b => ?_⟩, ⟨⟨i3.1.1, fun l a b => Or.inl (hz5 (M 32) l a b), fun l a b c => ?_⟩, fun l a b => ?_⟩, i4, i6.tr (fun k hk => ?_) rfl (fun k hk => ?_) rfl⟩
  · show M 12 = fun r => kp2 (N 1) (fun r => N 15 (5 * r)) (fun r => N 15 (5 * r + 1)) 20 (2 * r)
    funext r
    by_cases q : 0 ≤ r ∧ r < 20
    · rw [(kp2_at q.1 (n := 20) (by omega)).1]; exact (t1 r q.1 q.2).1
    · rw [(kp2_out (n := 20) (by omega)).1, z1 r q]
      have := y1 r q
      rw [b2] at this
      exact this.symm
  · show M 13 = fun r => kp2 (N 1) (fun r => N 15 (5 * r)) (fun r => N 15 (5 * r + 1)) 20 (2 * r + 1)
    funext r
    by_cases q : 0 ≤ r ∧ r < 20
    · rw [(kp2_at q.1 (n := 20) (by omega)).2]; exact (t1 r q.1 q.2).2.1
    · rw [(kp2_out (n := 20) (by omega)).2, z2 r q]
      have := y2 r q
      rw [b3] at this
      exact this.symm
  · exact (ini_ext (fun r a b => (t1 r a b).2.2.1.symm) (fun r q => by rw [z3 r q, ← b4]; exact y3 r q)).symm
  · exact (ini_ext (fun r a b => (t1 r a b).2.2.2.1.symm) (fun r q => by rw [z4 r q, ← b5]; exact y4 r q)).symm
  · exact (ini_ext (fun r a b => (t1 r a b).2.2.2.2.symm) (fun r q => by rw [z5 r q, ← b6]; exact y5 r q)).symm
  · exact (ini_ext (fun r a b => (t2 r a b).1.symm) (fun r q => by rw [z6 r q, ← b7]; exact y6 r q)).symm
  · exact (ini_ext (fun r a b => (t2 r a b).2.1.symm) (fun r q => by rw [z7 r q, ← b8]; exact y7 r q)).symm
  · exact (ini_ext (fun r a b => (t2 r a b).2.2.1.symm) (fun r q => by rw [z8 r q, ← b9]; exact y8 r q)).symm
  · exact (ini_ext (fun r a b => (t2 r a b).2.2.2.symm) (fun r q => by rw [z9 r q, ← b10]; exact y9 r q)).symm
  · have b' : s < 8 * M 11 2 := b
    show M 25 s = ini (N 10) (N 17) 40 s
    unfold ini
    rw [if_pos (by omega)]
    exact t3 s a b'
  · have b' : l < M 11 2 := b
    show M 26 l = ini (N 9) (fun l => N 16 (5 * l + 4)) 5 l
    unfold ini
    rw [if_pos (by omega)]
    exact t4 l a b'
  · have b' : l < M 11 2 := b
    have c' : fillN (M 32) 5 0 l = 1 := c
    rw [hz5 _ l a (by omega)] at c'
    omega
  · have a' : M 11 2 ≤ l := a
    exact hz5 (M 32) l (by omega) b
  · unfold bkC
    rw [mset_n (by omega), mset_n (by omega), mset_n (by omega), mset_n (by omega), mset_n (by omega), mset_n (by omega), mset_n (by omega), mset_n (by omega), mset_n (by omega), mset_n (by omega), mset_n (by omega), mset_n (by omega), mset_n (by omega)]
  · unfold bkM
    rw [if_neg (by omega), if_neg (by omega), if_neg (by omega), if_neg (by omega), if_neg (by omega), if_neg (by omega), if_neg (by omega), if_neg (by omega), if_neg (by omega), if_neg (by omega), if_neg (by omega)]
theorem op_back (I : Inv M N) : Op mX7_back mX8_back [vr 0] M N := by
  have ke := I.ke
  by_cases c : M 0 8 = 0
  · exact Op.pi (fun g => sX7_back_x 13 c) (fun g => sX8_back_x 15 (by rw [← ke.1]; exact c)) rfl I
  · have c1 : M 0 8 = 1 := by have := ke.2.1; omega
    have J := I.back c1
    exact Op.of (P := fun M' => M' = bkC M) (Q := fun N' => (∀ l, 0 ≤ l → l < N 14 2 → WLm N' l) ∧ FwM (bkM N) N') (fun g => sX7_back_o 13 c1) (fun g => sX8_back_o 12 (by rw [← ke.1]; exact c1) (nbm_of J.1.1 J.2.1)) rfl (fun M' N' e w => by rw [e]; exact Inv.up J.1 J.2.1 J.2.2.1 J.2.2.2.1 J.2.2.2.2 w.2 w.1)
theorem Inv.init (h1 : M 1 0 = 1 ∧ M 1 1 = 0 ∧ M 1 2 = 0) (hz : ∀ k, (2 ≤ k ∧ k ≤ 10) ∨ k = 22 ∨ k = 23 ∨ k = 32 ∨ (48 ≤ k ∧ k ≤ 50) → M k = fun _ => 0) (h35 : ∀ r, 0 ≤ r → r < 20 → M 35 r = 1) (h8 : M 0 8 = 0) (g1 : N 0 0 = 1 ∧ N 0 1 = 0 ∧ N 0 6 = 0) (gz : ∀ k, 1 ≤ k ∧ k ≤ 8 → N k = fun _ => 0) (g16 : N 0 16 = 0) : Inv M N := by
  have zo : ∀ n, ZO (fun _ => 0) n := fun n i _ => rfl
  refine ⟨?_, ⟨⟨by omega, by omega, by omega⟩, ⟨?_, ?_, ?_, ?_, ?_, ?_, ?_, ?_, ?_⟩, fun s a b => by omega, fun l a b => by omega⟩, ⟨⟨h35, fun l a b => Or.inl (by rw [hz 32 (by omega)]), fun l a b => by omega⟩, fun l a b => by rw [hz 32 (by omega)]⟩, fun l a b => ?_, fun l a b => by omega, by omega, Or.inl h8, fun x => by omega⟩
  · unfold CoM
    rw [hz 2 (by omega), hz 3 (by omega), hz 4 (by omega), hz 5 (by omega), hz 6 (by omega), hz 7 (by omega), hz 8 (by omega), hz 9 (by omega), hz 10 (by omega), hz 22 (by omega), hz 23 (by omega)]
    exact ⟨⟨by omega, by omega, by omega, fun r a b => by omega, fun l a b => by omega⟩, fun s a b => ⟨by show (0 : Int) ≤ 0 ∧ (0 : Int) ≤ 100; omega, fun x => absurd rfl x⟩, fun l a b => by omega, fun l a b => rfl, ⟨zo _, zo _, zo _, zo _, zo _⟩, zo _, zo _, zo _, zo _⟩
  · rw [hz 2 (by omega)]; unfold aM; rw [gz 1 (by omega)]
  · rw [hz 3 (by omega)]; unfold bM; rw [gz 1 (by omega)]
  · rw [hz 4 (by omega), gz 2 (by omega)]
  · rw [hz 5 (by omega), gz 3 (by omega)]
  · rw [hz 6 (by omega), gz 4 (by omega)]
  · rw [hz 7 (by omega), gz 5 (by omega)]
  · rw [hz 8 (by omega), gz 6 (by omega)]
  · rw [hz 9 (by omega), gz 7 (by omega)]
  · rw [hz 10 (by omega), gz 8 (by omega)]
  · rw [hz 48 (by omega), hz 49 (by omega), hz 50 (by omega)]
    exact ⟨by show (0 : Int) ≤ 0 ∧ (0 : Int) ≤ 6000; omega, by show (0 : Int) ≤ 0 ∧ (0 : Int) < 1048576; omega, Or.inl rfl⟩
end OT
