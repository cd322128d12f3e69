/-! sums of the class and of the model -/
theorem sg_cut {f : Int → Int} {n m : Int} (hn : 0 ≤ n) (hm : n ≤ m) (h : ∀ i, n ≤ i → i < m → f i = 0) : sg f m = sg f n := by
  obtain ⟨k, rfl⟩ : ∃ k : Nat, m = n + k := ⟨(m - n).toNat, by omega⟩
  induction k with
  | zero => simp
  | succ k ih =>
    rw [show n + ((k + 1 : Nat) : Int) = (n + k) + 1 by omega, sg_1 (by omega), ih (by omega) (fun i a b => h i a (by omega)), h (n + k) (by omega) (by omega)]
    omega
theorem sm_add (f : Int → Int) (a : Nat) : ∀ b : Nat, sm f (a + b) = sm f a + sm (fun i => f (a + i)) b
  | 0 => by simp [sm]
  | b + 1 => by
    have ih := sm_add f a b
    rw [← Nat.add_assoc]
    simp only [sm]
    rw [ih, show ((a + b : Nat) : Int) = (a : Int) + b by omega]
    omega
theorem sm_grp (f : Int → Int) : ∀ n : Nat, sm f (8 * n) = sm (fun l => sm (fun i => f (8 * l + i)) 8) n
  | 0 => rfl
  | n + 1 => by
    rw [show 8 * (n + 1) = 8 * n + 8 by omega, sm_add, sm_grp f n]
    simp only [sm]
    rfl
theorem sg_grp (f : Int → Int) : sg f 40 = sg (fun l => sg (fun i => f (8 * l + i)) 8) 5 := sm_grp f 5
theorem sg_at {c x n : Int} (h0 : 0 ≤ x) (h1 : x < n) : sg (fun r => if r = x then c else 0) n = c := by
  have e1 : sg (fun r => if r = x then c else 0) n = sg (fun r => if r = x then c else 0) (x + 1) := sg_cut (by omega) (by omega) (fun i a b => if_neg (by omega))
  have e2 : sg (fun r => if r = x then c else 0) x = 0 := by
    have := sg_cut (f := fun r => if r = x then c else 0) (n := 0) (m := x) (by omega) h0 (fun i a b => if_neg (by omega))
    rw [this]; rfl
  rw [e1, sg_1 h0, e2, if_pos rfl]
  omega
/-- each of some unlike numbers once -/
theorem sg_set {f p : Int → Int} {rc : Int} (hrc : 0 ≤ rc) : ∀ {n : Nat}, (∀ k : Int, 0 ≤ k → k < n → 0 ≤ f k ∧ f k < rc) → (∀ k k' : Int, 0 ≤ k → k < n → 0 ≤ k' → k' < n → f k = f k' → k = k') → sm (fun k => p (f k)) n = sg (fun r => if hsI f r n = 0 then 0 else p r) rc
  | 0, _, _ => by
    have := sg_bd (f := fun r => if hsI f r 0 = 0 then 0 else p r) (lo := 0) (hi := 0) hrc (fun i _ _ => by simp [hsI])
    simp only [sm]
    omega
  | n + 1, h, hi => by
    have ih := sg_set (f := f) (p := p) hrc (n := n) (fun k a b => h k a (by omega)) (fun k k' a b c d => hi k k' a (by omega) c (by omega))
    have hn := h n (by omega) (by omega)
    simp only [sm]
    rw [ih]
    have e := sg_lin (f := fun r => if hsI f r (n + 1) = 0 then 0 else p r) (a := fun r => if hsI f r n = 0 then 0 else p r) (b := fun r => if r = f n then p (f n) else 0) (c := 1) (n := rc) (fun r a b => by
      have hz := hsI_z f r n
      by_cases q : r = f n
      · have z : hsI f r n = 0 := by
          by_cases z : hsI f r n = 0
          · exact z
          · obtain ⟨k, a1, a2, a3⟩ := hsI_iff.mp z
            have := hi k n a1 (by omega) (by omega) (by omega) (by rw [a3, q])
            omega
        have e1 : hsI f r (n + 1) = 1 := if_pos (Or.inr q.symm)
        rw [if_neg (by omega), if_pos z, if_pos q, q]
        simp
      · rw [if_neg q]
        by_cases z : hsI f r n = 0
        · have e1 : hsI f r (n + 1) = 0 := if_neg (by intro x; rcases x with x | x; exact x z; exact q x.symm)
          rw [if_pos e1, if_pos z]; simp
        · have e1 : hsI f r (n + 1) = 1 := if_pos (Or.inl z)
          rw [if_neg (by omega), if_neg z]; simp)
    rw [e, sg_at hn.1 hn.2]
    omega
theorem mi_lb {f : Int → Int} {c : Int} : ∀ {n : Nat}, mi f c n ≤ c ∧ ∀ k : Int, 0 ≤ k → k < n → mi f c n ≤ f k
  | 0 => ⟨by simp [mi], fun k a b => by omega⟩
  | n + 1 => by
    have ih := mi_lb (f := f) (c := c) (n := n)
    simp only [mi]
    refine ⟨by split <;> omega, fun k a b => ?_⟩
    by_cases e : k = n
    · rw [e]; split <;> omega
    · have := ih.2 k a (by omega)
      split <;> omega
theorem mi_at {f : Int → Int} {c : Int} : ∀ {n : Nat}, mi f c n = c ∨ ∃ k : Int, 0 ≤ k ∧ k < n ∧ mi f c n = f k
  | 0 => Or.inl rfl
  | n + 1 => by
    have ih := mi_at (f := f) (c := c) (n := n)
    simp only [mi]
    by_cases q : f n < mi f c n
    · rw [if_pos q]; exact Or.inr ⟨n, by omega, by omega, rfl⟩
    · rw [if_neg q]
      rcases ih with ih | ⟨k, a, b, e⟩
      · exact Or.inl ih
      · exact Or.inr ⟨k, a, by omega, e⟩
theorem fpt_cut {f : Int → Int} {n : Nat} : ∀ (k : Nat), (∀ i : Int, n ≤ i → i < n + k → f i = 0) → fpt f (n + k) = fpt f n
  | 0, _ => rfl
  | k + 1, h => by
    have ih := fpt_cut (f := f) (n := n) k (fun i a b => h i a (by omega))
    rw [← Nat.add_assoc]
    simp only [fpt]
    rw [ih, h ((n + k : Nat) : Int) (by omega) (by omega)]
    have := fpt_bd f n
    by_cases q : 0 ≤ fpt f n
    · rw [if_pos q]
    · rw [if_neg q, if_pos rfl]; omega
theorem fpt_congr {f h : Int → Int} : ∀ {n : Nat}, (∀ i : Int, 0 ≤ i → i < n → f i = h i) → fpt f n = fpt h n
  | 0, _ => rfl
  | n + 1, e => by
    simp only [fpt]
    rw [fpt_congr (n := n) (fun i a b => e i a (by omega)), e n (by omega) (by omega)]
/-- all ways are found, too -/
def Fu (M N : Mem) : Prop := Inv M N ∧ ∀ l, 0 ≤ l → l < M 1 2 → WL M l
/-- amounts, of the class and of the model -/
def EA (M : Mem) (am am' : Int → Int) : Prop := (∀ s, 0 ≤ s → s < 40 → (0 ≤ am s ∧ am s ≤ 100) ∧ (am s ≠ 0 → s / 8 < M 1 2 ∧ s % 8 < M 28 (s / 8))) ∧ (∀ s, 0 ≤ s → s < 8 * M 1 2 → am s = am' s)
section FU
variable {M N M' : Mem} {am am' : Int → Int} {l i r : Int}
theorem Inv.fu (h : Inv M N) (F : FD M M') : Fu M' N := ⟨h.fd F, fun _ a b => F.wl a b⟩
theorem Fu.ea (F : Fu M N) : EA M (M 22) (N 10) := by
  refine ⟨fun s a b => ⟨(F.1.az s a b).1, fun q => ?_⟩, F.1.am⟩
  have z := (F.1.az s a b).2 q
  have c := (F.2 (s / 8) (by omega) z.1).1
  exact ⟨z.1, by omega⟩
theorem Fu.cn (F : Fu M N) (h0 : 0 ≤ l) (h1 : l < M 1 2) : M 28 l = N 11 l := by
  have a := (F.2 l h0 h1).1
  have e := F.1.n2
  have b := (F.1.wlm l h0 (by omega)).1
  rw [F.1.sc, ← F.1.r8, ← F.1.r9] at b
  omega
theorem Fu.cb (F : Fu M N) (h0 : 0 ≤ l) (h1 : l < M 1 2) : 0 ≤ M 28 l ∧ M 28 l ≤ 8 := (F.2 l h0 h1).cnt
theorem Fu.at (F : Fu M N) (h0 : 0 ≤ l) (h1 : l < M 1 2) (i0 : 0 ≤ i) (i1 : i < M 28 l) : ∃ w : List Int, ((1 ≤ w.length ∧ w.length ≤ 8) ∧ (∀ r ∈ w, 0 ≤ r ∧ r < M 1 1) ∧ w.Nodup) ∧ M 29 (8 * l + i) = w.length ∧ N 12 (8 * l + i) = w.length ∧ M 30 (8 * l + i) = mkO (fun k => w.getD k.toNat 0) w.length ∧ ∀ (k : Nat) (r : Int), w[k]? = some r → M 31 (8 * (8 * l + i) + k) = r ∧ N 13 (8 * (8 * l + i) + k) = r := by
  have e := F.1.n2
  have hc := F.cn h0 h1
  obtain ⟨w, a1, a2, a3, a4⟩ := (F.2 l h0 h1).at i0 i1
  obtain ⟨w', b1, b2, b3⟩ := (F.1.wlm l h0 (by omega)).at i0 (by omega)
  rw [F.1.sc, ← F.1.r8, ← F.1.r9, a1] at b1
  cases b1
  exact ⟨w, wsL_ok F.1.nb.1.2 (F.1.nb.2.2.2.2 l h0 h1).2.2.2.1 (List.mem_of_getElem? a1), a2, b2, a3, fun k r hk => ⟨a4 k r hk, b3 k r hk⟩⟩
theorem Fu.rd (F : Fu M N) (h0 : 0 ≤ l) (h1 : l < M 1 2) (i0 : 0 ≤ i) (i1 : i < M 28 l) : M 29 (8 * l + i) = N 12 (8 * l + i) ∧ (1 ≤ M 29 (8 * l + i) ∧ M 29 (8 * l + i) ≤ 8) ∧ (∀ k, 0 ≤ k → k < M 29 (8 * l + i) → M 31 (8 * (8 * l + i) + k) = N 13 (8 * (8 * l + i) + k) ∧ 0 ≤ M 31 (8 * (8 * l + i) + k) ∧ M 31 (8 * (8 * l + i) + k) < M 1 1) ∧ ∀ k k', 0 ≤ k → k < M 29 (8 * l + i) → 0 ≤ k' → k' < M 29 (8 * l + i) → M 31 (8 * (8 * l + i) + k) = M 31 (8 * (8 * l + i) + k') → k = k' := by
  have inj := (F.2 l h0 h1).inj F.1.nb ⟨h0, h1⟩ i0 i1
  obtain ⟨w, ok, a1, a2, a3, a4⟩ := F.at h0 h1 i0 i1
  refine ⟨by omega, by omega, fun k k0 k1 => ?_, inj⟩
  have q := a4 k.toNat w[k.toNat] (List.getElem?_eq_getElem (by omega))
  rw [show ((k.toNat : Nat) : Int) = k by omega] at q
  have m := ok.2.1 w[k.toNat] (List.getElem_mem _)
  exact ⟨by rw [q.1, q.2], by rw [q.1]; exact m.1, by rw [q.1]; exact m.2⟩
theorem Fu.hs (F : Fu M N) (h0 : 0 ≤ l) (h1 : l < M 1 2) (i0 : 0 ≤ i) (i1 : i < M 28 l) (hr : 0 ≤ r) : bt (M 30 (8 * l + i)) r = 0 ↔ hsM (N 12) (N 13) (8 * l + i) r = 0 := by
  obtain ⟨w, ok, a1, a2, a3, a4⟩ := F.at h0 h1 i0 i1
  have hN := F.1.nb.2.1
  have gd : ∀ k : Int, 0 ≤ k → k < w.length → w.getD k.toNat 0 = N 13 (8 * (8 * l + i) + k) ∧ 0 ≤ w.getD k.toNat 0 ∧ w.getD k.toNat 0 < 20 := fun k k0 k1 => by
    have e := List.getElem?_eq_getElem (l := w) (i := k.toNat) (by omega)
    have q := a4 k.toNat _ e
    have m := ok.2.1 w[k.toNat] (List.getElem_mem _)
    rw [show ((k.toNat : Nat) : Int) = k by omega] at q
    rw [List.getD_eq_getElem?_getD, e]
    show w[k.toNat] = _ ∧ 0 ≤ w[k.toNat] ∧ w[k.toNat] < 20
    exact ⟨q.2.symm, m.1, by omega⟩
  rw [a3, mkO_bt hr (fun k k0 k1 => (gd k k0 k1).2)]
  unfold hsM
  rw [a2, Int.toNat_natCast]
  constructor
  · intro h
    by_cases z : hsI (fun k => N 13 (8 * (8 * l + i) + k)) r w.length = 0
    · exact z
    · obtain ⟨k, k0, k1, k2⟩ := hsI_iff.mp z
      exact absurd (by rw [(gd k k0 k1).1]; exact k2) (h k k0 k1)
  · intro h k k0 k1 e
    rw [(gd k k0 k1).1] at e
    exact (hsI_iff.mpr ⟨k, k0, k1, e⟩) h
theorem EA.z (E : EA M am am') (h0 : 0 ≤ l) (h1 : l < 5) (i0 : 0 ≤ i) (i1 : i < 8) (h : M 1 2 ≤ l ∨ M 28 l ≤ i) : am (8 * l + i) = 0 := by
  by_cases z : am (8 * l + i) = 0
  · exact z
  · have q := (E.1 (8 * l + i) (by omega) (by omega)).2 z
    rw [show (8 * l + i) / 8 = l by omega, show (8 * l + i) % 8 = i by omega] at q
    omega
theorem Fu.us (F : Fu M N) (E : EA M am am') (hr : 0 ≤ r) : usC am (M 30) r = usM (N 11) (N 12) (N 13) am' (N 0 6) r := by
  have hN := F.1.nb.2.2.1
  have e := F.1.n2
  unfold usC usM
  rw [sg_grp, sg_cut (n := M 1 2) (m := 5) hN.1 hN.2 (fun l a b => by
    rw [sg_cut (n := 0) (m := 8) (by omega) (by omega) (fun i c d => if_pos (E.z (by omega) b c d (Or.inl a)))]; rfl), ← e]
  refine sg_congr (fun l a b => ?_)
  have cb := F.cb a b
  rw [sg_cut (n := M 28 l) (m := 8) cb.1 cb.2 (fun i c d => if_pos (E.z a (by omega) (by omega) d (Or.inr c))), F.cn a b]
  refine sg_congr (fun i c d => ?_)
  have d' : i < M 28 l := by rw [F.cn a b]; exact d
  have q := F.hs a b c d' hr
  have ea := E.2 (8 * l + i) (by omega) (by omega)
  rw [ifc q, ea]
  by_cases z : am' (8 * l + i) = 0
  · rw [if_pos z, z]; split <;> rfl
  · rw [if_neg z]
theorem Fu.ov (F : Fu M N) (E : EA M am am') (hr : 0 ≤ r) : ovC am (M 30) (M 4) r = ovM (N 11) (N 12) (N 13) am' (N 2) (N 0 6) r := by
  unfold ovC ovM
  rw [F.us E hr, F.1.r4]
theorem Fu.tt (F : Fu M N) (E : EA M am am') (h0 : 0 ≤ l) (h1 : l < M 1 2) : ttC am l = seM (N 11) am' l := by
  have hN := F.1.nb.2.2.1
  have cb := F.cb h0 h1
  unfold ttC seM
  rw [sg_cut (n := M 28 l) (m := 8) cb.1 cb.2 (fun i c d => E.z h0 (by omega) (by omega) d (Or.inr c)), F.cn h0 h1]
  exact sg_congr (fun i c d => E.2 (8 * l + i) (by omega) (by have := F.cn h0 h1; omega))
theorem Fu.pt (F : Fu M N) (E : EA M am am') (h0 : 0 ≤ l) (h1 : l < M 1 2) : ptC am l = nzM (N 11) am' l := by
  have hN := F.1.nb.2.2.1
  have cb := F.cb h0 h1
  unfold ptC nzM
  rw [sg_cut (n := M 28 l) (m := 8) cb.1 cb.2 (fun i c d => if_pos (E.z h0 (by omega) (by omega) d (Or.inr c))), F.cn h0 h1]
  refine sg_congr (fun i c d => ?_)
  have hcn := F.cn h0 h1
  have ea := E.2 (8 * l + i) (by omega) (by omega)
  have eb := (E.1 (8 * l + i) (by omega) (by omega)).1
  rw [← ea]
  by_cases z : am (8 * l + i) = 0
  · rw [if_pos z, if_neg (by omega)]
  · rw [if_neg z, if_pos (by omega)]
theorem Fu.fp (F : Fu M N) (E : EA M am am') (h0 : 0 ≤ l) (h1 : l < M 1 2) : fpC am l = fpt (fun i => am' (8 * l + i)) (N 11 l).toNat := by
  have hN := F.1.nb.2.2.1
  have cb := F.cb h0 h1
  have hcn := F.cn h0 h1
  unfold fpC
  have e := fpt_cut (f := fun i => am (8 * l + i)) (n := (N 11 l).toNat) (8 - (N 11 l).toNat) (fun i c d => E.z h0 (by omega) (by omega) (by omega) (Or.inr (by omega)))
  rw [show (N 11 l).toNat + (8 - (N 11 l).toNat) = 8 by omega] at e
  rw [e]
  exact fpt_congr (fun i c d => E.2 (8 * l + i) (by omega) (by omega))
theorem Fu.pr (F : Fu M N) (h0 : 0 ≤ l) (h1 : l < M 1 2) (i0 : 0 ≤ i) (i1 : i < M 28 l) : prC (M 5) (M 29) (M 31) (8 * l + i) = prM (N 12) (N 13) (N 3) (N 0 1) (8 * l + i) := by
  have hN := F.1.nb.2.1
  obtain ⟨a1, a2, a3, a4⟩ := F.rd h0 h1 i0 i1
  unfold prC prM hsM
  rw [← F.1.r5, ← a1, ← F.1.n1]
  have e := sg_set (f := fun k => N 13 (8 * (8 * l + i) + k)) (p := M 5) hN.1 (n := (M 29 (8 * l + i)).toNat) (fun k b0 b1 => by have q := a3 k b0 (by omega); rw [← q.1]; exact q.2) (fun k k' b0 b1 c0 c1 q => a4 k k' b0 (by omega) c0 (by omega) (by rw [(a3 k b0 (by omega)).1, (a3 k' c0 (by omega)).1]; exact q))
  rw [← e]
  exact sm_congr (fun k b0 b1 => by rw [(a3 k b0 (by omega)).1])
theorem Fu.fr (F : Fu M N) (E : EA M am am') (h0 : 0 ≤ l) (h1 : l < M 1 2) (i0 : 0 ≤ i) (i1 : i < M 28 l) : frC am (M 30) (M 4) (M 29) (M 31) (8 * l + i) = frM (N 11) (N 12) (N 13) am' (N 2) (N 0 6) (N 0 1) (8 * l + i) := by
  have hN := F.1.nb
  obtain ⟨a1, a2, a3, a4⟩ := F.rd h0 h1 i0 i1
  have u := fun r (hr : 0 ≤ r) => F.us E hr
  unfold frC frM
  have x1 := mi_lb (f := fun k => M 4 (M 31 (8 * (8 * l + i) + k)) - usC am (M 30) (M 31 (8 * (8 * l + i) + k))) (c := 100) (n := (M 29 (8 * l + i)).toNat)
  have x2 := mi_at (f := fun k => M 4 (M 31 (8 * (8 * l + i) + k)) - usC am (M 30) (M 31 (8 * (8 * l + i) + k))) (c := 100) (n := (M 29 (8 * l + i)).toNat)
  generalize mi (fun k => M 4 (M 31 (8 * (8 * l + i) + k)) - usC am (M 30) (M 31 (8 * (8 * l + i) + k))) 100 (M 29 (8 * l + i)).toNat = x at x1 x2 ⊢
  have y1 := fun r b0 b1 b2 => mic_lb (p := fun r => hsM (N 12) (N 13) (8 * l + i) r) (f := fun r => N 2 r - usM (N 11) (N 12) (N 13) am' (N 0 6) r) (c := 1000000) (n := (N 0 1).toNat) (i := r) b0 b1 b2
  have y3 := mic_le (p := fun r => hsM (N 12) (N 13) (8 * l + i) r) (f := fun r => N 2 r - usM (N 11) (N 12) (N 13) am' (N 0 6) r) (c := 1000000) (n := (N 0 1).toNat)
  have y2 := mic_at (p := fun r => hsM (N 12) (N 13) (8 * l + i) r) (f := fun r => N 2 r - usM (N 11) (N 12) (N 13) am' (N 0 6) r) (c := 1000000) (n := (N 0 1).toNat)
  generalize mic (fun r => hsM (N 12) (N 13) (8 * l + i) r) (fun r => N 2 r - usM (N 11) (N 12) (N 13) am' (N 0 6) r) 1000000 (N 0 1).toNat = y at y1 y2 y3 ⊢
  have mem : ∀ r, 0 ≤ r → (hsM (N 12) (N 13) (8 * l + i) r ≠ 0 ↔ ∃ k, 0 ≤ k ∧ k < M 29 (8 * l + i) ∧ M 31 (8 * (8 * l + i) + k) = r) := fun r hr => by
    unfold hsM
    rw [hsI_iff, ← a1]
    constructor
    · rintro ⟨k, b0, b1, b2⟩
      exact ⟨k, b0, by omega, by rw [(a3 k b0 (by omega)).1]; exact b2⟩
    · rintro ⟨k, b0, b1, b2⟩
      exact ⟨k, b0, by omega, by rw [← (a3 k b0 b1).1]; exact b2⟩
  have n1 := F.1.n1
  have val : ∀ k, 0 ≤ k → k < M 29 (8 * l + i) → x ≤ y ∨ True := fun _ _ _ => Or.inr trivial
  have hxy : x = y := by
    have k0 := a3 0 (by omega) (by omega)
    have b0 := hN.2.2.2.1 _ k0.2.1 k0.2.2
    have ub := us_bd (am := am) (mk := M 30) (fun s a b => (E.1 s a b).1) (M 31 (8 * (8 * l + i) + 0))
    have h1 := x1.2 0 (by omega) (by omega)
    have le1 : y ≤ x := by
      rcases x2 with q | ⟨k, c0, c1, q⟩
      · have := y1 (M 31 (8 * (8 * l + i) + 0)) k0.2.1 (by omega) ((mem _ k0.2.1).mpr ⟨0, by omega, by omega, rfl⟩)
        rw [← u _ k0.2.1, ← F.1.r4] at this
        omega
      · have kk := a3 k c0 (by omega)
        have := y1 (M 31 (8 * (8 * l + i) + k)) kk.2.1 (by omega) ((mem _ kk.2.1).mpr ⟨k, c0, by omega, rfl⟩)
        rw [← u _ kk.2.1, ← F.1.r4] at this
        omega
    have le2 : x ≤ y := by
      rcases y2 with q | ⟨r, c0, c1, c2, q⟩
      · omega
      · obtain ⟨k, d0, d1, d2⟩ := (mem r c0).mp c2
        have := x1.2 k d0 (by omega)
        rw [d2, u r c0, F.1.r4] at this
        omega
    omega
  rw [hxy]
  by_cases q : y < 0
  · rw [if_pos q, if_neg (by omega)]
  · rw [if_neg q]
    by_cases q2 : 0 < y
    · rw [if_pos q2]
    · rw [if_neg q2]; omega
theorem Fu.co (F : Fu M N) (E : EA M am am') : coC am (M 5) (M 29) (M 31) = sg (fun l => sg (fun i => am' (8 * l + i) * prM (N 12) (N 13) (N 3) (N 0 1) (8 * l + i)) (N 11 l)) (N 0 6) := by
  have hN := F.1.nb.2.2.1
  have e := F.1.n2
  unfold coC
  rw [sg_grp, sg_cut (n := M 1 2) (m := 5) hN.1 hN.2 (fun l a b => by
    rw [sg_cut (n := 0) (m := 8) (by omega) (by omega) (fun i c d => if_pos (E.z (by omega) b c d (Or.inl a)))]; rfl), ← e]
  refine sg_congr (fun l a b => ?_)
  have cb := F.cb a b
  rw [sg_cut (n := M 28 l) (m := 8) cb.1 cb.2 (fun i c d => if_pos (E.z a (by omega) (by omega) d (Or.inr c))), F.cn a b]
  refine sg_congr (fun i c d => ?_)
  have d' : i < M 28 l := by rw [F.cn a b]; exact d
  have ea := E.2 (8 * l + i) (by omega) (by omega)
  rw [F.pr a b c d', ea]
  by_cases z : am' (8 * l + i) = 0
  · rw [if_pos z, z, Int.zero_mul]
  · rw [if_neg z]
end FU
