/-! what the ways are -/
theorem nxt_end {a b : Int → Int} {r p : Int} (h : ¬ nxt a b r p < 0) : (a r = p ∧ b r = nxt a b r p) ∨ (b r = p ∧ a r = nxt a b r p) := by
  unfold nxt at *
  by_cases h1 : a r = p
  · left; rw [if_pos h1]; exact ⟨h1, rfl⟩
  · rw [if_neg h1] at h ⊢
    by_cases h2 : b r = p
    · right; rw [if_pos h2]; exact ⟨h2, rfl⟩
    · rw [if_neg h2] at h; omega
theorem pth_ok {rc : Nat} {a b : Int → Int} {t : Int} : ∀ (k : Nat) (p : Int) (seen w : List Int), p ∈ seen → w ∈ pth rc a b t k p seen → w.length = k ∧ (∀ r ∈ w, 0 ≤ r ∧ r < rc) ∧ (∀ r ∈ w, a r ∉ seen ∨ b r ∉ seen) ∧ w.Nodup
  | 0, p, seen, w, hp, hw => by
    simp only [pth] at hw
    split at hw
    · rw [List.mem_singleton] at hw
      subst hw
      simp
    · simp at hw
  | k + 1, p, seen, w, hp, hw => by
    simp only [pth] at hw
    split at hw
    · simp at hw
    · rw [List.mem_flatMap] at hw
      obtain ⟨r, hr, hw⟩ := hw
      rw [List.mem_range] at hr
      split at hw
      · simp at hw
      · rename_i hc
        rw [List.mem_map] at hw
        obtain ⟨u, hu, rfl⟩ := hw
        have h1 : ¬ nxt a b r p < 0 := fun q => hc (Or.inl q)
        have h2 : nxt a b r p ∉ seen := fun q => hc (Or.inr q)
        obtain ⟨i1, i2, i3, i4⟩ := pth_ok k (nxt a b r p) (nxt a b r p :: seen) u List.mem_cons_self hu
        have he := nxt_end h1
        refine ⟨by simp [i1], fun q hq => ?_, fun q hq => ?_, ?_⟩
        · rcases List.mem_cons.mp hq with e | e
          · subst e; omega
          · exact i2 q e
        · rcases List.mem_cons.mp hq with e | e
          · subst e
            rcases he with ⟨_, e2⟩ | ⟨_, e2⟩
            · right; rw [e2]; exact h2
            · left; rw [e2]; exact h2
          · rcases i3 q e with e2 | e2
            · left; exact fun z => e2 (List.mem_cons_of_mem _ z)
            · right; exact fun z => e2 (List.mem_cons_of_mem _ z)
        · rw [List.nodup_cons]
          refine ⟨fun q => ?_, i4⟩
          rcases he with ⟨e1, e2⟩ | ⟨e1, e2⟩
          · rcases i3 _ q with e3 | e3
            · exact e3 (by rw [e1]; exact List.mem_cons_of_mem _ hp)
            · exact e3 (by rw [e2]; exact List.mem_cons_self)
          · rcases i3 _ q with e3 | e3
            · exact e3 (by rw [e2]; exact List.mem_cons_self)
            · exact e3 (by rw [e1]; exact List.mem_cons_of_mem _ hp)
theorem wsL_ok {sc a b : Int → Int} {s t : Int} (hp : sc 0 ≤ 9) (hst : s ≠ t) {w : List Int} (h : w ∈ wsL sc a b s t) : (1 ≤ w.length ∧ w.length ≤ 8) ∧ (∀ r ∈ w, 0 ≤ r ∧ r < sc 1) ∧ w.Nodup := by
  have h2 := List.mem_of_mem_take h
  unfold acc at h2
  rw [List.mem_flatMap] at h2
  obtain ⟨k, hk, hw⟩ := h2
  rw [List.mem_range] at hk
  obtain ⟨i1, i2, i3, i4⟩ := pth_ok k s [s] w List.mem_cons_self hw
  refine ⟨⟨?_, by omega⟩, fun r hr => ?_, i4⟩
  · by_cases e : k = 0
    · subst e
      simp only [pth] at hw
      rw [if_neg hst] at hw
      simp at hw
    · omega
  · have := i2 r hr
    omega
theorem WL.at {M : Mem} {l : Int} (h : WL M l) {i : Int} (h0 : 0 ≤ i) (h1 : i < M 28 l) : ∃ w, (wsL (M 1) (M 2) (M 3) (M 8 l) (M 9 l))[i.toNat]? = some w ∧ M 29 (8 * l + i) = w.length ∧ M 30 (8 * l + i) = mkO (fun k => w.getD k.toNat 0) w.length ∧ ∀ (k : Nat) (r : Int), w[k]? = some r → M 31 (8 * (8 * l + i) + k) = r := by
  have hc := h.1
  have hlt : i.toNat < (wsL (M 1) (M 2) (M 3) (M 8 l) (M 9 l)).length := by omega
  refine ⟨_, List.getElem?_eq_getElem hlt, ?_⟩
  have h2 := h.2 i.toNat _ (List.getElem?_eq_getElem hlt)
  rw [show ((i.toNat : Nat) : Int) = i by omega] at h2
  exact ⟨h2.2.1, h2.2.2.1, h2.2.2.2⟩
theorem WLm.at {M : Mem} {l : Int} (h : WLm M l) {i : Int} (h0 : 0 ≤ i) (h1 : i < M 11 l) : ∃ w, (wsL (scM M) (aM M) (bM M) (M 6 l) (M 7 l))[i.toNat]? = some w ∧ M 12 (8 * l + i) = w.length ∧ ∀ (k : Nat) (r : Int), w[k]? = some r → M 13 (8 * (8 * l + i) + k) = r := by
  have hc := h.1
  have hlt : i.toNat < (wsL (scM M) (aM M) (bM M) (M 6 l) (M 7 l)).length := by omega
  refine ⟨_, List.getElem?_eq_getElem hlt, ?_⟩
  have h2 := h.2 i.toNat _ (List.getElem?_eq_getElem hlt)
  rw [show ((i.toNat : Nat) : Int) = i by omega] at h2
  exact ⟨h2.2.1, h2.2.2⟩
theorem WLm.cnt {M : Mem} {l : Int} (h : WLm M l) : 0 ≤ M 11 l ∧ M 11 l ≤ 8 := by
  have := wsL_len (scM M) (aM M) (bM M) (M 6 l) (M 7 l)
  rw [h.1]
  omega
theorem get_mem {w : List Int} {k : Nat} {r : Int} (h : w[k]? = some r) : r ∈ w := List.mem_of_getElem? h
theorem WL.vs {M : Mem} {l : Int} (h : WL M l) (hN : NB M) (hl : 0 ≤ l ∧ l < M 1 2) {i : Int} (h0 : 0 ≤ i) (h1 : i < M 28 l) : VS M (8 * l + i) := by
  obtain ⟨w, e1, e2, e3, e4⟩ := h.at h0 h1
  have hn := hN.2.2.2.2 l hl.1 hl.2
  have hr := hN.2.1
  have ok := wsL_ok hN.1.2 hn.2.2.2.1 (List.mem_of_getElem? e1)
  refine ⟨by omega, ?_, fun k k0 k1 => ?_⟩
  · rw [e3]
    refine mkO_rng (fun k k0 k1 => ?_)
    have hk : k.toNat < w.length := by omega
    rw [List.getD_eq_getElem?_getD, List.getElem?_eq_getElem hk]
    have := ok.2.1 _ (List.getElem_mem hk)
    simp only [Option.getD_some]
    omega
  · have hk : k.toNat < w.length := by omega
    have e5 := e4 k.toNat _ (List.getElem?_eq_getElem hk)
    rw [show ((k.toNat : Nat) : Int) = k by omega] at e5
    rw [e5]
    exact ok.2.1 _ (List.getElem_mem hk)
theorem WLm.vm {M : Mem} {l : Int} (h : WLm M l) (hN : NBm M) (hl : 0 ≤ l ∧ l < M 0 6) {i : Int} (h0 : 0 ≤ i) (h1 : i < M 11 l) : VM M (8 * l + i) := by
  obtain ⟨w, e1, e2, e4⟩ := h.at h0 h1
  have hn := hN.2.2.2.2 l hl.1 hl.2
  have ok := wsL_ok (sc := scM M) hN.1.2 hn.2.2.2.1 (List.mem_of_getElem? e1)
  refine ⟨by omega, fun k k0 k1 => ?_⟩
  have hk : k.toNat < w.length := by omega
  have e5 := e4 k.toNat _ (List.getElem?_eq_getElem hk)
  rw [show ((k.toNat : Nat) : Int) = k by omega] at e5
  rw [e5]
  exact ok.2.1 _ (List.getElem_mem hk)
theorem WB_of {M : Mem} (hN : NB M) (h : ∀ l, 0 ≤ l → l < M 1 2 → WL M l) : WB M := fun l h0 h1 => ⟨(h l h0 h1).cnt, fun _ i0 i1 => (h l h0 h1).vs hN ⟨h0, h1⟩ i0 i1⟩
theorem WBm_of {M : Mem} (hN : NBm M) (h : ∀ l, 0 ≤ l → l < M 0 6 → WLm M l) : WBm M := fun l h0 h1 => ⟨(h l h0 h1).cnt, fun _ i0 i1 => (h l h0 h1).vm hN ⟨h0, h1⟩ i0 i1⟩
