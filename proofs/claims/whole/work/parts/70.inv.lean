/-! what holds between two calls: the class's memory M, the model's memory N -/
def ZO (f : Int → Int) (n : Int) : Prop := ∀ i, ¬ (0 ≤ i ∧ i < n) → f i = 0
def Co (sc a b rm pr ln kd fr to sz am hd : Int → Int) : Prop :=
  netB sc a b rm pr ln kd fr to sz ∧
  (∀ s, 0 ≤ s → s < 40 → (0 ≤ am s ∧ am s ≤ 100) ∧ (am s ≠ 0 → s / 8 < sc 2 ∧ s % 8 < (wsL sc a b (fr (s / 8)) (to (s / 8))).length)) ∧
  (∀ l, 0 ≤ l → l < sc 2 → (0 ≤ hd l ∧ hd l ≤ 7) ∧ (hd l = 0 ∨ hd l < (wsL sc a b (fr l) (to l)).length)) ∧
  (∀ l, sc 2 ≤ l → l < 5 → hd l = 0) ∧ (ZO a 20 ∧ ZO b 20 ∧ ZO rm 20 ∧ ZO pr 20 ∧ ZO ln 20) ∧ ZO kd 5 ∧ ZO fr 5 ∧ ZO to 5 ∧ ZO sz 5
def CoM (M : Mem) : Prop := Co (M 1) (M 2) (M 3) (M 4) (M 5) (M 6) (M 7) (M 8) (M 9) (M 10) (M 22) (M 23)
def CoK (M : Mem) : Prop := Co (M 11) (M 12) (M 13) (M 14) (M 15) (M 16) (M 17) (M 18) (M 19) (M 20) (M 25) (M 26)
def Re (M N : Mem) : Prop := (M 1 0 = N 0 0 ∧ M 1 1 = N 0 1 ∧ M 1 2 = N 0 6) ∧ (M 2 = aM N ∧ M 3 = bM N ∧ M 4 = N 2 ∧ M 5 = N 3 ∧ M 6 = N 4 ∧ M 7 = N 5 ∧ M 8 = N 6 ∧ M 9 = N 7 ∧ M 10 = N 8) ∧ (∀ s, 0 ≤ s → s < 8 * M 1 2 → M 22 s = N 10 s) ∧ (∀ l, 0 ≤ l → l < M 1 2 → M 23 l = N 9 l)
def Rk (M N : Mem) : Prop := (M 11 0 = N 14 0 ∧ M 11 1 = N 14 1 ∧ M 11 2 = N 14 2) ∧ (∀ r, 0 ≤ r → r < 20 → M 12 r = N 15 (5 * r) ∧ M 13 r = N 15 (5 * r + 1) ∧ M 14 r = N 15 (5 * r + 2) ∧ M 15 r = N 15 (5 * r + 3) ∧ M 16 r = N 15 (5 * r + 4)) ∧ (∀ l, 0 ≤ l → l < 5 → M 17 l = N 16 (5 * l) ∧ M 18 l = N 16 (5 * l + 1) ∧ M 19 l = N 16 (5 * l + 2) ∧ M 20 l = N 16 (5 * l + 3)) ∧ (∀ s, 0 ≤ s → s < 8 * M 11 2 → M 25 s = N 17 s) ∧ (∀ l, 0 ≤ l → l < M 11 2 → M 26 l = N 16 (5 * l + 4))
def KE (M N : Mem) : Prop := M 0 8 = N 0 16 ∧ (M 0 8 = 0 ∨ M 0 8 = 1) ∧ (M 0 8 = 1 → CoK M ∧ Rk M N)
def Inv (M N : Mem) : Prop := CoM M ∧ Re M N ∧ (FO M ∧ ∀ l, M 1 2 ≤ l → l < 5 → M 32 l = 0) ∧ SH M ∧ (∀ l, 0 ≤ l → l < N 0 6 → WLm N l) ∧ KE M N
theorem KE.tr {M N M' N' : Mem} (h : KE M N) (hM : ∀ k, (11 ≤ k ∧ k ≤ 20) ∨ k = 25 ∨ k = 26 → M' k = M k) (h8 : M' 0 8 = M 0 8) (hN : ∀ k, 14 ≤ k ∧ k ≤ 17 → N' k = N k) (h16 : N' 0 16 = N 0 16) : KE M' N' := by
  unfold KE CoK Rk at *
  rw [h8, h16, hM 11 (by omega), hM 12 (by omega), hM 13 (by omega), hM 14 (by omega), hM 15 (by omega), hM 16 (by omega), hM 17 (by omega), hM 18 (by omega), hM 19 (by omega), hM 20 (by omega), hM 25 (by omega), hM 26 (by omega), hN 14 (by omega), hN 15 (by omega), hN 16 (by omega), hN 17 (by omega)]
  exact h
theorem wsL_sc {sc sc' a b : Int → Int} (h0 : sc 0 = sc' 0) (h1 : sc 1 = sc' 1) (s t : Int) : wsL sc a b s t = wsL sc' a b s t := by
  unfold wsL acc
  rw [h0, h1]
section IN
variable {M N M' N' : Mem}
theorem Inv.nb (h : Inv M N) : NB M := h.1.1
theorem Inv.az (h : Inv M N) : AZ M := h.1.2.1
theorem Inv.hz (h : Inv M N) : HZ M := h.1.2.2.1
theorem Inv.fo (h : Inv M N) : FO M := h.2.2.1.1
theorem Inv.sh (h : Inv M N) : SH M := h.2.2.2.1
theorem Inv.ke (h : Inv M N) : KE M N := h.2.2.2.2.2
theorem Inv.n0 (h : Inv M N) : M 1 0 = N 0 0 := h.2.1.1.1
theorem Inv.n1 (h : Inv M N) : M 1 1 = N 0 1 := h.2.1.1.2.1
theorem Inv.n2 (h : Inv M N) : M 1 2 = N 0 6 := h.2.1.1.2.2
theorem Inv.r2 (h : Inv M N) : M 2 = aM N := h.2.1.2.1.1
theorem Inv.r3 (h : Inv M N) : M 3 = bM N := h.2.1.2.1.2.1
theorem Inv.r4 (h : Inv M N) : M 4 = N 2 := h.2.1.2.1.2.2.1
theorem Inv.r5 (h : Inv M N) : M 5 = N 3 := h.2.1.2.1.2.2.2.1
theorem Inv.r6 (h : Inv M N) : M 6 = N 4 := h.2.1.2.1.2.2.2.2.1
theorem Inv.r7 (h : Inv M N) : M 7 = N 5 := h.2.1.2.1.2.2.2.2.2.1
theorem Inv.r8 (h : Inv M N) : M 8 = N 6 := h.2.1.2.1.2.2.2.2.2.2.1
theorem Inv.r9 (h : Inv M N) : M 9 = N 7 := h.2.1.2.1.2.2.2.2.2.2.2.1
theorem Inv.r10 (h : Inv M N) : M 10 = N 8 := h.2.1.2.1.2.2.2.2.2.2.2.2
theorem Inv.am (h : Inv M N) : ∀ s, 0 ≤ s → s < 8 * M 1 2 → M 22 s = N 10 s := h.2.1.2.2.1
theorem Inv.hd (h : Inv M N) : ∀ l, 0 ≤ l → l < M 1 2 → M 23 l = N 9 l := h.2.1.2.2.2
theorem Inv.wlm (h : Inv M N) : ∀ l, 0 ≤ l → l < N 0 6 → WLm N l := h.2.2.2.2.1
theorem nbm_of (hN : NB M) (hR : Re M N) : NBm N := by
  obtain ⟨hp0, hr, hl, hR1, hL⟩ := hN
  obtain ⟨⟨a0, a1, a2⟩, ⟨b2, b3, b4, b5, b6, b7, b8, b9, b10⟩, _, _⟩ := hR
  rw [a0, a1, b2, b3, b4, b5, b6] at hR1
  rw [a0, a2, b7, b8, b9, b10] at hL
  rw [a0] at hp0
  rw [a1] at hr
  rw [a2] at hl
  exact ⟨hp0, hr, hl, hR1, hL⟩
theorem Inv.nbm (h : Inv M N) : NBm N := nbm_of h.nb h.2.1
theorem Inv.wbm (h : Inv M N) : WBm N := WBm_of h.nbm h.wlm
theorem Inv.avm (h : Inv M N) : AVm N := by
  have hN := h.nb.2.2.1
  intro l a b i c d
  have b' := h.n2
  rw [← h.am (8 * l + i) (by omega) (by omega)]
  exact (h.az (8 * l + i) (by omega) (by omega)).1
theorem Inv.hhm (h : Inv M N) : ∀ l, 0 ≤ l → l < N 0 6 → 0 ≤ N 9 l ∧ N 9 l ≤ 7 := by
  intro l a b
  have b' := h.n2
  rw [← h.hd l a (by omega)]
  exact (h.hz l a (by omega)).1
theorem Inv.hhc (h : Inv M N) : ∀ l, 0 ≤ l → l < M 1 2 → 0 ≤ M 23 l ∧ M 23 l ≤ 7 := fun l a b => (h.hz l a b).1
theorem Inv.hh5 (h : Inv M N) : ∀ l, 0 ≤ l → l < 5 → 0 ≤ M 23 l ∧ M 23 l ≤ 7 := fun l a b => by
  by_cases c : l < M 1 2
  · exact (h.hz l a c).1
  · have := h.1.2.2.2.1 l (by omega) b
    omega
theorem Inv.a40 (h : Inv M N) : ∀ s, 0 ≤ s → s < 40 → 0 ≤ M 22 s ∧ M 22 s ≤ 100 := fun s a b => (h.az s a b).1
theorem Inv.sc (h : Inv M N) (s t : Int) : wsL (scM N) (aM N) (bM N) s t = wsL (M 1) (M 2) (M 3) s t := by
  rw [h.r2, h.r3]
  exact wsL_sc (by rw [h.n0]; rfl) (by rw [h.n1]; rfl) s t
theorem Inv.wl (h : Inv M N) (c : Int) : wallF (scM N) (aM N) (bM N) (N 2) c = wallF (M 1) (M 2) (M 3) (M 4) c := by
  rw [h.r2, h.r3, h.r4]
  unfold wallF
  rw [h.n1]
  rfl
theorem Inv.cl (h : Inv M N) (c : Int) : callF (scM N) (N 6) (N 7) (N 8) c = callF (M 1) (M 8) (M 9) (M 10) c := by
  rw [h.r8, h.r9, h.r10]
  unfold callF
  rw [h.n2]
  rfl
/-- rows that no call of this kind writes -/
theorem Inv.mod (h : Inv M N) (hM : ∀ k, k < 28 → M' k = M k) (hf : FO M' ∧ ∀ l, M 1 2 ≤ l → l < 5 → M' 32 l = 0) (hs : SH M') (hN : ∀ k, 0 < k → k < 18 → N' k = N k) (h0 : N' 0 0 = N 0 0 ∧ N' 0 1 = N 0 1 ∧ N' 0 6 = N 0 6 ∧ N' 0 16 = N 0 16) : Inv M' N' := by
  obtain ⟨i1, i2, i3, i4, i5, i6⟩ := h
  refine ⟨?_, ?_, ⟨hf.1, ?_⟩, hs, ?_, i6.tr (fun k hk => hM k (by omega)) (by rw [hM 0 (by omega)]) (fun k hk => hN k (by omega) (by omega)) h0.2.2.2⟩
  · unfold CoM at *
    rw [hM 1 (by omega), hM 2 (by omega), hM 3 (by omega), hM 4 (by omega), hM 5 (by omega), hM 6 (by omega), hM 7 (by omega), hM 8 (by omega), hM 9 (by omega), hM 10 (by omega), hM 22 (by omega), hM 23 (by omega)]
    exact i1
  · unfold Re aM bM at *
    rw [hM 1 (by omega), hM 2 (by omega), hM 3 (by omega), hM 4 (by omega), hM 5 (by omega), hM 6 (by omega), hM 7 (by omega), hM 8 (by omega), hM 9 (by omega), hM 10 (by omega), hM 22 (by omega), hM 23 (by omega), h0.1, h0.2.1, h0.2.2.1, hN 1 (by omega) (by omega), hN 2 (by omega) (by omega), hN 3 (by omega) (by omega), hN 4 (by omega) (by omega), hN 5 (by omega) (by omega), hN 6 (by omega) (by omega), hN 7 (by omega) (by omega), hN 8 (by omega) (by omega), hN 9 (by omega) (by omega), hN 10 (by omega) (by omega)]
    exact i2
  · rw [hM 1 (by omega)]; exact hf.2
  · intro l a b
    rw [h0.2.2.1] at b
    have w := i5 l a b
    have e : scM N' = scM N := by
      funext i
      unfold scM
      rw [h0.1, h0.2.1, h0.2.2.1]
    unfold WLm Wsm aM bM at *
    rw [e, hN 1 (by omega) (by omega), hN 6 (by omega) (by omega), hN 7 (by omega) (by omega), hN 11 (by omega) (by omega), hN 12 (by omega) (by omega), hN 13 (by omega) (by omega)]
    exact w
theorem Inv.fdo (h : Inv M N) (F : FD M M') : FO M' ∧ ∀ l, M 1 2 ≤ l → l < 5 → M' 32 l = 0 := by
  refine ⟨⟨?_, fun l a b => ?_, fun l a b _ => (F.1 l a (by rw [F.k (k := 1) (by omega)] at b; exact b)).1⟩, fun l a b => ?_⟩
  · rw [F.k (k := 35) (by omega)]; exact h.fo.1
  · by_cases c : l < M 1 2
    · exact Or.inr (F.1 l a c).2
    · rw [F.2.1 l (by omega)]; exact h.fo.2.1 l a b
  · rw [F.2.1 l (by omega)]; exact h.2.2.1.2 l a b
theorem Inv.fd (h : Inv M N) (F : FD M M') : Inv M' N :=
  h.mod (fun k hk => F.k (by omega)) (h.fdo F) (by intro l a b; rw [F.k (k := 48) (by omega), F.k (k := 49) (by omega), F.k (k := 50) (by omega)]; exact h.sh l a b) (fun _ _ _ => rfl) ⟨rfl, rfl, rfl, rfl⟩
end IN
