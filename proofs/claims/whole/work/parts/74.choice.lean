/-! shares and choices: class and model -/
section FW
variable {M N M' : Mem} {l i r : Int}
theorem hs_l {N : Mem} {s r : Int} {w : List Int} (ok : ∀ r ∈ w, 0 ≤ r ∧ r < 20) (a2 : N 12 s = w.length) (a4 : ∀ (k : Nat) (r : Int), w[k]? = some r → N 13 (8 * s + k) = r) (hr : 0 ≤ r) : bt (mkO (fun k => w.getD k.toNat 0) w.length) r = 0 ↔ hsM (N 12) (N 13) s r = 0 := by
  have gd : ∀ k : Int, 0 ≤ k → k < w.length → w.getD k.toNat 0 = N 13 (8 * s + k) ∧ 0 ≤ w.getD k.toNat 0 ∧ w.getD k.toNat 0 < 20 := fun k k0 k1 => by
    have e := List.getElem?_eq_getElem (l := w) (i := k.toNat) (by omega)
    have q := a4 k.toNat _ e
    have m := ok w[k.toNat] (List.getElem_mem _)
    rw [show ((k.toNat : Nat) : Int) = k by omega] at q
    rw [List.getD_eq_getElem?_getD, e]
    show w[k.toNat] = _ ∧ 0 ≤ w[k.toNat] ∧ w[k.toNat] < 20
    exact ⟨q.symm, m.1, m.2⟩
  rw [mkO_bt hr (fun k k0 k1 => (gd k k0 k1).2)]
  unfold hsM
  rw [a2, Int.toNat_natCast]
  constructor
  · intro h
    by_cases z : hsI (fun k => N 13 (8 * s + k)) r w.length = 0
    · exact z
    · obtain ⟨k, k0, k1, k2⟩ := hsI_iff.mp z
      exact absurd (by rw [(gd k k0 k1).1]; exact k2) (h k k0 k1)
  · intro h k k0 k1 e
    rw [(gd k k0 k1).1] at e
    exact (hsI_iff.mpr ⟨k, k0, k1, e⟩) h
theorem Inv.cnm (I : Inv M N) (h0 : 0 ≤ l) (h1 : l < M 1 2) : N 11 l = (wsC M l).length := by
  have e := I.n2
  have b := (I.wlm l h0 (by omega)).1
  rw [I.sc, ← I.r8, ← I.r9] at b
  exact b
theorem Inv.fpm (I : Inv M N) (h0 : 0 ≤ l) (h1 : l < M 1 2) : fpC (M 22) l = fpt (fun i => N 10 (8 * l + i)) (N 11 l).toNat := by
  have hN := I.nb.2.2.1
  have hcn := I.cnm h0 h1
  have hb := (I.wlm l h0 (by have := I.n2; omega)).cnt
  unfold fpC
  have e := fpt_cut (f := fun i => M 22 (8 * l + i)) (n := (N 11 l).toNat) (8 - (N 11 l).toNat) (fun i c d => by
    by_cases z : M 22 (8 * l + i) = 0
    · exact z
    · have q := (I.az (8 * l + i) (by omega) (by omega)).2 z
      rw [show (8 * l + i) / 8 = l by omega, show (8 * l + i) % 8 = i by omega] at q
      have q2 : i < (wsC M l).length := q.2
      omega)
  rw [show (N 11 l).toNat + (8 - (N 11 l).toNat) = 8 by omega] at e
  rw [e]
  exact fpt_congr (fun i c d => I.am (8 * l + i) (by omega) (by omega))
theorem Inv.chs (I : Inv M N) (h0 : 0 ≤ l) (h1 : l < M 1 2) : (0 < (wsC M l).length → chS (N 5) (N 9) (N 11) (N 10) l = wyC (M 7) (M 23) (M 22) l) ∧ (¬ 0 < (wsC M l).length → chS (N 5) (N 9) (N 11) (N 10) l = -1) := by
  have hcn := I.cnm h0 h1
  have hz := I.hz l h0 h1
  have fp := I.fpm h0 h1
  have fb := fpt_lt (fun i => N 10 (8 * l + i)) (N 11 l).toNat
  unfold chS wyC
  rw [← I.r7, ← I.hd l h0 h1, ← fp]
  refine ⟨fun p => ?_, fun p => ?_⟩
  · by_cases k : M 7 l = 2
    · rw [if_pos k, if_pos k, if_pos (by omega)]
    · rw [if_neg k, if_neg k]
      by_cases q : 0 < fpC (M 22) l
      · rw [if_pos q, if_pos (by omega)]
      · rw [if_neg q]
        by_cases q2 : 0 ≤ fpC (M 22) l
        · rw [if_pos q2]; omega
        · rw [if_neg q2, if_pos (by omega)]
  · by_cases k : M 7 l = 2
    · rw [if_pos k, if_neg (by omega)]
    · rw [if_neg k, if_neg (by omega), if_neg (by omega)]
theorem Inv.hmk (I : Inv M N) : ∀ l, 0 ≤ l → l < N 0 6 → ∀ r, 0 ≤ r → r < N 0 1 → ((0 ≤ (chS (N 5) (N 9) (N 11) (N 10)) l ∧ hsM (N 12) (N 13) (8 * l + (chS (N 5) (N 9) (N 11) (N 10)) l) r ≠ 0) ↔ bt (mkW (wsC M) (wyC (M 7) (M 23) (M 22)) l) r ≠ 0) := by
  intro l h0 h1 r r0 r1
  have n2 := I.n2
  have h1' : l < M 1 2 := by omega
  have c := I.chs h0 h1'
  have hr := I.nb.2.1
  unfold mkW
  by_cases p : 0 < (wsC M l).length
  · rw [if_pos p, c.1 p]
    have w := wy_ok I.az I.hz I.nb h0 h1' p
    obtain ⟨w', b1, b2, b3⟩ := (I.wlm l h0 h1).at w.1 (by rw [I.cnm h0 h1']; exact w.2)
    rw [I.sc, ← I.r8, ← I.r9] at b1
    have ok := wsL_ok I.nb.1.2 (I.nb.2.2.2.2 l h0 h1').2.2.2.1 (List.mem_of_getElem? b1)
    have e : (wsC M l).getD (wyC (M 7) (M 23) (M 22) l).toNat [] = w' := by
      unfold wsC
      rw [List.getD_eq_getElem?_getD, b1]
      rfl
    rw [e]
    have q := hs_l (N := N) (s := 8 * l + wyC (M 7) (M 23) (M 22) l) (r := r) (w := w') (fun r hr' => by have := ok.2.1 r hr'; omega) b2 b3 r0
    rw [ne_eq, ne_eq, q]
    exact ⟨fun x => x.2, fun x => ⟨w.1, x⟩⟩
  · rw [if_neg p, c.2 p]
    constructor
    · intro x; omega
    · intro x
      exact absurd (by unfold bt; simp) x
theorem Inv.xw (I : Inv M N) (R : Int → Int) (h0 : 0 ≤ l) (h1 : l < N 0 6) : (rnC (mkW (wsC M) (wyC (M 7) (M 23) (M 22))) (N 8) (N 2) (N 0 6) (N 0 1) ((fun _ : Int => (0 : Int)), ini R (fun l => if 0 ≤ chS (N 5) (N 9) (N 11) (N 10) l then 1 else 0) (N 0 6)) (N 0 6).toNat).1 l = XW (wsC M) (wyC (M 7) (M 23) (M 22)) (M 10) (M 4) (M 1 2) (M 1 1) l := by
  unfold XW
  rw [← I.r10, ← I.r4, ← I.n1, ← I.n2]
  rw [← I.n2] at h1
  refine (rnC_c (lc := M 1 2) (s := ((fun _ : Int => (0 : Int)), ini R (fun l => if 0 ≤ chS (N 5) (N 9) (N 11) (N 10) l then 1 else 0) (M 1 2))) (s' := ((fun _ : Int => (0 : Int)), rsW (wsC M))) (mk := mkW (wsC M) (wyC (M 7) (M 23) (M 22))) (mk' := mkW (wsC M) (wyC (M 7) (M 23) (M 22))) (fun _ _ _ => rfl) (fun l a b => ⟨rfl, ?_⟩) _ l h0 h1).1
  have c := I.chs a b
  have p1 := fun p => wy_ok I.az I.hz I.nb a b p
  show ini R (fun l => if 0 ≤ chS (N 5) (N 9) (N 11) (N 10) l then (1 : Int) else 0) (M 1 2) l = rsW (wsC M) l
  unfold ini rsW
  rw [if_pos ⟨a, b⟩]
  by_cases p : 0 < (wsC M l).length
  · rw [if_pos p]
    exact if_pos (by rw [c.1 p]; exact (p1 p).1)
  · rw [if_neg p]
    exact if_neg (by rw [c.2 p]; omega)
theorem Fu.box (F : Fu M N) : ∀ j : Int, 0 ≤ j → j < (((M 1 2).toNat : Nat) : Int) → fsM (M 7) (M 23) j = fsM (N 5) (N 9) j ∧ lsM (M 7) (M 23) (M 28) j = lsM (N 5) (N 9) (N 11) j := fun j a b => by
  have h1 : j < M 1 2 := by omega
  unfold fsM lsM
  rw [F.1.r7, F.1.hd j a h1, F.cn a h1]
  exact ⟨rfl, rfl⟩
theorem Fu.bxv (F : Fu M N) {c : Int → Int} (h : Bx (M 1 2).toNat (fsM (M 7) (M 23)) (lsM (M 7) (M 23) (M 28)) c) : ∀ l, 0 ≤ l → l < M 1 2 → 0 ≤ c l ∧ c l < M 28 l := fun l a b => by
  have q := h l a (by omega)
  have z := (F.1.hz l a b).1
  unfold fsM lsM at q
  by_cases k : M 7 l = 2
  · rw [if_pos k] at q
    by_cases k2 : M 23 l < M 28 l
    · rw [if_pos ⟨k, k2⟩] at q; omega
    · rw [if_neg (by omega)] at q; omega
  · rw [if_neg k, if_neg (by omega)] at q
    omega
theorem Fu.co2 (F : Fu M N) {c : Int → Int} (h : ∀ l, 0 ≤ l → l < M 1 2 → 0 ≤ c l ∧ c l < M 28 l) : coF (M 29) (M 31) (M 10) (M 5) c (M 1 2) = coF (N 12) (N 13) (N 8) (N 3) c (N 0 6) := by
  unfold coF
  rw [← F.1.n2]
  refine sg_congr (fun l a b => ?_)
  have q := h l a b
  obtain ⟨a1, a2, a3, a4⟩ := F.rd a b q.1 q.2
  rw [← a1]
  refine sg_congr (fun k k0 k1 => ?_)
  rw [(a3 k k0 k1).1, F.1.r10, F.1.r5]
theorem Fu.fe2 (F : Fu M N) {c : Int → Int} (h : ∀ l, 0 ≤ l → l < M 1 2 → 0 ≤ c l ∧ c l < M 28 l) : feF (M 29) (M 31) (M 10) (M 4) (M 1 2) (M 1 1) c ↔ feF (N 12) (N 13) (N 8) (N 2) (N 0 6) (N 0 1) c := by
  have e : ∀ r, ldF (M 29) (M 31) (M 10) c (M 1 2) r = ldF (N 12) (N 13) (N 8) c (N 0 6) r := fun r => by
    unfold ldF
    rw [← F.1.n2]
    refine sg_congr (fun l a b => ?_)
    have q := h l a b
    obtain ⟨a1, a2, a3, a4⟩ := F.rd a b q.1 q.2
    rw [← a1]
    refine sg_congr (fun k k0 k1 => ?_)
    rw [(a3 k k0 k1).1, F.1.r10]
  unfold feF
  rw [← F.1.n1, ← F.1.r4]
  exact ⟨fun x r a b => by rw [← e r]; exact x r a b, fun x r a b => by rw [e r]; exact x r a b⟩
theorem Fu.bsn (F : Fu M N) (h : BsN (M 1 2).toNat (fsM (M 7) (M 23)) (lsM (M 7) (M 23) (M 28)) (fun c => feF (M 29) (M 31) (M 10) (M 4) (M 1 2) (M 1 1) c) 32768) : BsN (N 0 6).toNat (fsM (N 5) (N 9)) (lsM (N 5) (N 9) (N 11)) (fun c => feF (N 12) (N 13) (N 8) (N 2) (N 0 6) (N 0 1) c) 32768 := by
  have := (h.congr (fe' := fun c => feF (N 12) (N 13) (N 8) (N 2) (N 0 6) (N 0 1) c) (fun v hv => F.fe2 (F.bxv hv))).box F.box
  rw [← F.1.n2]
  rw [← F.1.n2] at this
  exact this
theorem Fu.bss (F : Fu M N) {z : Int} {b : Int → Int} (h : BsS (M 1 2).toNat (fsM (M 7) (M 23)) (lsM (M 7) (M 23) (M 28)) (fun c => coF (M 29) (M 31) (M 10) (M 5) c (M 1 2)) (fun c => feF (M 29) (M 31) (M 10) (M 4) (M 1 2) (M 1 1) c) 32768 z b) : BsS (N 0 6).toNat (fsM (N 5) (N 9)) (lsM (N 5) (N 9) (N 11)) (fun c => coF (N 12) (N 13) (N 8) (N 3) c (N 0 6)) (fun c => feF (N 12) (N 13) (N 8) (N 2) (N 0 6) (N 0 1) c) 32768 z b := by
  have := (BsS.congr (co' := fun c => coF (N 12) (N 13) (N 8) (N 3) c (N 0 6)) (fe' := fun c => feF (N 12) (N 13) (N 8) (N 2) (N 0 6) (N 0 1) c) (fun v hv => F.co2 (F.bxv hv)) (fun v hv => F.fe2 (F.bxv hv)) h).box F.box
  rw [← F.1.n2]
  rw [← F.1.n2] at this
  exact this
theorem onA_at {f b sz : Int → Int} : ∀ {n : Nat}, (∀ l : Int, 0 ≤ l → l < n → 0 ≤ b l ∧ b l ≤ 7) → ∀ l i : Int, 0 ≤ l → 0 ≤ i → i < 8 → onA f b sz n (8 * l + i) = if l < n ∧ b l = i then sz l else f (8 * l + i)
  | 0, _, l, i, h0, i0, i1 => by rw [if_neg (by omega)]; rfl
  | n + 1, hb, l, i, h0, i0, i1 => by
    have ih := onA_at (f := f) (sz := sz) (n := n) (fun l a b => hb l a (by omega)) l i h0 i0 i1
    have q := hb n (by omega) (by omega)
    simp only [onA]
    by_cases e : l = n
    · subst e
      by_cases e2 : b n = i
      · rw [e2, fset_s, if_pos ⟨by omega, rfl⟩]
      · rw [fset_n (by omega), ih, if_neg (by omega), if_neg (by omega)]
    · rw [fset_n (by omega), ih]
      by_cases c : l < n ∧ b l = i
      · rw [if_pos c, if_pos (by omega)]
      · rw [if_neg c, if_neg (by omega)]
theorem Fu.ona (F : Fu M N) {b b' : Int → Int} (h : ∀ l, 0 ≤ l → l < M 1 2 → 0 ≤ b l ∧ b l < M 28 l) (e : ∀ l, 0 ≤ l → l < M 1 2 → b l = b' l) : EA M (onA (fillN (M 22) 40 0) b (M 10) (M 1 2).toNat) (onA (clr (N 10) 0 (8 * N 0 6)) b' (N 8) (N 0 6).toNat) := by
  have n2 := F.1.n2
  have hN := F.1.nb
  have hb7 : ∀ l : Int, 0 ≤ l → l < (((M 1 2).toNat : Nat) : Int) → 0 ≤ b l ∧ b l ≤ 7 := fun l a c => by
    have q := h l a (by omega)
    have z := F.cb a (l := l) (by omega)
    omega
  have va : ∀ l i : Int, 0 ≤ l → 0 ≤ i → i < 8 → 8 * l + i < 40 → onA (fillN (M 22) 40 0) b (M 10) (M 1 2).toNat (8 * l + i) = if l < M 1 2 ∧ b l = i then M 10 l else 0 := fun l i a c d f => by
    rw [onA_at hb7 l i a c d]
    have z : fillN (M 22) 40 0 (8 * l + i) = 0 := by unfold fillN; rw [if_pos (by omega)]
    rw [z]
    exact ifc (by omega)
  refine ⟨fun s a c => ?_, fun s a c => ?_⟩
  · have es : s = 8 * (s / 8) + s % 8 := by omega
    rw [es, va (s / 8) (s % 8) (by omega) (by omega) (by omega) (by omega), ← es]
    split
    · rename_i q
      have sz := (hN.2.2.2.2 (s / 8) (by omega) q.1).2.2.2.2
      have x := h (s / 8) (by omega) q.1
      exact ⟨by omega, fun _ => ⟨q.1, by omega⟩⟩
    · exact ⟨by omega, fun x => absurd rfl x⟩
  · have es : s = 8 * (s / 8) + s % 8 := by omega
    rw [es, va (s / 8) (s % 8) (by omega) (by omega) (by omega) (by have := hN.2.2.1; omega)]
    rw [onA_at (n := (N 0 6).toNat) (fun l x y => by have := hb7 l x (by omega); rw [← e l x (by omega)]; exact this) (s / 8) (s % 8) (by omega) (by omega) (by omega)]
    have z : clr (N 10) 0 (8 * N 0 6) (8 * (s / 8) + s % 8) = 0 := by unfold clr; rw [if_pos (by omega)]
    rw [z, ← F.1.r10, ← e (s / 8) (by omega) (by omega)]
    exact ifc (by omega)
end FW
