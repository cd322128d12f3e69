/-! shares: what is out of range does not matter -/
theorem riC_c {ri ri' mk mk' : Int → Int} {lc : Int} (h1 : ∀ l, 0 ≤ l → l < lc → ri l = ri' l) (h2 : ∀ l, 0 ≤ l → l < lc → mk l = mk' l) (r : Int) : riC ri mk lc r = riC ri' mk' lc r :=
  sg_congr (fun l a b => by simp only [h1 l a b, h2 l a b])
theorem soC_c {x x' ri ri' mk mk' : Int → Int} {lc : Int} (h0 : ∀ l, 0 ≤ l → l < lc → x l = x' l) (h1 : ∀ l, 0 ≤ l → l < lc → ri l = ri' l) (h2 : ∀ l, 0 ≤ l → l < lc → mk l = mk' l) (r : Int) : soC x ri mk lc r = soC x' ri' mk' lc r :=
  sg_congr (fun l a b => by simp only [h0 l a b, h1 l a b, h2 l a b])
theorem alC_c {x x' mk mk' : Int → Int} {lc : Int} (h0 : ∀ l, 0 ≤ l → l < lc → x l = x' l) (h2 : ∀ l, 0 ≤ l → l < lc → mk l = mk' l) (r : Int) : alC x mk lc r = alC x' mk' lc r :=
  sg_congr (fun l a b => by simp only [h0 l a b, h2 l a b])
theorem mic_c {p p' f f' : Int → Int} {c c' : Int} (hc : c = c') : ∀ {n : Nat}, (∀ i : Int, 0 ≤ i → i < n → p i = p' i) → (∀ i : Int, 0 ≤ i → i < n → f i = f' i) → mic p f c n = mic p' f' c' n
  | 0, _, _ => hc
  | n + 1, h1, h2 => by
    simp only [mic]
    rw [mic_c hc (n := n) (fun i a b => h1 i a (by omega)) (fun i a b => h2 i a (by omega)), h1 n (by omega) (by omega), h2 n (by omega) (by omega)]
theorem nhC_c {x x' ri ri' mk mk' sz rm : Int → Int} {lc rc : Int} (h0 : ∀ l, 0 ≤ l → l < lc → x l = x' l) (h1 : ∀ l, 0 ≤ l → l < lc → ri l = ri' l) (h2 : ∀ l, 0 ≤ l → l < lc → mk l = mk' l) : nhC x ri mk sz rm lc rc = nhC x' ri' mk' sz rm lc rc := by
  unfold nhC
  refine mic_c (mic_c rfl (fun i a b => h1 i a (by omega)) (fun _ _ _ => rfl)) (fun i a b => riC_c h1 h2 i) (fun i a b => ?_)
  simp only [riC_c h1 h2 i, soC_c h0 h1 h2 i]
theorem upto_c {p p' f f' v v' : Int → Int} {i : Int} {l : Int} (h1 : p l = p' l) (h2 : f l = f' l) (h3 : v l = v' l) : upto p f v i l = upto p' f' v' i l := by
  simp only [upto, h1, h2, h3]
theorem stR_cg {x x' mk mk' rm ri ri' : Int → Int} {lc : Int} (h0 : ∀ l, 0 ≤ l → l < lc → x l = x' l) (h1 : ∀ l, 0 ≤ l → l < lc → ri l = ri' l) (h2 : ∀ l, 0 ≤ l → l < lc → mk l = mk' l) : ∀ (n : Nat) (l : Int), 0 ≤ l → l < lc → stR x mk rm lc ri n l = stR x' mk' rm lc ri' n l
  | 0, l, a, b => h1 l a b
  | n + 1, l, a, b => by
    have ih := stR_cg (rm := rm) h0 h1 h2 n l a b
    simp only [stR]
    rw [alC_c h0 h2 n]
    split
    · exact upto_c (by simp only [h2 l a b]) ih rfl
    · exact ih
theorem stC_c2 {x x' mk mk' sz rm ri ri' : Int → Int} {lc rc : Int} (h0 : ∀ l, 0 ≤ l → l < lc → x l = x' l) (h1 : ∀ l, 0 ≤ l → l < lc → ri l = ri' l) (h2 : ∀ l, 0 ≤ l → l < lc → mk l = mk' l) (l : Int) (a : 0 ≤ l) (b : l < lc) : stC x mk sz rm lc rc ri l = stC x' mk' sz rm lc rc ri' l := by
  unfold stC
  exact upto_c (by simp only [h0 l a b]) (stR_cg h0 h1 h2 _ l a b) rfl
theorem rnC_c {mk mk' sz rm : Int → Int} {lc rc : Int} {s s' : (Int → Int) × (Int → Int)} (h2 : ∀ l, 0 ≤ l → l < lc → mk l = mk' l) (hs : ∀ l, 0 ≤ l → l < lc → s.1 l = s'.1 l ∧ s.2 l = s'.2 l) : ∀ (k : Nat) (l : Int), 0 ≤ l → l < lc → (rnC mk sz rm lc rc s k).1 l = (rnC mk' sz rm lc rc s' k).1 l ∧ (rnC mk sz rm lc rc s k).2 l = (rnC mk' sz rm lc rc s' k).2 l
  | 0, l, a, b => hs l a b
  | k + 1, l, a, b => by
    have ih := rnC_c (sz := sz) (rm := rm) (rc := rc) h2 hs k
    simp only [rnC]
    have hn := nhC_c (sz := sz) (rm := rm) (rc := rc) (fun l a b => (ih l a b).1) (fun l a b => (ih l a b).2) h2
    rw [hn]
    have hu : ∀ l, 0 ≤ l → l < lc → upto (rnC mk sz rm lc rc s k).2 (rnC mk sz rm lc rc s k).1 (fun _ => nhC (rnC mk' sz rm lc rc s' k).1 (rnC mk' sz rm lc rc s' k).2 mk' sz rm lc rc) lc l = upto (rnC mk' sz rm lc rc s' k).2 (rnC mk' sz rm lc rc s' k).1 (fun _ => nhC (rnC mk' sz rm lc rc s' k).1 (rnC mk' sz rm lc rc s' k).2 mk' sz rm lc rc) lc l :=
      fun l a b => upto_c (ih l a b).2 (ih l a b).1 rfl
    exact ⟨hu l a b, stC_c2 hu (fun l a b => (ih l a b).2) h2 l a b⟩
theorem stR_out {x mk rm ri : Int → Int} {lc l : Int} (h : ¬ (0 ≤ l ∧ l < lc)) : ∀ n : Nat, stR x mk rm lc ri n l = ri l
  | 0 => rfl
  | n + 1 => by
    have ih := stR_out (x := x) (mk := mk) (rm := rm) (ri := ri) h n
    simp only [stR]
    split
    · simp only [upto]
      rw [if_neg (by omega), ih]
    · exact ih
theorem rnC_out {mk sz rm : Int → Int} {lc rc : Int} {s : (Int → Int) × (Int → Int)} {l : Int} (h : ¬ (0 ≤ l ∧ l < lc)) : ∀ k : Nat, (rnC mk sz rm lc rc s k).1 l = s.1 l ∧ (rnC mk sz rm lc rc s k).2 l = s.2 l
  | 0 => ⟨rfl, rfl⟩
  | k + 1 => by
    have ih := rnC_out (mk := mk) (sz := sz) (rm := rm) (rc := rc) (s := s) h k
    simp only [rnC]
    refine ⟨?_, ?_⟩
    · simp only [upto]
      rw [if_neg (by omega)]
      exact ih.1
    · simp only [stC, upto]
      rw [if_neg (by omega), stR_out h]
      exact ih.2
theorem fpt_nz {f : Int → Int} : ∀ {n : Nat}, 0 ≤ fpt f n → f (fpt f n) ≠ 0
  | 0, h => by simp [fpt] at h
  | n + 1, h => by
    have ih := fpt_nz (f := f) (n := n)
    simp only [fpt] at h ⊢
    by_cases h1 : 0 ≤ fpt f n
    · rw [if_pos h1] at h ⊢; exact ih h1
    · rw [if_neg h1] at h ⊢
      by_cases h2 : f n = 0
      · rw [if_pos h2] at h; omega
      · rw [if_neg h2]; exact h2
theorem Ex.mono {Ly : List Ent} {g : Gt} {d : Nat} {y : Mth} {as : List MV} {M : Mem} {Post Post' : Option MV → Mem → Prop} (h : Ex Ly g d y as M Post) (hp : ∀ r M', Post r M' → Post' r M') : Ex Ly g d y as M Post' := by
  intro hi
  refine Jvm.Free.MetFree.mono (h hi) (fun _ _ q => q) (fun _ _ _ _ _ q => q) (fun a st o t _ q => ?_)
  obtain ⟨⟨r, M', a1, a2, a3⟩, a4⟩ := q
  exact ⟨⟨r, M', a1, hp r M' a2, a3⟩, a4⟩
/-! the ways that the shares are reckoned with, out of the lists of ways alone -/
def wsC (M : Mem) (l : Int) : List (List Int) := wsL (M 1) (M 2) (M 3) (M 8 l) (M 9 l)
def mkW (ws : Int → List (List Int)) (wy : Int → Int) (l : Int) : Int := if 0 < (ws l).length then mkO (fun k => ((ws l).getD (wy l).toNat []).getD k.toNat 0) ((ws l).getD (wy l).toNat []).length else 0
def rsW (ws : Int → List (List Int)) (l : Int) : Int := if 0 < (ws l).length then 1 else 0
def XW (ws : Int → List (List Int)) (wy sz rm : Int → Int) (lc rc : Int) : Int → Int := (rnC (mkW ws wy) sz rm lc rc ((fun _ => 0), rsW ws) lc.toNat).1
/-- the held ways fit -/
def HZ (M : Mem) : Prop := ∀ l, 0 ≤ l → l < M 1 2 → (0 ≤ M 23 l ∧ M 23 l ≤ 7) ∧ (M 23 l = 0 ∨ M 23 l < (wsC M l).length)
theorem FD.ws {M M1 : Mem} (h : FD M M1) (l : Int) : wsC M1 l = wsC M l := by
  unfold wsC
  rw [h.k (k := 1) (by omega), h.k (k := 2) (by omega), h.k (k := 3) (by omega), h.k (k := 8) (by omega), h.k (k := 9) (by omega)]
theorem FD.cn {M M1 : Mem} (h : FD M M1) {l : Int} (h0 : 0 ≤ l) (h1 : l < M 1 2) : M1 28 l = (wsC M l).length := by
  rw [← h.ws l]
  exact ((h.1 l h0 h1).1).1
theorem wy_ok {M : Mem} (hA : AZ M) (hZ : HZ M) (hN : NB M) {l : Int} (h0 : 0 ≤ l) (h1 : l < M 1 2) (hp : 0 < (wsC M l).length) : 0 ≤ wyC (M 7) (M 23) (M 22) l ∧ wyC (M 7) (M 23) (M 22) l < (wsC M l).length := by
  obtain ⟨hp0, hr, hl, hR, hL⟩ := id hN
  have z := hZ l h0 h1
  unfold wyC
  split
  · omega
  · split
    · rename_i q
      have b := fpt_bd (fun i => M 22 (8 * l + i)) 8
      have b2 := fpt_lt (fun i => M 22 (8 * l + i)) 8
      have nz := fpt_nz (f := fun i => M 22 (8 * l + i)) (n := 8) (by unfold fpC at q; omega)
      have a := (hA (8 * l + fpC (M 22) l) (by unfold fpC at *; omega) (by unfold fpC at *; omega)).2 nz
      have e1 : (8 * l + fpC (M 22) l) / 8 = l := by unfold fpC at *; omega
      have e2 : (8 * l + fpC (M 22) l) % 8 = fpC (M 22) l := by unfold fpC at *; omega
      rw [e1, e2] at a
      exact ⟨by omega, a.2⟩
    · omega
theorem mk_eq {M M1 : Mem} (h : FD M M1) (hA : AZ M) (hZ : HZ M) (hN : NB M) {l : Int} (h0 : 0 ≤ l) (h1 : l < M 1 2) : mkC (M1 28) (M1 30) (M1 7) (M1 23) (M1 22) l = mkW (wsC M) (wyC (M 7) (M 23) (M 22)) l := by
  unfold mkC mkW
  rw [h.cn h0 h1, h.k (k := 7) (by omega), h.k (k := 23) (by omega), h.k (k := 22) (by omega)]
  by_cases hp : 0 < (wsC M l).length
  · rw [if_pos (by omega), if_pos hp]
    have w := wy_ok hA hZ hN h0 h1 hp
    obtain ⟨w1, a1, a2, a3, a4⟩ := (h.1 l h0 h1).1.at w.1 (by rw [h.cn h0 h1]; exact w.2)
    rw [a3]
    have e : (wsC M l).getD (wyC (M 7) (M 23) (M 22) l).toNat [] = w1 := by
      rw [← h.ws l]
      unfold wsC
      rw [List.getD_eq_getElem?_getD, a1]
      rfl
    rw [e]
  · rw [if_neg (by omega), if_neg hp]
/-- what share and whole leave -/
def SD (M M' : Mem) : Prop := ∃ (M1 : Mem) (A B C : Int → Int), FD M M1 ∧ M' = m3 M1 A B C ∧ SH M'
section CJ
variable {g : Gt} {M : Mem}
theorem sX5_raise_w (d : Nat) {M1 : Mem} (e2 : FD M M1) (hZ : HZ M) (hS : SH M) (hA : AZ M) (hN : NB M) : Ex LyC g (d + 3) mX5_raise [vr 47, vr 1, vr 27, vr 21] M1 (fun q M' => q = none ∧ (∀ l, 0 ≤ l → l < M 1 2 → M' 48 l = (XW (wsC M) (wyC (M 7) (M 23) (M 22)) (M 10) (M 4) (M 1 2) (M 1 1)) l) ∧ SH M' ∧ ∃ A B C, M' = m3 M1 A B C) := by
  have hN1 := e2.nb hN
  have hA1 := e2.av hN hA
  have hW1 := e2.wb hN
  obtain ⟨hp0, hr, hl, hR, hL⟩ := id hN1
  have k1 : M1 1 = M 1 := e2.k (by omega)
  have k4 : M1 4 = M 4 := e2.k (by omega)
  have k7 : M1 7 = M 7 := e2.k (by omega)
  have k10 : M1 10 = M 10 := e2.k (by omega)
  have k22 : M1 22 = M 22 := e2.k (by omega)
  have k23 : M1 23 = M 23 := e2.k (by omega)
  have hS1 : SH M1 := by
    intro l a b
    rw [e2.k (k := 48) (by omega), e2.k (k := 49) (by omega), e2.k (k := 50) (by omega)]
    exact hS l a b
  have hy : ∀ l, 0 ≤ l → l < M1 1 2 → 0 < M1 28 l → 0 ≤ wyC (M1 7) (M1 23) (M1 22) l ∧ wyC (M1 7) (M1 23) (M1 22) l < M1 28 l := by
    intro l a b c
    rw [k1] at b
    rw [e2.cn a b] at c
    rw [k7, k23, k22, e2.cn a b]
    exact wy_ok hA hZ hN a b (by omega)
  have H : Iv (ini (M1 49) (mkC (M1 28) (M1 30) (M1 7) (M1 23) (M1 22)) (M1 1 2)) (M1 10) (M1 4) (M1 1 2) (M1 1 1) (ini (M1 48) (fun _ => 0) (M1 1 2)) (ini (M1 50) (rsC (M1 28)) (M1 1 2)) 0 :=
    Iv.init hl (fun l => by unfold rsC; split <;> omega) (fun l a b => by have := hL l a b; omega) (fun r a b => by have := hR r a b; omega)
  have hsz : ∀ l, 0 ≤ l → l < M1 1 2 → M1 10 l ≤ 100 := fun l a b => by have := hL l a b; omega
  have HI := fun k => rn_iv (s0 := ((ini (M1 48) (fun _ => 0) (M1 1 2)), (ini (M1 50) (rsC (M1 28)) (M1 1 2)))) H hsz hl.1 hr.1 k
  refine (sX5_raise d hy (fun k hk r a b c => ?_) hS1 hW1 hA1 hN1).mono (fun q M' h => ?_)
  · obtain ⟨⟨hp, I⟩, _⟩ := HI k
    have f := I.f r a b
    have h0 := I.h
    have := Int.mul_nonneg (Int.le_of_lt c) h0
    omega
  · obtain ⟨e, e'⟩ := h
    obtain ⟨⟨hp, I⟩, _⟩ := HI (M1 1 2).toNat
    refine ⟨e, fun l a b => ?_, fun l a b => ?_, _, _, _, e'⟩
    · rw [e', m3_48]
      unfold XW
      rw [k1, k10, k4]
      refine (rnC_c (fun l a b => ?_) (fun l a b => ?_) _ l a b).1
      · unfold ini
        rw [if_pos ⟨a, b⟩, k7, k22, k23]
        have := mk_eq e2 hA hZ hN a b
        rw [k7, k22, k23] at this
        exact this
      · unfold ini rsC rsW
        dsimp only
        rw [if_pos ⟨a, b⟩, if_pos ⟨a, b⟩, e2.cn a b]
        refine ⟨rfl, ?_⟩
        split <;> split <;> omega
    · rw [e', m3_48, m3_49, m3_50]
      by_cases c : l < M1 1 2
      · have ib := I.b l a c
        have iz := I.z l a c
        have := hL l a c
        refine ⟨by omega, ?_, iz⟩
        unfold ini
        rw [if_pos ⟨a, c⟩]
        unfold mkC
        split
        · rename_i hc
          have w := hy l a c hc
          exact ((hW1 l a c).2 _ w.1 w.2).2.1
        · omega
      · have o := rnC_out (mk := (ini (M1 49) (mkC (M1 28) (M1 30) (M1 7) (M1 23) (M1 22)) (M1 1 2))) (sz := M1 10) (rm := M1 4) (lc := M1 1 2) (rc := M1 1 1) (s := ((ini (M1 48) (fun _ => 0) (M1 1 2)), (ini (M1 50) (rsC (M1 28)) (M1 1 2)))) (l := l) (by omega) (M1 1 2).toNat
        rw [o.1, o.2]
        unfold ini
        dsimp only
        rw [if_neg (by omega), if_neg (by omega), if_neg (by omega)]
        exact hS1 l a b
theorem sX7_share_x (d : Nat) (l w : Int) (hlr : -2147483648 ≤ l ∧ l ≤ 2147483647) (hwr : -2147483648 ≤ w ∧ w ≤ 2147483647) (h : ¬ ((0 ≤ l ∧ l < M 1 2) ∧ 0 ≤ w ∧ w ≤ 1)) (hN : NB M) : Ex LyC g (d + 15) mX7_share [vr 0, vi l, vi w] M (PI (-1) M) := by
  refine Ex.in [some (vr 0), some (vi l), some (vi w)] (by decide +kernel) rfl (Nat.le_of_ble_eq_true rfl) ?_ rfl
  obtain ⟨hp0, hr, hl, hR, hL⟩ := id hN
  refine r_aldn iX7_share_0 rfl ?_
  refine r_getr iX7_share_1 flX7_12 rfl rfl ?_
  refine r_ldn iX7_share_4 rfl ?_
  refine call_V1i iX7_share_5 clX7_124 myX3_hasLoad rfl rfl rfl rfl (sX3_hasLoad _ _ (by omega) hN) ?_
  refine r_ifeq iX7_share_8 (by split <;> omega) (fun h8 => ?_) (fun h8 => ?_)
  · rw [ite10] at h8
    refine r_con iX7_share_20 ?_
    refine r_iret iX7_share_21 rfl ?_
    exact ⟨rfl, rfl⟩
  · rw [ne_eq, ite10n] at h8
    refine r_ldn iX7_share_11 rfl ?_
    refine r_con iX7_share_12 ?_
    refine r_con iX7_share_13 ?_
    refine call_S3i iX7_share_14 clX7_61 myX7_isWithin rfl (sX7_isWithin _ _ _ _ (by omega)) ?_
    refine r_ifne iX7_share_17 (by split <;> omega) (fun h17 => ?_) (fun h17 => ?_)
    · rw [ne_eq, ite10n] at h17
      exact absurd ⟨h8, h17⟩ h
    · rw [ite10] at h17
      refine r_con iX7_share_20 ?_
      refine r_iret iX7_share_21 rfl ?_
      exact ⟨rfl, rfl⟩
theorem sX7_share_o (d : Nat) (l w : Int) (h : (0 ≤ l ∧ l < M 1 2) ∧ 0 ≤ w ∧ w ≤ 1) (hZ : HZ M) (hS : SH M) (hA : AZ M) (hF : FO M) (hN : NB M) : Ex LyC g (d + 15) mX7_share [vr 0, vi l, vi w] M (fun q M' => q = some (vi (if w = 0 then (XW (wsC M) (wyC (M 7) (M 23) (M 22)) (M 10) (M 4) (M 1 2) (M 1 1)) l * blw ((XW (wsC M) (wyC (M 7) (M 23) (M 22)) (M 10) (M 4) (M 1 2) (M 1 1)) l) 59 / 60 else blw ((XW (wsC M) (wyC (M 7) (M 23) (M 22)) (M 10) (M 4) (M 1 2) (M 1 1)) l) 59)) ∧ SD M M') := by
  refine Ex.in [some (vr 0), some (vi l), some (vi w)] (by decide +kernel) rfl (Nat.le_of_ble_eq_true rfl) ?_ rfl
  obtain ⟨hp0, hr, hl, hR, hL⟩ := id hN
  refine r_aldn iX7_share_0 rfl ?_
  refine r_getr iX7_share_1 flX7_12 rfl rfl ?_
  refine r_ldn iX7_share_4 rfl ?_
  refine call_V1i iX7_share_5 clX7_124 myX3_hasLoad rfl rfl rfl rfl (sX3_hasLoad _ _ (by omega) hN) ?_
  refine r_ifeq iX7_share_8 (by split <;> omega) (fun h8 => ?_) (fun h8 => ?_)
  · rw [ite10] at h8
    exfalso; omega
  · rw [ne_eq, ite10n] at h8
    refine r_ldn iX7_share_11 rfl ?_
    refine r_con iX7_share_12 ?_
    refine r_con iX7_share_13 ?_
    refine call_S3i iX7_share_14 clX7_61 myX7_isWithin rfl (sX7_isWithin _ _ _ _ (by omega)) ?_
    refine r_ifne iX7_share_17 (by split <;> omega) (fun h17 => ?_) (fun h17 => ?_)
    · rw [ne_eq, ite10n] at h17
      refine r_aldn iX7_share_22 rfl ?_
      refine r_getr iX7_share_23 flX7_53 rfl rfl ?_
      refine r_aldn iX7_share_26 rfl ?_
      refine r_getr iX7_share_27 flX7_12 rfl rfl ?_
      refine r_aldn iX7_share_30 rfl ?_
      refine call_V0p iX7_share_31 clX7_103 myX7_foundWays rfl rfl rfl rfl (sX7_foundWays _ hF hN) (fun r31 M31 h31 => ?_)
      obtain ⟨e1, e2⟩ := h31
      subst e1
      have hN1 := e2.nb hN
      refine r_aldn iX7_share_34 rfl ?_
      refine r_getr iX7_share_35 flX7_22 rfl rfl ?_
      refine call_V3p iX7_share_38 clX7_263 myX5_raise rfl rfl rfl rfl (sX5_raise_w _ e2 hZ hS hA hN) (fun r38 M38 h38 => ?_)
      obtain ⟨c1, c2, c3, A, B, C, c4⟩ := h38
      subst c1
      refine r_ldn iX7_share_41 rfl ?_
      refine r_ifne iX7_share_42 (by omega) (fun h42 => ?_) (fun h42 => ?_)
      · refine r_aldn iX7_share_56 rfl ?_
        refine r_getr iX7_share_57 flX7_53 rfl rfl ?_
        refine r_ldn iX7_share_60 rfl ?_
        refine call_V1i iX7_share_61 clX7_270 myX5_below rfl rfl rfl rfl (sX5_below _ _ (by omega) (c3 l (by omega) (by omega)).1) ?_
        refine r_iret iX7_share_64 rfl ?_
        rw [c2 l h.1.1 h.1.2]
        exact ⟨by rw [if_neg h42], _, A, B, C, e2, c4, c3⟩
      · refine r_aldn iX7_share_45 rfl ?_
        refine r_getr iX7_share_46 flX7_53 rfl rfl ?_
        refine r_ldn iX7_share_49 rfl ?_
        refine call_V1i iX7_share_50 clX7_267 myX5_above rfl rfl rfl rfl (sX5_above _ _ (by omega) (c3 l (by omega) (by omega)).1) ?_
        refine r_goto iX7_share_53 ?_
        refine r_iret iX7_share_64 rfl ?_
        rw [c2 l h.1.1 h.1.2]
        exact ⟨by rw [if_pos h42], _, A, B, C, e2, c4, c3⟩
    · rw [ite10] at h17
      exfalso; omega
theorem sX7_whole (d : Nat) (hZ : HZ M) (hS : SH M) (hA : AZ M) (hF : FO M) (hN : NB M) : Ex LyC g (d + 15) mX7_whole [vr 0] M (fun q M' => q = some (vi (sg (fun l => if (XW (wsC M) (wyC (M 7) (M 23) (M 22)) (M 10) (M 4) (M 1 2) (M 1 1)) l = M 10 l * 60 then 1 else 0) (M 1 2))) ∧ SD M M') := by
  refine Ex.in [some (vr 0)] (by decide +kernel) rfl (Nat.le_of_ble_eq_true rfl) ?_ rfl
  obtain ⟨hp0, hr, hl, hR, hL⟩ := id hN
  refine r_aldn iX7_whole_0 rfl ?_
  refine r_getr iX7_whole_1 flX7_53 rfl rfl ?_
  refine r_aldn iX7_whole_4 rfl ?_
  refine r_getr iX7_whole_5 flX7_12 rfl rfl ?_
  refine r_aldn iX7_whole_8 rfl ?_
  refine call_V0p iX7_whole_9 clX7_103 myX7_foundWays rfl rfl rfl rfl (sX7_foundWays _ hF hN) (fun r9 M9 h9 => ?_)
  obtain ⟨e1, e2⟩ := h9
  subst e1
  have hN1 := e2.nb hN
  refine r_aldn iX7_whole_12 rfl ?_
  refine r_getr iX7_whole_13 flX7_22 rfl rfl ?_
  refine call_V3p iX7_whole_16 clX7_263 myX5_raise rfl rfl rfl rfl (sX5_raise_w _ e2 hZ hS hA hN) (fun r16 M16 h16 => ?_)
  obtain ⟨c1, c2, c3, A, B, C, c4⟩ := h16
  subst c1
  refine r_aldn iX7_whole_19 rfl ?_
  refine r_getr iX7_whole_20 flX7_53 rfl rfl ?_
  refine r_aldn iX7_whole_23 rfl ?_
  refine r_getr iX7_whole_24 flX7_12 rfl rfl ?_
  refine call_V1i iX7_whole_27 clX7_273 myX5_countWhole rfl rfl rfl rfl (sX5_countWhole _ c3 (by rw [c4]; exact hN1)) ?_
  refine r_iret iX7_whole_30 rfl ?_
  refine ⟨?_, _, A, B, C, e2, c4, c3⟩
  have k1 : M16 1 = M 1 := by rw [c4]; exact e2.k (by omega)
  have k10 : M16 10 = M 10 := by rw [c4]; exact e2.k (by omega)
  rw [k1, k10, sg_congr (fun l a b => by rw [c2 l a b])]
end CJ
