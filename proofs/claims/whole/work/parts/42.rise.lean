/-! the reference: one round of rising -/
theorem mic60 {ri sz : Int → Int} {n : Nat} {l0 : Int} (h0 : 0 ≤ l0) (h1 : l0 < n) (h2 : ri l0 ≠ 0) (hs : ∀ l : Int, 0 ≤ l → l < n → sz l ≤ 100) : mic ri (fun l => sz l * 60) 6000 n = mic ri sz 1000000 n * 60 := by
  have a1 := mic_lb (f := sz) (c := 1000000) l0 h0 h1 h2
  have a2 := hs l0 h0 h1
  rcases mic_at (p := ri) (f := sz) (c := 1000000) n with e | ⟨l, b0, b1, b2, b3⟩
  · omega
  · have c1 := mic_lb (f := fun l => sz l * 60) (c := 6000) l b0 b1 b2
    replace c1 : mic ri (fun l => sz l * 60) 6000 n ≤ sz l * 60 := c1
    rcases mic_at (p := ri) (f := fun l => sz l * 60) (c := 6000) n with e | ⟨j, d0, d1, d2, d3⟩
    · have := hs l b0 b1; omega
    · have c2 := mic_lb (f := sz) (c := 1000000) j d0 d1 d2
      replace d3 : mic ri (fun l => sz l * 60) 6000 n = sz j * 60 := d3
      omega
theorem cmp_fr {t y c w q T L hc : Int} (h1 : t * 60 = y * w) (h2 : y = c * q) (h3 : T * 60 = hc * L) (hw : 0 < w) (h0 : 0 < c) (hL : 0 < L) : (t * L < T * (w * c) ↔ q < hc) ∧ (t * L = T * (w * c) ↔ q = hc) := by
  have k : 0 < c * (w * L) := Int.mul_pos h0 (Int.mul_pos hw hL)
  have e1 : t * L * 60 = q * (c * (w * L)) := by
    calc t * L * 60 = (t * 60) * L := by rw [Int.mul_assoc, Int.mul_comm L, ← Int.mul_assoc]
      _ = (c * q) * w * L := by rw [h1, h2]
      _ = q * (c * (w * L)) := by rw [Int.mul_comm c q, Int.mul_assoc, Int.mul_assoc]
  have e2 : T * (w * c) * 60 = hc * (c * (w * L)) := by
    calc T * (w * c) * 60 = (T * 60) * (w * c) := by rw [Int.mul_assoc, Int.mul_comm (w * c), ← Int.mul_assoc]
      _ = hc * L * (w * c) := by rw [h3]
      _ = hc * (c * (w * L)) := by rw [Int.mul_assoc, Int.mul_comm w c, Int.mul_comm L, Int.mul_assoc]
  refine ⟨⟨fun h => ?_, fun h => ?_⟩, ⟨fun h => ?_, fun h => ?_⟩⟩
  · by_cases g : q < hc
    · exact g
    · have := Int.mul_le_mul_of_nonneg_right (show hc ≤ q by omega) (Int.le_of_lt k)
      omega
  · have := Int.mul_lt_mul_of_pos_right h k
    omega
  · refine Int.eq_of_mul_eq_mul_right (show c * (w * L) ≠ 0 by omega) ?_
    omega
  · rw [h] at e1; omega
theorem eq_fr {s h : Int} : s * lw h = tp h ↔ s * 60 = h := by
  have a := tp_lw h
  have b := lw_bd h
  refine ⟨fun e => ?_, fun e => ?_⟩
  · refine Int.eq_of_mul_eq_mul_right (show lw h ≠ 0 by omega) ?_
    rw [Int.mul_assoc, Int.mul_comm 60, ← Int.mul_assoc, e, a]
  · refine Int.eq_of_mul_eq_mul_right (show (60 : Int) ≠ 0 by decide) ?_
    rw [a, Int.mul_assoc, Int.mul_comm (lw h), ← Int.mul_assoc, e]
/-- with other numbers top, low, and other rows of shares -/
def m27 (M : Mem) (a b : Int) (R T L : Int → Int) : Mem := fun k => if k = 24 then R else if k = 26 then T else if k = 27 then L else m0 M a b k
theorem m27_i (M : Mem) (a b : Int) : m27 M a b (M 24) (M 26) (M 27) = m0 M a b := by
  funext k
  simp only [m27]
  by_cases h : k = 24
  · rw [if_pos h, h]; rfl
  · rw [if_neg h]
    by_cases h2 : k = 26
    · rw [if_pos h2, h2]; rfl
    · rw [if_neg h2]
      by_cases h3 : k = 27
      · rw [if_pos h3, h3]; rfl
      · rw [if_neg h3]
theorem m27_24 (M : Mem) (a b : Int) (R T L X : Int → Int) : mset (m27 M a b R T L) 24 X = m27 M a b X T L := by
  funext k
  simp only [mset, m27]
  by_cases h : k = 24
  · rw [if_pos h, if_pos h]
  · rw [if_neg h, if_neg h, if_neg h]
theorem m27_26 (M : Mem) (a b : Int) (R T L X : Int → Int) : mset (m27 M a b R T L) 26 X = m27 M a b R X L := by
  funext k
  simp only [mset, m27]
  by_cases h : k = 26
  · rw [if_pos h, if_pos h, if_neg (by omega)]
  · rw [if_neg h, if_neg h, if_neg h]
theorem m27_27 (M : Mem) (a b : Int) (R T L X : Int → Int) : mset (m27 M a b R T L) 27 X = m27 M a b R T X := by
  funext k
  simp only [mset, m27]
  by_cases h : k = 27
  · rw [if_pos h, if_pos h, if_neg (by omega), if_neg (by omega)]
  · rw [if_neg h, if_neg h, if_neg h]
theorem m27_a (M : Mem) (a b : Int) (R T L : Int → Int) : m27 M a b R T L 24 = R := rfl
theorem m27_b (M : Mem) (a b : Int) (R T L : Int → Int) : m27 M a b R T L 26 = T := rfl
theorem m27_c (M : Mem) (a b : Int) (R T L : Int → Int) : m27 M a b R T L 27 = L := rfl
theorem m27_6 (M : Mem) (a b : Int) (R T L : Int → Int) : m27 M a b R T L 0 6 = M 0 6 := rfl
theorem m27_1 (M : Mem) (a b : Int) (R T L : Int → Int) : m27 M a b R T L 0 1 = M 0 1 := rfl
theorem m27_8 (M : Mem) (a b : Int) (R T L : Int → Int) : m27 M a b R T L 8 = M 8 := rfl
theorem m0_self (M : Mem) : m0 M (M 0 31) (M 0 32) = M := by
  unfold m0
  refine mset_eq ?_
  funext j
  simp only [fset]
  by_cases h : j = 32
  · rw [if_pos h, h]
  · rw [if_neg h]
    by_cases h2 : j = 31
    · rw [if_pos h2, h2]
    · rw [if_neg h2]
theorem or_z (m : Int) (h : 0 ≤ m) : ((m.toNat ||| (0 : Int).toNat : Nat) : Int) = m := by
  show ((m.toNat ||| 0 : Nat) : Int) = m
  rw [Nat.or_zero]; omega
theorem sh_rng {s l : Int} (h : 0 ≤ s ∧ s < 32) : 0 ≤ s / 2 ^ l.toNat ∧ s / 2 ^ l.toNat ≤ 2147483647 := by
  have a := Int.ediv_nonneg h.1 (show (0 : Int) ≤ 2 ^ l.toNat from Int.le_of_lt (Int.pow_pos (by decide)))
  have b := Int.ediv_le_self (2 ^ l.toNat) h.1
  omega
theorem ri_pos {ri mk : Int → Int} {n r j : Int} (hz : ∀ l, 0 ≤ l → l < n → ri l = 0 ∨ ri l = 1) (h0 : 0 ≤ j) (h1 : j < n) (h2 : ri j = 1) (h3 : bt (mk j) r ≠ 0) : 0 < riC ri mk n r := by
  have a := sg_lt (f := fun _ => 0) (a := fun l => if ri l = 0 then 0 else if bt (mk l) r = 0 then 0 else 1) (n := n) (i := j) (fun i c0 c1 => by split <;> (try split) <;> omega) h0 h1 (by show (0 : Int) < if ri j = 0 then 0 else if bt (mk j) r = 0 then 0 else 1; rw [if_neg (by omega), if_neg h3]; omega)
  have b := sg_bd (f := fun _ => (0 : Int)) (lo := 0) (hi := 0) (show 0 ≤ n by omega) (fun _ _ _ => by omega)
  unfold riC
  omega
theorem or_5 {s j : Int} (h : 0 ≤ s ∧ s < 32) (hj : 0 ≤ j ∧ j < 5) : 0 ≤ ((s.toNat ||| (2 ^ j.toNat : Int).toNat : Nat) : Int) ∧ ((s.toNat ||| (2 ^ j.toNat : Int).toNat : Nat) : Int) < 32 := or_lt (n := 5) h hj
theorem pw_nn (j : Int) : (0 : Int) ≤ 2 ^ j.toNat := Int.le_of_lt (Int.pow_pos (by decide))
theorem bt_0 (j : Int) : bt 0 j = 0 := by unfold bt; rw [Int.zero_ediv]; rfl
theorem stC_at {x mk sz rm : Int → Int} {lc rc : Int} {ri : Int → Int} {l : Int} (q : ¬ (0 ≤ l ∧ l < lc)) : stC x mk sz rm lc rc ri l = ri l := by
  unfold stC
  rw [upto_at q]
  have key : ∀ n : Nat, stR x mk rm lc ri n l = ri l := by
    intro n
    induction n with
    | zero => rfl
    | succ n ih =>
      simp only [stR]
      split
      · rw [upto_at q]; exact ih
      · exact ih
  exact key _
section RN
variable {g : Gt} {M : Mem} {x mk : Int → Int}
theorem sX8_leaves_m (d : Nat) (r a b : Int) (hr0 : 0 ≤ r ∧ r < M 0 1) (S : SR M x mk) (hf : soC x (M 24) mk (M 0 6) r ≤ M 2 r * 60) (hW : WBm M) (hN : NBm M) : Ex LyM g (d + 1) mX8_leaves [vr 0, vi r] (m0 M a b) (PI (if 0 < riC (M 24) mk (M 0 6) r then 1 else 0) (m0 M (tp (M 2 r * 60 - soC x (M 24) mk (M 0 6) r)) (lw (M 2 r * 60 - soC x (M 24) mk (M 0 6) r) * riC (M 24) mk (M 0 6) r))) := by
  have h := sX8_leaves (g := g) (M := m0 M a b) (x := x) (mk := mk) d r hr0 S hf hW hN
  rw [m0_m0] at h
  exact h
theorem sX8_rise (d : Nat) (hp l0 : Int) (S : SR M x mk) (Hv : Iv mk (M 8) (M 2) (M 0 6) (M 0 1) x (M 24) hp) (a0 : 0 ≤ l0) (a1 : l0 < M 0 6) (a2 : M 24 l0 = 1) (hW : WBm M) (hN : NBm M) : Ex LyM g (d + 2) mX8_rise [vr 0] M (fun r M' => r = some (vi (sg (stC (upto (M 24) x (fun _ => nhC x (M 24) mk (M 8) (M 2) (M 0 6) (M 0 1)) (M 0 6)) mk (M 8) (M 2) (M 0 6) (M 0 1) (M 24)) (M 0 6))) ∧ ∃ a b G K, M' = m27 M a b (stC (upto (M 24) x (fun _ => nhC x (M 24) mk (M 8) (M 2) (M 0 6) (M 0 1)) (M 0 6)) mk (M 8) (M 2) (M 0 6) (M 0 1) (M 24)) G K ∧ (∀ l, 0 ≤ l → l < M 0 6 → G l = tp ((upto (M 24) x (fun _ => nhC x (M 24) mk (M 8) (M 2) (M 0 6) (M 0 1)) (M 0 6)) l) ∧ K l = lw ((upto (M 24) x (fun _ => nhC x (M 24) mk (M 8) (M 2) (M 0 6) (M 0 1)) (M 0 6)) l))) := by
  refine Ex.in [some (vr 0), none, none, none, none, none, none, none, none, none, none] (by decide +kernel) rfl (Nat.le_of_ble_eq_true rfl) ?_ rfl
  obtain ⟨hp0, hr, hl, hR, hL⟩ := id hN
  have hsz : ∀ l, 0 ≤ l → l < M 0 6 → M 8 l ≤ 100 := fun l z0 z1 => (hL l z0 z1).2.2.2.2.2
  obtain ⟨n1, n2, n3, n4⟩ := Hv.nh hsz hl.1 a0 a1 a2
  have hal : ∀ r, alC (upto (M 24) x (fun _ => nhC x (M 24) mk (M 8) (M 2) (M 0 6) (M 0 1)) (M 0 6)) mk (M 0 6) r = soC x (M 24) mk (M 0 6) r + riC (M 24) mk (M 0 6) r * nhC x (M 24) mk (M 8) (M 2) (M 0 6) (M 0 1) := fun r => by
    rw [al_eq Hv.z up_p r, so_up]
  have hx1 : ∀ l, 0 ≤ l → l < M 0 6 → (M 24 l = 0 ∧ (upto (M 24) x (fun _ => nhC x (M 24) mk (M 8) (M 2) (M 0 6) (M 0 1)) (M 0 6)) l = x l) ∨ (M 24 l = 1 ∧ (upto (M 24) x (fun _ => nhC x (M 24) mk (M 8) (M 2) (M 0 6) (M 0 1)) (M 0 6)) l = nhC x (M 24) mk (M 8) (M 2) (M 0 6) (M 0 1)) := fun l b0 b1 => by
    simp only [upto]
    rcases Hv.z l b0 b1 with q | q
    · left; exact ⟨q, if_neg (fun y => y.2.2 q)⟩
    · right; exact ⟨q, if_pos ⟨b0, b1, by omega⟩⟩
  have hst : ∀ l, 0 ≤ l → l < M 0 6 → _ := fun l b0 b1 => stC_c (sh := (upto (M 24) x (fun _ => nhC x (M 24) mk (M 8) (M 2) (M 0 6) (M 0 1)) (M 0 6))) (mk := mk) (sz := M 8) (rm := M 2) (ri := M 24) hr.1 b0 b1
  have hfe : ∀ r, 0 ≤ r → r < M 0 1 → soC x (M 24) mk (M 0 6) r ≤ M 2 r * 60 := fun r b0 b1 => by
    have c1 := Hv.f r b0 b1
    have c2 := Int.mul_nonneg (riC_nn (ri := M 24) (mk := mk) (r := r) hl.1) Hv.h
    omega
  have hb6 : 0 ≤ nhC x (M 24) mk (M 8) (M 2) (M 0 6) (M 0 1) ∧ nhC x (M 24) mk (M 8) (M 2) (M 0 6) (M 0 1) ≤ 6000 := by
    have c1 := n2 l0 a0 a1 a2
    have c2 := hsz l0 a0 a1
    have c3 := Hv.h
    omega
  have hrr : ∀ r, 0 ≤ riC (M 24) mk (M 0 6) r ∧ riC (M 24) mk (M 0 6) r ≤ 5 := fun r => by
    have c1 := ri_up (ri := M 24) (mk := mk) (r := r) hl.1
    have c2 := riC_nn (ri := M 24) (mk := mk) (r := r) hl.1
    omega
  have hyb : ∀ r, 0 ≤ r → r < M 0 1 → 0 ≤ (M 2 r * 60 - soC x (M 24) mk (M 0 6) r) ∧ (M 2 r * 60 - soC x (M 24) mk (M 0 6) r) ≤ 6000 := fun r b0 b1 => by
    have c1 := hfe r b0 b1
    have c2 := hR r b0 b1
    have c3 := (so_mono (x := x) (ri := M 24) (mk := mk) (r := r) (n := M 0 6) (i := M 0 6) hl.1 (by omega) (fun j j0 j1 => (S.b j j0 j1).1)).2
    omega
  have hoo : ∀ l, 0 ≤ l → l < M 0 6 → ∀ r, 0 ≤ r → r < M 0 1 → M 24 l = 1 → (hsM (M 12) (M 13) (8 * l + M 25 l) r ≠ 0 ↔ bt (mk l) r ≠ 0) := fun l b0 b1 r c0 c1 c2 => by
    have e1 := S.o l b0 b1 r c0 c1
    have e2 := S.r l b0 b1 c2
    exact ⟨fun q => e1.mp ⟨e2, q⟩, fun q => (e1.mpr q).2⟩
  have hdv : ∀ r, 0 < riC (M 24) mk (M 0 6) r → (M 2 r * 60 - soC x (M 24) mk (M 0 6) r) = riC (M 24) mk (M 0 6) r * ((M 2 r * 60 - soC x (M 24) mk (M 0 6) r) / riC (M 24) mk (M 0 6) r) := fun r h => (Int.mul_ediv_cancel' (Hv.ex h)).symm
  have LF : ∀ (s : Int), (0 ≤ s ∧ s < 32) → (∀ j, 0 ≤ j → j < M 0 6 → (bt s j ≠ 0 ↔ (M 24 j = 1 ∧ (M 8 j * 60 = nhC x (M 24) mk (M 8) (M 2) (M 0 6) (M 0 1) ∨ ∃ q, 0 ≤ q ∧ q < M 0 1 ∧ alC (upto (M 24) x (fun _ => nhC x (M 24) mk (M 8) (M 2) (M 0 6) (M 0 1)) (M 0 6)) mk (M 0 6) q = M 2 q * 60 ∧ bt (mk j) q ≠ 0)))) → ∀ (n9 : Nat) (l o a b : Int) (F G K : Int → Int) (c : Int) (w10 : Option MV), (0 ≤ l) → (l ≤ M 0 6) → (o = sg (stC (upto (M 24) x (fun _ => nhC x (M 24) mk (M 8) (M 2) (M 0 6) (M 0 1)) (M 0 6)) mk (M 8) (M 2) (M 0 6) (M 0 1) (M 24)) l) → (∀ j, 0 ≤ j → j < l → F j = (stC (upto (M 24) x (fun _ => nhC x (M 24) mk (M 8) (M 2) (M 0 6) (M 0 1)) (M 0 6)) mk (M 8) (M 2) (M 0 6) (M 0 1) (M 24)) j ∧ G j = tp ((upto (M 24) x (fun _ => nhC x (M 24) mk (M 8) (M 2) (M 0 6) (M 0 1)) (M 0 6)) j) ∧ K j = lw ((upto (M 24) x (fun _ => nhC x (M 24) mk (M 8) (M 2) (M 0 6) (M 0 1)) (M 0 6)) j)) → (∀ j, j < 0 ∨ l ≤ j → F j = M 24 j ∧ G j = M 26 j ∧ K j = M 27 j) → M 0 6 - l < n9 → R LyM g mX8_rise (d + 2) 309 [some (vr 0), some (vl (tp (nhC x (M 24) mk (M 8) (M 2) (M 0 6) (M 0 1)))), none, some (vl (lw (nhC x (M 24) mk (M 8) (M 2) (M 0 6) (M 0 1)))), none, some (vl c), none, some (vi s), some (vi o), some (vi l), w10] [] (m27 M a b F G K) (fun r M' => r = some (vi (sg (stC (upto (M 24) x (fun _ => nhC x (M 24) mk (M 8) (M 2) (M 0 6) (M 0 1)) (M 0 6)) mk (M 8) (M 2) (M 0 6) (M 0 1) (M 24)) (M 0 6))) ∧ ∃ a b G K, M' = m27 M a b (stC (upto (M 24) x (fun _ => nhC x (M 24) mk (M 8) (M 2) (M 0 6) (M 0 1)) (M 0 6)) mk (M 8) (M 2) (M 0 6) (M 0 1) (M 24)) G K ∧ (∀ l, 0 ≤ l → l < M 0 6 → G l = tp ((upto (M 24) x (fun _ => nhC x (M 24) mk (M 8) (M 2) (M 0 6) (M 0 1)) (M 0 6)) l) ∧ K l = lw ((upto (M 24) x (fun _ => nhC x (M 24) mk (M 8) (M 2) (M 0 6) (M 0 1)) (M 0 6)) l))) := by
    intro s hs hb n9
    induction n9 with
    | zero =>
      intro l o a b F G K c w10 h0 h1 ho hf hg hm9
      omega
    | succ n9 ih =>
      intro l o a b F G K c w10 h0 h1 ho hf hg hm9
      refine r_ld iX8_rise_309 rfl ?_
      refine r_aldn iX8_rise_311 rfl ?_
      refine r_geti 6 iX8_rise_312 flX8_100 rfl rfl rfl rfl ?_
      try simp only [m27_a, m27_b, m27_c, m27_6, m27_1, m27_8, m27_24, m27_26, m27_27, fset_s]
      refine r_cge iX8_rise_315 (by omega) (fun h315 => ?_) (fun h315 => ?_)
      · refine r_ld iX8_rise_392 rfl ?_
        refine r_iret iX8_rise_394 rfl ?_
        have el : l = M 0 6 := by omega
        rw [el] at ho hf
        rw [el] at hg
        have eF : F = (stC (upto (M 24) x (fun _ => nhC x (M 24) mk (M 8) (M 2) (M 0 6) (M 0 1)) (M 0 6)) mk (M 8) (M 2) (M 0 6) (M 0 1) (M 24)) := by
          funext j
          by_cases q : 0 ≤ j ∧ j < M 0 6
          · exact (hf j q.1 q.2).1
          · rw [(hg j (by omega)).1, stC_at q]
        rw [eF]
        exact ⟨by rw [ho], a, b, G, K, rfl, fun j j0 j1 => (hf j j0 j1).2⟩
      · have hl6 : l < M 0 6 := h315
        have hgl := (hg l (by omega)).1
        have hzl := S.z l h0 hl6
        have hbl := hb l h0 hl6
        refine r_aldn iX8_rise_318 rfl ?_
        refine r_getr iX8_rise_319 flX8_83 rfl rfl ?_
        refine r_ld iX8_rise_322 rfl ?_
        refine r_zal iX8_rise_324 rfl (by omega) ?_
        try simp only [m27_a, m27_b, m27_c, m27_6, m27_1, m27_8, m27_24, m27_26, m27_27, fset_s]
        rw [hgl]
        refine r_ifeq iX8_rise_325 (by omega) (fun h325 => ?_) (fun h325 => ?_)
        · refine r_inc iX8_rise_386 rfl (by decide) rfl ?_
          refine r_goto iX8_rise_389 ?_
          try simp only [m27_a, m27_b, m27_c, m27_6, m27_1, m27_8, m27_24, m27_26, m27_27, fset_s]
          have q1 : (stC (upto (M 24) x (fun _ => nhC x (M 24) mk (M 8) (M 2) (M 0 6) (M 0 1)) (M 0 6)) mk (M 8) (M 2) (M 0 6) (M 0 1) (M 24)) l = 0 := by rcases hst l h0 hl6 with q | q <;> omega
          have e9 : (upto (M 24) x (fun _ => nhC x (M 24) mk (M 8) (M 2) (M 0 6) (M 0 1)) (M 0 6)) l = x l := by have := hx1 l h0 hl6; omega
          have g9 := hg l (by omega)
          refine ih (l + 1) _ a b F G K c _ (by omega) (by omega) (by rw [sg_1 h0, q1, Int.add_zero]; exact ho) (fun j j0 j1 => ?_) (fun j j0 => hg j (by omega)) (by omega)
          by_cases e : j = l
          · subst e
            rw [q1, e9, g9.1, g9.2.1, g9.2.2]
            exact ⟨by omega, S.t j j0 hl6, S.w j j0 hl6⟩
          · exact hf j j0 (by omega)
        · have h24 : M 24 l = 1 := by omega
          have hxl : (upto (M 24) x (fun _ => nhC x (M 24) mk (M 8) (M 2) (M 0 6) (M 0 1)) (M 0 6)) l = nhC x (M 24) mk (M 8) (M 2) (M 0 6) (M 0 1) := by have := hx1 l h0 hl6; omega
          refine r_aldn iX8_rise_328 rfl ?_
          refine r_getr iX8_rise_329 flX8_90 rfl rfl ?_
          refine r_ld iX8_rise_332 rfl ?_
          refine r_lldn iX8_rise_334 rfl ?_
          refine r_las iX8_rise_335 rfl (by omega) ?_
          try simp only [m27_a, m27_b, m27_c, m27_6, m27_1, m27_8, m27_24, m27_26, m27_27, fset_s]
          refine r_aldn iX8_rise_336 rfl ?_
          refine r_getr iX8_rise_337 flX8_94 rfl rfl ?_
          refine r_ld iX8_rise_340 rfl ?_
          refine r_lldn iX8_rise_342 rfl ?_
          refine r_las iX8_rise_343 rfl (by omega) ?_
          try simp only [m27_a, m27_b, m27_c, m27_6, m27_1, m27_8, m27_24, m27_26, m27_27, fset_s]
          refine r_aldn iX8_rise_344 rfl ?_
          refine r_getr iX8_rise_345 flX8_83 rfl rfl ?_
          refine r_ld iX8_rise_348 rfl ?_
          refine r_ld iX8_rise_350 rfl ?_
          refine r_ld iX8_rise_352 rfl ?_
          refine r_shr iX8_rise_354 (by omega) (by omega) ?_
          refine r_con iX8_rise_355 ?_
          refine r_and1 iX8_rise_356 (sh_rng hs) ?_
          show R _ _ _ _ _ _ (vi (bt s l) :: _) _ _
          have hbr := bt_rng s l
          refine r_ifne iX8_rise_357 (by omega) (fun h357 => ?_) (fun h357 => ?_)
          · refine r_con iX8_rise_364 ?_
            try simp only [m27_a, m27_b, m27_c, m27_6, m27_1, m27_8, m27_24, m27_26, m27_27, fset_s]
            refine r_zas iX8_rise_365 rfl (by omega) (by omega) ?_
            try simp only [m27_a, m27_b, m27_c, m27_6, m27_1, m27_8, m27_24, m27_26, m27_27, fset_s]
            refine r_ld iX8_rise_366 rfl ?_
            refine r_aldn iX8_rise_368 rfl ?_
            refine r_getr iX8_rise_369 flX8_83 rfl rfl ?_
            refine r_ld iX8_rise_372 rfl ?_
            refine r_zal iX8_rise_374 rfl (by omega) ?_
            try simp only [m27_a, m27_b, m27_c, m27_6, m27_1, m27_8, m27_24, m27_26, m27_27, fset_s]
            refine r_ifeq iX8_rise_375 (by omega) (fun h375 => ?_) (fun h375 => ?_)
            · refine r_con iX8_rise_382 ?_
              refine r_add iX8_rise_383 ?_
              refine r_st iX8_rise_384 (by decide) rfl ?_
              refine r_inc iX8_rise_386 rfl (by decide) rfl ?_
              refine r_goto iX8_rise_389 ?_
              try simp only [m27_a, m27_b, m27_c, m27_6, m27_1, m27_8, m27_24, m27_26, m27_27, fset_s]
              have q1 : (stC (upto (M 24) x (fun _ => nhC x (M 24) mk (M 8) (M 2) (M 0 6) (M 0 1)) (M 0 6)) mk (M 8) (M 2) (M 0 6) (M 0 1) (M 24)) l = 0 := by
                have hb1 : (M 24 l = 1 ∧ (M 8 l * 60 = nhC x (M 24) mk (M 8) (M 2) (M 0 6) (M 0 1) ∨ ∃ q, 0 ≤ q ∧ q < M 0 1 ∧ alC (upto (M 24) x (fun _ => nhC x (M 24) mk (M 8) (M 2) (M 0 6) (M 0 1)) (M 0 6)) mk (M 0 6) q = M 2 q * 60 ∧ bt (mk l) q ≠ 0)) := hbl.mp (by omega)
                rcases hst l h0 hl6 with ⟨q2, q3⟩ | ⟨q2, q3, q4⟩
                · exact q2
                · rcases hb1.2 with q5 | ⟨q, q6, q7, q8, q9⟩
                  · exact absurd (by omega) q3
                  · exact absurd (q4 q q6 q7 q8) q9
              refine ih (l + 1) _ a b _ _ _ c _ (by omega) (by omega) (by rw [sg_1 h0, q1, ho]) (fun j j0 j1 => ?_) (fun j j0 => by rw [fset_n (by omega), fset_n (by omega), fset_n (by omega)]; exact hg j (by omega)) (by omega)
              by_cases e : j = l
              · subst e
                rw [fset_s, fset_s, fset_s, q1, hxl]
                exact ⟨rfl, rfl, rfl⟩
              · rw [fset_n e, fset_n e, fset_n e]; exact hf j j0 (by omega)
            · refine r_con iX8_rise_378 ?_
              refine r_goto iX8_rise_379 ?_
              refine r_add iX8_rise_383 ?_
              refine r_st iX8_rise_384 (by decide) rfl ?_
              refine r_inc iX8_rise_386 rfl (by decide) rfl ?_
              refine r_goto iX8_rise_389 ?_
              try simp only [m27_a, m27_b, m27_c, m27_6, m27_1, m27_8, m27_24, m27_26, m27_27, fset_s]
              exfalso; omega
          · refine r_con iX8_rise_360 ?_
            refine r_goto iX8_rise_361 ?_
            try simp only [m27_a, m27_b, m27_c, m27_6, m27_1, m27_8, m27_24, m27_26, m27_27, fset_s]
            refine r_zas iX8_rise_365 rfl (by omega) (by omega) ?_
            try simp only [m27_a, m27_b, m27_c, m27_6, m27_1, m27_8, m27_24, m27_26, m27_27, fset_s]
            refine r_ld iX8_rise_366 rfl ?_
            refine r_aldn iX8_rise_368 rfl ?_
            refine r_getr iX8_rise_369 flX8_83 rfl rfl ?_
            refine r_ld iX8_rise_372 rfl ?_
            refine r_zal iX8_rise_374 rfl (by omega) ?_
            try simp only [m27_a, m27_b, m27_c, m27_6, m27_1, m27_8, m27_24, m27_26, m27_27, fset_s]
            refine r_ifeq iX8_rise_375 (by omega) (fun h375 => ?_) (fun h375 => ?_)
            · refine r_con iX8_rise_382 ?_
              refine r_add iX8_rise_383 ?_
              refine r_st iX8_rise_384 (by decide) rfl ?_
              refine r_inc iX8_rise_386 rfl (by decide) rfl ?_
              refine r_goto iX8_rise_389 ?_
              try simp only [m27_a, m27_b, m27_c, m27_6, m27_1, m27_8, m27_24, m27_26, m27_27, fset_s]
              exfalso; omega
            · refine r_con iX8_rise_378 ?_
              refine r_goto iX8_rise_379 ?_
              refine r_add iX8_rise_383 ?_
              refine r_st iX8_rise_384 (by decide) rfl ?_
              refine r_inc iX8_rise_386 rfl (by decide) rfl ?_
              refine r_goto iX8_rise_389 ?_
              try simp only [m27_a, m27_b, m27_c, m27_6, m27_1, m27_8, m27_24, m27_26, m27_27, fset_s]
              have q1 : (stC (upto (M 24) x (fun _ => nhC x (M 24) mk (M 8) (M 2) (M 0 6) (M 0 1)) (M 0 6)) mk (M 8) (M 2) (M 0 6) (M 0 1) (M 24)) l = 1 := by
                have hb0 : ¬ (M 24 l = 1 ∧ (M 8 l * 60 = nhC x (M 24) mk (M 8) (M 2) (M 0 6) (M 0 1) ∨ ∃ q, 0 ≤ q ∧ q < M 0 1 ∧ alC (upto (M 24) x (fun _ => nhC x (M 24) mk (M 8) (M 2) (M 0 6) (M 0 1)) (M 0 6)) mk (M 0 6) q = M 2 q * 60 ∧ bt (mk l) q ≠ 0)) := fun q => by have := hbl.mpr q; omega
                rcases hst l h0 hl6 with ⟨q2, q3⟩ | ⟨q2, q3, q4⟩
                · exact absurd ⟨h24, by rcases q3 with q5 | q5; left; omega; right; exact q5⟩ hb0
                · omega
              refine ih (l + 1) _ a b _ _ _ c _ (by omega) (by omega) (by rw [sg_1 h0, q1, ho]) (fun j j0 j1 => ?_) (fun j j0 => by rw [fset_n (by omega), fset_n (by omega), fset_n (by omega)]; exact hg j (by omega)) (by omega)
              by_cases e : j = l
              · subst e
                rw [fset_s, fset_s, fset_s, q1, hxl]
                exact ⟨rfl, rfl, rfl⟩
              · rw [fset_n e, fset_n e, fset_n e]; exact hf j j0 (by omega)
  have LD : ∀ (n9 : Nat) (r s a b c : Int) (w9 w10 : Option MV), (0 ≤ r) → (r ≤ M 0 1) → (0 ≤ s ∧ s < 32) → (∀ j, 0 ≤ j → j < M 0 6 → (bt s j ≠ 0 ↔ (M 24 j = 1 ∧ (M 8 j * 60 = nhC x (M 24) mk (M 8) (M 2) (M 0 6) (M 0 1) ∨ ∃ q, 0 ≤ q ∧ q < r ∧ alC (upto (M 24) x (fun _ => nhC x (M 24) mk (M 8) (M 2) (M 0 6) (M 0 1)) (M 0 6)) mk (M 0 6) q = M 2 q * 60 ∧ bt (mk j) q ≠ 0)))) → M 0 1 - r < n9 → R LyM g mX8_rise (d + 2) 192 [some (vr 0), some (vl (tp (nhC x (M 24) mk (M 8) (M 2) (M 0 6) (M 0 1)))), none, some (vl (lw (nhC x (M 24) mk (M 8) (M 2) (M 0 6) (M 0 1)))), none, some (vl c), none, some (vi s), some (vi r), w9, w10] [] (m0 M a b) (fun r M' => r = some (vi (sg (stC (upto (M 24) x (fun _ => nhC x (M 24) mk (M 8) (M 2) (M 0 6) (M 0 1)) (M 0 6)) mk (M 8) (M 2) (M 0 6) (M 0 1) (M 24)) (M 0 6))) ∧ ∃ a b G K, M' = m27 M a b (stC (upto (M 24) x (fun _ => nhC x (M 24) mk (M 8) (M 2) (M 0 6) (M 0 1)) (M 0 6)) mk (M 8) (M 2) (M 0 6) (M 0 1) (M 24)) G K ∧ (∀ l, 0 ≤ l → l < M 0 6 → G l = tp ((upto (M 24) x (fun _ => nhC x (M 24) mk (M 8) (M 2) (M 0 6) (M 0 1)) (M 0 6)) l) ∧ K l = lw ((upto (M 24) x (fun _ => nhC x (M 24) mk (M 8) (M 2) (M 0 6) (M 0 1)) (M 0 6)) l))) := by
    intro n9
    induction n9 with
    | zero =>
      intro r s a b c w9 w10 h0 h1 hs hb hm9
      omega
    | succ n9 ih =>
      intro r s a b c w9 w10 h0 h1 hs hb hm9
      refine r_ld iX8_rise_192 rfl ?_
      refine r_aldn iX8_rise_194 rfl ?_
      refine r_geti 1 iX8_rise_195 flX8_97 rfl rfl rfl rfl ?_
      try simp only [m0_31, m0_32, m0_0, m0_1, m0_6, m0_k2, m0_k3, m0_k5, m0_k8, m0_k9, m0_k10, m0_k11, m0_k12, m0_k13, m0_k24, m0_k25, m0_k26, m0_k27, m0_p31, m0_p32, m0_i, m0_m0]
      refine r_cge iX8_rise_198 (by omega) (fun h198 => ?_) (fun h198 => ?_)
      · refine r_con iX8_rise_303 ?_
        refine r_st iX8_rise_304 (by decide) rfl ?_
        refine r_con iX8_rise_306 ?_
        refine r_st iX8_rise_307 (by decide) rfl ?_
        have er : r = M 0 1 := by omega
        rw [er] at hb
        have L0 := fun w10 => LF s hs hb 6 0 0 a b (M 24) (M 26) (M 27) c w10 (by omega) (by omega) rfl (fun j j0 j1 => by omega) (fun j j0 => ⟨rfl, rfl, rfl⟩) (by omega)
        rw [m27_i] at L0
        exact L0 _
      · have hr6 : r < M 0 1 := h198
        have E : ∀ (n8 : Nat) (j s a b : Int), (0 ≤ j) → (j ≤ M 0 6) → (0 ≤ s ∧ s < 32) → (alC (upto (M 24) x (fun _ => nhC x (M 24) mk (M 8) (M 2) (M 0 6) (M 0 1)) (M 0 6)) mk (M 0 6) r = M 2 r * 60) → (∀ i, 0 ≤ i → i < M 0 6 → (bt s i ≠ 0 ↔ (M 24 i = 1 ∧ (M 8 i * 60 = nhC x (M 24) mk (M 8) (M 2) (M 0 6) (M 0 1) ∨ ∃ q, 0 ≤ q ∧ (q < r ∨ (q = r ∧ i < j)) ∧ alC (upto (M 24) x (fun _ => nhC x (M 24) mk (M 8) (M 2) (M 0 6) (M 0 1)) (M 0 6)) mk (M 0 6) q = M 2 q * 60 ∧ bt (mk i) q ≠ 0)))) → M 0 6 - j < n8 → R LyM g mX8_rise (d + 2) 236 [some (vr 0), some (vl (tp (nhC x (M 24) mk (M 8) (M 2) (M 0 6) (M 0 1)))), none, some (vl (lw (nhC x (M 24) mk (M 8) (M 2) (M 0 6) (M 0 1)))), none, some (vl c), none, some (vi s), some (vi r), some (vi 1), some (vi j)] [] (m0 M a b) (fun r M' => r = some (vi (sg (stC (upto (M 24) x (fun _ => nhC x (M 24) mk (M 8) (M 2) (M 0 6) (M 0 1)) (M 0 6)) mk (M 8) (M 2) (M 0 6) (M 0 1) (M 24)) (M 0 6))) ∧ ∃ a b G K, M' = m27 M a b (stC (upto (M 24) x (fun _ => nhC x (M 24) mk (M 8) (M 2) (M 0 6) (M 0 1)) (M 0 6)) mk (M 8) (M 2) (M 0 6) (M 0 1) (M 24)) G K ∧ (∀ l, 0 ≤ l → l < M 0 6 → G l = tp ((upto (M 24) x (fun _ => nhC x (M 24) mk (M 8) (M 2) (M 0 6) (M 0 1)) (M 0 6)) l) ∧ K l = lw ((upto (M 24) x (fun _ => nhC x (M 24) mk (M 8) (M 2) (M 0 6) (M 0 1)) (M 0 6)) l))) := by
          intro n8
          induction n8 with
          | zero =>
            intro j s a b h0i h1i hs hfull hb hm9
            omega
          | succ n8 ih2 =>
            intro j s a b h0i h1i hs hfull hb hm9
            refine r_ld iX8_rise_236 rfl ?_
            refine r_aldn iX8_rise_238 rfl ?_
            refine r_geti 6 iX8_rise_239 flX8_100 rfl rfl rfl rfl ?_
            try simp only [m0_31, m0_32, m0_0, m0_1, m0_6, m0_k2, m0_k3, m0_k5, m0_k8, m0_k9, m0_k10, m0_k11, m0_k12, m0_k13, m0_k24, m0_k25, m0_k26, m0_k27, m0_p31, m0_p32, m0_i, m0_m0]
            refine r_cge iX8_rise_242 (by omega) (fun h242 => ?_) (fun h242 => ?_)
            · refine r_inc iX8_rise_297 rfl (by decide) rfl ?_
              refine r_goto iX8_rise_300 ?_
              refine ih (r + 1) s a b c _ _ (by omega) (by omega) hs (fun i i0 i1 => ?_) (by omega)
              rw [hb i i0 i1]
              refine ⟨fun hq => ?_, fun hq => ?_⟩
              · obtain ⟨q1, q2⟩ := hq
                refine ⟨q1, ?_⟩
                rcases q2 with q2 | ⟨q, q3, q4, q5, q6⟩
                · exact Or.inl q2
                · exact Or.inr ⟨q, q3, by omega, q5, q6⟩
              · obtain ⟨q1, q2⟩ := hq
                refine ⟨q1, ?_⟩
                rcases q2 with q2 | ⟨q, q3, q4, q5, q6⟩
                · exact Or.inl q2
                · exact Or.inr ⟨q, q3, by omega, q5, q6⟩
            · have hj6 : j < M 0 6 := h242
              have hzj := S.z j h0i hj6
              have haj := S.a j h0i hj6
              have hvj := (hW j h0i hj6).2 (M 25 j)
              have hwj := (hW j h0i hj6).1
              have hz2 := hsM_z (M 12) (M 13) (8 * j + M 25 j) r
              refine r_ld iX8_rise_245 rfl ?_
              refine r_ifeq iX8_rise_247 (by omega) (fun h247 => ?_) (fun h247 => ?_)
              · refine r_inc iX8_rise_297 rfl (by decide) rfl ?_
                refine r_goto iX8_rise_300 ?_
                exact absurd h247 (by decide)
              · refine r_ld iX8_rise_250 rfl ?_
                refine r_aldn iX8_rise_252 rfl ?_
                refine r_getr iX8_rise_253 flX8_83 rfl rfl ?_
                refine r_ld iX8_rise_256 rfl ?_
                refine r_zal iX8_rise_258 rfl (by omega) ?_
                try simp only [m0_31, m0_32, m0_0, m0_1, m0_6, m0_k2, m0_k3, m0_k5, m0_k8, m0_k9, m0_k10, m0_k11, m0_k12, m0_k13, m0_k24, m0_k25, m0_k26, m0_k27, m0_p31, m0_p32, m0_i, m0_m0]
                refine r_ifeq iX8_rise_259 (by omega) (fun h259 => ?_) (fun h259 => ?_)
                · refine r_con iX8_rise_287 ?_
                  refine r_or iX8_rise_288 (by omega) (by first | omega | exact pw_nn _) ?_
                  refine r_st iX8_rise_289 (by decide) rfl ?_
                  refine r_inc iX8_rise_291 rfl (by decide) rfl ?_
                  refine r_goto iX8_rise_294 ?_
                  rw [or_z s hs.1]
                  refine ih2 (j + 1) s a b (by omega) (by omega) hs hfull (fun i i0 i1 => ?_) (by omega)
                  rw [hb i i0 i1]
                  refine ⟨fun hq => ?_, fun hq => ?_⟩
                  · obtain ⟨q1, q2⟩ := hq
                    refine ⟨q1, ?_⟩
                    rcases q2 with q2 | ⟨q, q3, q4, q5, q6⟩
                    · exact Or.inl q2
                    · exact Or.inr ⟨q, q3, by omega, q5, q6⟩
                  · obtain ⟨q1, q2⟩ := hq
                    refine ⟨q1, ?_⟩
                    rcases q2 with q2 | ⟨q, q3, q4, q5, q6⟩
                    · exact Or.inl q2
                    · by_cases e : q = r ∧ i = j
                      · obtain ⟨e1, e2⟩ := e
                        subst e1
                        subst e2
                        omega
                      · exact Or.inr ⟨q, q3, by omega, q5, q6⟩
                · have hrj := S.r j h0i hj6 (by omega)
                  refine r_aldn iX8_rise_262 rfl ?_
                  refine r_ld iX8_rise_263 rfl ?_
                  refine r_aldn iX8_rise_265 rfl ?_
                  refine r_getr iX8_rise_266 flX8_87 rfl rfl ?_
                  refine r_ld iX8_rise_269 rfl ?_
                  refine r_ial iX8_rise_271 rfl (by omega) ?_
                  refine r_ld iX8_rise_272 rfl ?_
                  try simp only [m0_31, m0_32, m0_0, m0_1, m0_6, m0_k2, m0_k3, m0_k5, m0_k8, m0_k9, m0_k10, m0_k11, m0_k12, m0_k13, m0_k24, m0_k25, m0_k26, m0_k27, m0_p31, m0_p32, m0_i, m0_m0]
                  refine call_V3i iX8_rise_274 clX8_118 myX8_has rfl rfl rfl rfl (sX8_has (M := m0 M a b) _ _ _ _ (by omega) (hvj hrj haj.2) (by omega) hr.2) ?_
                  try simp only [m0_31, m0_32, m0_0, m0_1, m0_6, m0_k2, m0_k3, m0_k5, m0_k8, m0_k9, m0_k10, m0_k11, m0_k12, m0_k13, m0_k24, m0_k25, m0_k26, m0_k27, m0_p31, m0_p32, m0_i, m0_m0]
                  refine r_ifeq iX8_rise_277 (by omega) (fun h277 => ?_) (fun h277 => ?_)
                  · refine r_con iX8_rise_287 ?_
                    refine r_or iX8_rise_288 (by omega) (by first | omega | exact pw_nn _) ?_
                    refine r_st iX8_rise_289 (by decide) rfl ?_
                    refine r_inc iX8_rise_291 rfl (by decide) rfl ?_
                    refine r_goto iX8_rise_294 ?_
                    rw [or_z s hs.1]
                    refine ih2 (j + 1) s a b (by omega) (by omega) hs hfull (fun i i0 i1 => ?_) (by omega)
                    rw [hb i i0 i1]
                    refine ⟨fun hq => ?_, fun hq => ?_⟩
                    · obtain ⟨q1, q2⟩ := hq
                      refine ⟨q1, ?_⟩
                      rcases q2 with q2 | ⟨q, q3, q4, q5, q6⟩
                      · exact Or.inl q2
                      · exact Or.inr ⟨q, q3, by omega, q5, q6⟩
                    · obtain ⟨q1, q2⟩ := hq
                      refine ⟨q1, ?_⟩
                      rcases q2 with q2 | ⟨q, q3, q4, q5, q6⟩
                      · exact Or.inl q2
                      · by_cases e : q = r ∧ i = j
                        · obtain ⟨e1, e2⟩ := e
                          subst e1
                          subst e2
                          exact absurd ((hoo i i0 i1 q q3 hr6 q1).mpr q6) (by omega)
                        · exact Or.inr ⟨q, q3, by omega, q5, q6⟩
                  · refine r_con iX8_rise_280 ?_
                    refine r_ld iX8_rise_281 rfl ?_
                    refine r_shl iX8_rise_283 (by omega) ?_
                    refine r_goto iX8_rise_284 ?_
                    refine r_or iX8_rise_288 (by omega) (by first | omega | exact pw_nn _) ?_
                    refine r_st iX8_rise_289 (by decide) rfl ?_
                    refine r_inc iX8_rise_291 rfl (by decide) rfl ?_
                    refine r_goto iX8_rise_294 ?_
                    refine ih2 (j + 1) _ a b (by omega) (by omega) (or_5 hs (by omega)) hfull (fun i i0 i1 => ?_) (by omega)
                    rw [or_bt hs.1 h0i i i0]
                    by_cases e : i = j
                    · subst e
                      rw [if_pos rfl]
                      exact ⟨fun _ => ⟨by omega, Or.inr ⟨r, h0, by omega, hfull, (hoo i i0 i1 r h0 hr6 (by omega)).mp h277⟩⟩, fun _ => by decide⟩
                    · rw [if_neg e, hb i i0 i1]
                      refine ⟨fun hq => ?_, fun hq => ?_⟩
                      · obtain ⟨q1, q2⟩ := hq
                        refine ⟨q1, ?_⟩
                        rcases q2 with q2 | ⟨q, q3, q4, q5, q6⟩
                        · exact Or.inl q2
                        · exact Or.inr ⟨q, q3, by omega, q5, q6⟩
                      · obtain ⟨q1, q2⟩ := hq
                        refine ⟨q1, ?_⟩
                        rcases q2 with q2 | ⟨q, q3, q4, q5, q6⟩
                        · exact Or.inl q2
                        · exact Or.inr ⟨q, q3, by omega, q5, q6⟩
        refine r_aldn iX8_rise_201 rfl ?_
        refine r_ld iX8_rise_202 rfl ?_
        refine call_V1i iX8_rise_204 clX8_228 myX8_leaves rfl rfl rfl rfl (sX8_leaves_m _ r a b ⟨h0, hr6⟩ S (hfe r h0 hr6) hW hN) ?_
        try simp only [m0_31, m0_32, m0_0, m0_1, m0_6, m0_k2, m0_k3, m0_k5, m0_k8, m0_k9, m0_k10, m0_k11, m0_k12, m0_k13, m0_k24, m0_k25, m0_k26, m0_k27, m0_p31, m0_p32, m0_i, m0_m0]
        refine r_ifeq iX8_rise_207 (by split <;> omega) (fun h207 => ?_) (fun h207 => ?_)
        · rw [ite10] at h207
          refine r_con iX8_rise_230 ?_
          refine r_st iX8_rise_231 (by decide) rfl ?_
          refine r_con iX8_rise_233 ?_
          refine r_st iX8_rise_234 (by decide) rfl ?_
          try simp only [m0_31, m0_32, m0_0, m0_1, m0_6, m0_k2, m0_k3, m0_k5, m0_k8, m0_k9, m0_k10, m0_k11, m0_k12, m0_k13, m0_k24, m0_k25, m0_k26, m0_k27, m0_p31, m0_p32, m0_i, m0_m0]
          refine r_ld iX8_rise_236 rfl ?_
          refine r_aldn iX8_rise_238 rfl ?_
          refine r_geti 6 iX8_rise_239 flX8_100 rfl rfl rfl rfl ?_
          try simp only [m0_31, m0_32, m0_0, m0_1, m0_6, m0_k2, m0_k3, m0_k5, m0_k8, m0_k9, m0_k10, m0_k11, m0_k12, m0_k13, m0_k24, m0_k25, m0_k26, m0_k27, m0_p31, m0_p32, m0_i, m0_m0]
          refine r_cge iX8_rise_242 (by omega) (fun h242 => ?_) (fun h242 => ?_)
          · refine r_inc iX8_rise_297 rfl (by decide) rfl ?_
            refine r_goto iX8_rise_300 ?_
            have hnf : ∀ i, 0 ≤ i → i < M 0 6 → M 24 i = 1 → bt (mk i) r ≠ 0 → ¬ alC (upto (M 24) x (fun _ => nhC x (M 24) mk (M 8) (M 2) (M 0 6) (M 0 1)) (M 0 6)) mk (M 0 6) r = M 2 r * 60 := fun i i0 i1 i2 i3 i4 => by
              have k1 := ri_pos (ri := M 24) (mk := mk) (r := r) S.z i0 i1 i2 i3
              omega
            refine ih (r + 1) s _ _ c _ _ (by omega) (by omega) hs (fun i i0 i1 => ?_) (by omega)
            rw [hb i i0 i1]
            refine ⟨fun hq => ?_, fun hq => ?_⟩
            · obtain ⟨q1, q2⟩ := hq
              refine ⟨q1, ?_⟩
              rcases q2 with q2 | ⟨q, q3, q4, q5, q6⟩
              · exact Or.inl q2
              · exact Or.inr ⟨q, q3, by omega, q5, q6⟩
            · obtain ⟨q1, q2⟩ := hq
              refine ⟨q1, ?_⟩
              rcases q2 with q2 | ⟨q, q3, q4, q5, q6⟩
              · exact Or.inl q2
              · by_cases e : q = r
                · subst e
                  exact absurd q5 (hnf i i0 i1 q1 q6)
                · exact Or.inr ⟨q, q3, by omega, q5, q6⟩
          · refine r_ld iX8_rise_245 rfl ?_
            refine r_ifeq iX8_rise_247 (by omega) (fun h247 => ?_) (fun h247 => ?_)
            · refine r_inc iX8_rise_297 rfl (by decide) rfl ?_
              refine r_goto iX8_rise_300 ?_
              have hnf : ∀ i, 0 ≤ i → i < M 0 6 → M 24 i = 1 → bt (mk i) r ≠ 0 → ¬ alC (upto (M 24) x (fun _ => nhC x (M 24) mk (M 8) (M 2) (M 0 6) (M 0 1)) (M 0 6)) mk (M 0 6) r = M 2 r * 60 := fun i i0 i1 i2 i3 i4 => by
                have k1 := ri_pos (ri := M 24) (mk := mk) (r := r) S.z i0 i1 i2 i3
                omega
              refine ih (r + 1) s _ _ c _ _ (by omega) (by omega) hs (fun i i0 i1 => ?_) (by omega)
              rw [hb i i0 i1]
              refine ⟨fun hq => ?_, fun hq => ?_⟩
              · obtain ⟨q1, q2⟩ := hq
                refine ⟨q1, ?_⟩
                rcases q2 with q2 | ⟨q, q3, q4, q5, q6⟩
                · exact Or.inl q2
                · exact Or.inr ⟨q, q3, by omega, q5, q6⟩
              · obtain ⟨q1, q2⟩ := hq
                refine ⟨q1, ?_⟩
                rcases q2 with q2 | ⟨q, q3, q4, q5, q6⟩
                · exact Or.inl q2
                · by_cases e : q = r
                  · subst e
                    exact absurd q5 (hnf i i0 i1 q1 q6)
                  · exact Or.inr ⟨q, q3, by omega, q5, q6⟩
            · exact absurd rfl h247
        · rw [ne_eq, ite10n] at h207
          have yb := hyb r h0 hr6
          have rb := hrr r
          have lb1 := lw_bd (M 2 r * 60 - soC x (M 24) mk (M 0 6) r)
          have tb1 := tp_bd yb.1
          have lb2 := lw_bd (nhC x (M 24) mk (M 8) (M 2) (M 0 6) (M 0 1))
          have tb2 := tp_bd hb6.1
          have pb1 := Int.mul_le_mul (show tp (M 2 r * 60 - soC x (M 24) mk (M 0 6) r) ≤ 6000 by omega) lb2.2 (by omega) (by omega)
          have pb2 := Int.mul_nonneg tb1.1 (show 0 ≤ lw (nhC x (M 24) mk (M 8) (M 2) (M 0 6) (M 0 1)) by omega)
          have pb3 := Int.mul_le_mul lb1.2 rb.2 rb.1 (by omega)
          have pb4 := Int.mul_nonneg (show 0 ≤ lw (M 2 r * 60 - soC x (M 24) mk (M 0 6) r) by omega) rb.1
          have pb5 := Int.mul_le_mul (show tp (nhC x (M 24) mk (M 8) (M 2) (M 0 6) (M 0 1)) ≤ 6000 by omega) pb3 pb4 (by omega)
          have pb6 := Int.mul_nonneg tb2.1 pb4
          refine r_aldn iX8_rise_210 rfl ?_
          refine r_getl 31 iX8_rise_211 flX8_215 rfl rfl rfl ?_
          refine r_lldn iX8_rise_214 rfl ?_
          refine r_lmul iX8_rise_215 ?_
          refine r_lldn iX8_rise_216 rfl ?_
          refine r_aldn iX8_rise_217 rfl ?_
          refine r_getl 32 iX8_rise_218 flX8_219 rfl rfl rfl ?_
          refine r_lmul iX8_rise_221 ?_
          try simp only [m0_31, m0_32, m0_0, m0_1, m0_6, m0_k2, m0_k3, m0_k5, m0_k8, m0_k9, m0_k10, m0_k11, m0_k12, m0_k13, m0_k24, m0_k25, m0_k26, m0_k27, m0_p31, m0_p32, m0_i, m0_m0]
          refine r_lcmp iX8_rise_222 (by omega) ?_
          refine r_ifne iX8_rise_223 (by split <;> (try split) <;> omega) (fun h223 => ?_) (fun h223 => ?_)
          · rw [lc_ne] at h223
            refine r_con iX8_rise_230 ?_
            refine r_st iX8_rise_231 (by decide) rfl ?_
            refine r_con iX8_rise_233 ?_
            refine r_st iX8_rise_234 (by decide) rfl ?_
            try simp only [m0_31, m0_32, m0_0, m0_1, m0_6, m0_k2, m0_k3, m0_k5, m0_k8, m0_k9, m0_k10, m0_k11, m0_k12, m0_k13, m0_k24, m0_k25, m0_k26, m0_k27, m0_p31, m0_p32, m0_i, m0_m0]
            refine r_ld iX8_rise_236 rfl ?_
            refine r_aldn iX8_rise_238 rfl ?_
            refine r_geti 6 iX8_rise_239 flX8_100 rfl rfl rfl rfl ?_
            try simp only [m0_31, m0_32, m0_0, m0_1, m0_6, m0_k2, m0_k3, m0_k5, m0_k8, m0_k9, m0_k10, m0_k11, m0_k12, m0_k13, m0_k24, m0_k25, m0_k26, m0_k27, m0_p31, m0_p32, m0_i, m0_m0]
            refine r_cge iX8_rise_242 (by omega) (fun h242 => ?_) (fun h242 => ?_)
            · refine r_inc iX8_rise_297 rfl (by decide) rfl ?_
              refine r_goto iX8_rise_300 ?_
              have hnf : ∀ i, 0 ≤ i → i < M 0 6 → M 24 i = 1 → bt (mk i) r ≠ 0 → ¬ alC (upto (M 24) x (fun _ => nhC x (M 24) mk (M 8) (M 2) (M 0 6) (M 0 1)) (M 0 6)) mk (M 0 6) r = M 2 r * 60 := fun i i0 i1 i2 i3 i4 => by
                have k1 := ri_pos (ri := M 24) (mk := mk) (r := r) S.z i0 i1 i2 i3
                rw [hal r] at i4
                have k2 := hdv r k1
                refine h223 ((cmp_fr (tp_lw (M 2 r * 60 - soC x (M 24) mk (M 0 6) r)) k2 (tp_lw (nhC x (M 24) mk (M 8) (M 2) (M 0 6) (M 0 1))) (by have := lw_bd (M 2 r * 60 - soC x (M 24) mk (M 0 6) r); omega) k1 (by have := lw_bd (nhC x (M 24) mk (M 8) (M 2) (M 0 6) (M 0 1)); omega)).2.mpr ?_)
                refine Int.eq_of_mul_eq_mul_left (show riC (M 24) mk (M 0 6) r ≠ 0 by omega) ?_
                omega
              refine ih (r + 1) s _ _ c _ _ (by omega) (by omega) hs (fun i i0 i1 => ?_) (by omega)
              rw [hb i i0 i1]
              refine ⟨fun hq => ?_, fun hq => ?_⟩
              · obtain ⟨q1, q2⟩ := hq
                refine ⟨q1, ?_⟩
                rcases q2 with q2 | ⟨q, q3, q4, q5, q6⟩
                · exact Or.inl q2
                · exact Or.inr ⟨q, q3, by omega, q5, q6⟩
              · obtain ⟨q1, q2⟩ := hq
                refine ⟨q1, ?_⟩
                rcases q2 with q2 | ⟨q, q3, q4, q5, q6⟩
                · exact Or.inl q2
                · by_cases e : q = r
                  · subst e
                    exact absurd q5 (hnf i i0 i1 q1 q6)
                  · exact Or.inr ⟨q, q3, by omega, q5, q6⟩
            · refine r_ld iX8_rise_245 rfl ?_
              refine r_ifeq iX8_rise_247 (by omega) (fun h247 => ?_) (fun h247 => ?_)
              · refine r_inc iX8_rise_297 rfl (by decide) rfl ?_
                refine r_goto iX8_rise_300 ?_
                have hnf : ∀ i, 0 ≤ i → i < M 0 6 → M 24 i = 1 → bt (mk i) r ≠ 0 → ¬ alC (upto (M 24) x (fun _ => nhC x (M 24) mk (M 8) (M 2) (M 0 6) (M 0 1)) (M 0 6)) mk (M 0 6) r = M 2 r * 60 := fun i i0 i1 i2 i3 i4 => by
                  have k1 := ri_pos (ri := M 24) (mk := mk) (r := r) S.z i0 i1 i2 i3
                  rw [hal r] at i4
                  have k2 := hdv r k1
                  refine h223 ((cmp_fr (tp_lw (M 2 r * 60 - soC x (M 24) mk (M 0 6) r)) k2 (tp_lw (nhC x (M 24) mk (M 8) (M 2) (M 0 6) (M 0 1))) (by have := lw_bd (M 2 r * 60 - soC x (M 24) mk (M 0 6) r); omega) k1 (by have := lw_bd (nhC x (M 24) mk (M 8) (M 2) (M 0 6) (M 0 1)); omega)).2.mpr ?_)
                  refine Int.eq_of_mul_eq_mul_left (show riC (M 24) mk (M 0 6) r ≠ 0 by omega) ?_
                  omega
                refine ih (r + 1) s _ _ c _ _ (by omega) (by omega) hs (fun i i0 i1 => ?_) (by omega)
                rw [hb i i0 i1]
                refine ⟨fun hq => ?_, fun hq => ?_⟩
                · obtain ⟨q1, q2⟩ := hq
                  refine ⟨q1, ?_⟩
                  rcases q2 with q2 | ⟨q, q3, q4, q5, q6⟩
                  · exact Or.inl q2
                  · exact Or.inr ⟨q, q3, by omega, q5, q6⟩
                · obtain ⟨q1, q2⟩ := hq
                  refine ⟨q1, ?_⟩
                  rcases q2 with q2 | ⟨q, q3, q4, q5, q6⟩
                  · exact Or.inl q2
                  · by_cases e : q = r
                    · subst e
                      exact absurd q5 (hnf i i0 i1 q1 q6)
                    · exact Or.inr ⟨q, q3, by omega, q5, q6⟩
              · exact absurd rfl h247
          · rw [lc_eq] at h223
            refine r_con iX8_rise_226 ?_
            refine r_goto iX8_rise_227 ?_
            refine r_st iX8_rise_231 (by decide) rfl ?_
            refine r_con iX8_rise_233 ?_
            refine r_st iX8_rise_234 (by decide) rfl ?_
            try simp only [m0_31, m0_32, m0_0, m0_1, m0_6, m0_k2, m0_k3, m0_k5, m0_k8, m0_k9, m0_k10, m0_k11, m0_k12, m0_k13, m0_k24, m0_k25, m0_k26, m0_k27, m0_p31, m0_p32, m0_i, m0_m0]
            have k2 := hdv r h207
            have hfull : alC (upto (M 24) x (fun _ => nhC x (M 24) mk (M 8) (M 2) (M 0 6) (M 0 1)) (M 0 6)) mk (M 0 6) r = M 2 r * 60 := by
              have k3 := (cmp_fr (tp_lw (M 2 r * 60 - soC x (M 24) mk (M 0 6) r)) k2 (tp_lw (nhC x (M 24) mk (M 8) (M 2) (M 0 6) (M 0 1))) (by have := lw_bd (M 2 r * 60 - soC x (M 24) mk (M 0 6) r); omega) h207 (by have := lw_bd (nhC x (M 24) mk (M 8) (M 2) (M 0 6) (M 0 1)); omega)).2.mp h223
              rw [hal r, ← k3]
              omega
            exact E 6 0 s _ _ (by omega) (by omega) hs hfull (fun i i0 i1 => by rw [hb i i0 i1]; exact ⟨fun ⟨q1, q2⟩ => ⟨q1, by rcases q2 with q2 | ⟨q, q3, q4, q5, q6⟩; exact Or.inl q2; exact Or.inr ⟨q, q3, by omega, q5, q6⟩⟩, fun ⟨q1, q2⟩ => ⟨q1, by rcases q2 with q2 | ⟨q, q3, q4, q5, q6⟩; exact Or.inl q2; exact Or.inr ⟨q, q3, by omega, q5, q6⟩⟩⟩) (by omega)
  have LC : ∀ (n9 : Nat) (l s a b c : Int), (0 ≤ l) → (l ≤ M 0 6) → (0 ≤ s ∧ s < 32) → (∀ j, 0 ≤ j → j < M 0 6 → (bt s j ≠ 0 ↔ (M 24 j = 1 ∧ j < l ∧ M 8 j * 60 = nhC x (M 24) mk (M 8) (M 2) (M 0 6) (M 0 1)))) → M 0 6 - l < n9 → R LyM g mX8_rise (d + 2) 136 [some (vr 0), some (vl (tp (nhC x (M 24) mk (M 8) (M 2) (M 0 6) (M 0 1)))), none, some (vl (lw (nhC x (M 24) mk (M 8) (M 2) (M 0 6) (M 0 1)))), none, some (vl c), none, some (vi s), some (vi l), none, none] [] (m0 M a b) (fun r M' => r = some (vi (sg (stC (upto (M 24) x (fun _ => nhC x (M 24) mk (M 8) (M 2) (M 0 6) (M 0 1)) (M 0 6)) mk (M 8) (M 2) (M 0 6) (M 0 1) (M 24)) (M 0 6))) ∧ ∃ a b G K, M' = m27 M a b (stC (upto (M 24) x (fun _ => nhC x (M 24) mk (M 8) (M 2) (M 0 6) (M 0 1)) (M 0 6)) mk (M 8) (M 2) (M 0 6) (M 0 1) (M 24)) G K ∧ (∀ l, 0 ≤ l → l < M 0 6 → G l = tp ((upto (M 24) x (fun _ => nhC x (M 24) mk (M 8) (M 2) (M 0 6) (M 0 1)) (M 0 6)) l) ∧ K l = lw ((upto (M 24) x (fun _ => nhC x (M 24) mk (M 8) (M 2) (M 0 6) (M 0 1)) (M 0 6)) l))) := by
    intro n9
    induction n9 with
    | zero =>
      intro l s a b c h0 h1 hs hb hm9
      omega
    | succ n9 ih =>
      intro l s a b c h0 h1 hs hb hm9
      refine r_ld iX8_rise_136 rfl ?_
      refine r_aldn iX8_rise_138 rfl ?_
      refine r_geti 6 iX8_rise_139 flX8_100 rfl rfl rfl rfl ?_
      try simp only [m0_31, m0_32, m0_0, m0_1, m0_6, m0_k2, m0_k3, m0_k5, m0_k8, m0_k9, m0_k10, m0_k11, m0_k12, m0_k13, m0_k24, m0_k25, m0_k26, m0_k27, m0_p31, m0_p32, m0_i, m0_m0]
      refine r_cge iX8_rise_142 (by omega) (fun h142 => ?_) (fun h142 => ?_)
      · refine r_con iX8_rise_189 ?_
        refine r_st iX8_rise_190 (by decide) rfl ?_
        have el : l = M 0 6 := by omega
        rw [el] at hb
        exact LD 21 0 s a b c _ _ (by omega) (by omega) hs (fun j j0 j1 => by rw [hb j j0 j1]; exact ⟨fun ⟨q1, q2, q3⟩ => ⟨q1, Or.inl q3⟩, fun ⟨q1, q2⟩ => ⟨q1, j1, by rcases q2 with q2 | ⟨q, q3, q4, q5⟩; exact q2; omega⟩⟩) (by omega)
      · have hl6 : l < M 0 6 := h142
        have hzl := S.z l h0 hl6
        have hll := (hL l h0 hl6).2.2.2.2
        have lb2 := lw_bd (nhC x (M 24) mk (M 8) (M 2) (M 0 6) (M 0 1))
        have tb2 := tp_bd hb6.1
        have pb1 := Int.mul_le_mul hll.2 lb2.2 (by omega) (by omega)
        have pb2 := Int.mul_nonneg (show 0 ≤ M 8 l by omega) (show 0 ≤ lw (nhC x (M 24) mk (M 8) (M 2) (M 0 6) (M 0 1)) by omega)
        refine r_ld iX8_rise_145 rfl ?_
        refine r_aldn iX8_rise_147 rfl ?_
        refine r_getr iX8_rise_148 flX8_83 rfl rfl ?_
        refine r_ld iX8_rise_151 rfl ?_
        refine r_zal iX8_rise_153 rfl (by omega) ?_
        try simp only [m0_31, m0_32, m0_0, m0_1, m0_6, m0_k2, m0_k3, m0_k5, m0_k8, m0_k9, m0_k10, m0_k11, m0_k12, m0_k13, m0_k24, m0_k25, m0_k26, m0_k27, m0_p31, m0_p32, m0_i, m0_m0]
        refine r_ifeq iX8_rise_154 (by omega) (fun h154 => ?_) (fun h154 => ?_)
        · refine r_con iX8_rise_179 ?_
          refine r_or iX8_rise_180 (by omega) (by first | omega | exact pw_nn _) ?_
          refine r_st iX8_rise_181 (by decide) rfl ?_
          refine r_inc iX8_rise_183 rfl (by decide) rfl ?_
          refine r_goto iX8_rise_186 ?_
          rw [or_z s hs.1]
          refine ih (l + 1) s a b c (by omega) (by omega) hs (fun j j0 j1 => ?_) (by omega)
          rw [hb j j0 j1]
          refine ⟨fun ⟨q1, q2, q3⟩ => ⟨q1, by omega, q3⟩, fun ⟨q1, q2, q3⟩ => ⟨q1, ?_, q3⟩⟩
          by_cases e : j = l
          · subst e
            omega
          · omega
        · refine r_aldn iX8_rise_157 rfl ?_
          refine r_getr iX8_rise_158 flX8_35 rfl rfl ?_
          refine r_ld iX8_rise_161 rfl ?_
          refine r_ial iX8_rise_163 rfl (by omega) ?_
          try simp only [m0_31, m0_32, m0_0, m0_1, m0_6, m0_k2, m0_k3, m0_k5, m0_k8, m0_k9, m0_k10, m0_k11, m0_k12, m0_k13, m0_k24, m0_k25, m0_k26, m0_k27, m0_p31, m0_p32, m0_i, m0_m0]
          refine r_i2l iX8_rise_164 (by omega) ?_
          refine r_lldn iX8_rise_165 rfl ?_
          refine r_lmul iX8_rise_166 ?_
          refine r_lldn iX8_rise_167 rfl ?_
          try simp only [m0_31, m0_32, m0_0, m0_1, m0_6, m0_k2, m0_k3, m0_k5, m0_k8, m0_k9, m0_k10, m0_k11, m0_k12, m0_k13, m0_k24, m0_k25, m0_k26, m0_k27, m0_p31, m0_p32, m0_i, m0_m0]
          refine r_lcmp iX8_rise_168 (by omega) ?_
          refine r_ifne iX8_rise_169 (by split <;> (try split) <;> omega) (fun h169 => ?_) (fun h169 => ?_)
          · rw [lc_ne] at h169
            refine r_con iX8_rise_179 ?_
            refine r_or iX8_rise_180 (by omega) (by first | omega | exact pw_nn _) ?_
            refine r_st iX8_rise_181 (by decide) rfl ?_
            refine r_inc iX8_rise_183 rfl (by decide) rfl ?_
            refine r_goto iX8_rise_186 ?_
            rw [or_z s hs.1]
            refine ih (l + 1) s a b c (by omega) (by omega) hs (fun j j0 j1 => ?_) (by omega)
            rw [hb j j0 j1]
            refine ⟨fun ⟨q1, q2, q3⟩ => ⟨q1, by omega, q3⟩, fun ⟨q1, q2, q3⟩ => ⟨q1, ?_, q3⟩⟩
            by_cases e : j = l
            · subst e
              exact absurd (eq_fr.mpr q3) h169
            · omega
          · rw [lc_eq] at h169
            refine r_con iX8_rise_172 ?_
            refine r_ld iX8_rise_173 rfl ?_
            refine r_shl iX8_rise_175 (by omega) ?_
            refine r_goto iX8_rise_176 ?_
            refine r_or iX8_rise_180 (by omega) (by first | omega | exact pw_nn _) ?_
            refine r_st iX8_rise_181 (by decide) rfl ?_
            refine r_inc iX8_rise_183 rfl (by decide) rfl ?_
            refine r_goto iX8_rise_186 ?_
            refine ih (l + 1) _ a b c (by omega) (by omega) (or_5 hs (by omega)) (fun j j0 j1 => ?_) (by omega)
            rw [or_bt hs.1 h0 j j0]
            by_cases e : j = l
            · subst e
              rw [if_pos rfl]
              exact ⟨fun _ => ⟨by omega, by omega, eq_fr.mp h169⟩, fun _ => by decide⟩
            · rw [if_neg e, hb j j0 j1]
              exact ⟨fun ⟨q1, q2, q3⟩ => ⟨q1, by omega, q3⟩, fun ⟨q1, q2, q3⟩ => ⟨q1, by omega, q3⟩⟩
  have LB : ∀ (n9 : Nat) (r T L a b : Int), (0 ≤ r) → (r ≤ M 0 1) → (0 ≤ T ∧ T ≤ 1000000) → (0 < L ∧ L ≤ 300) → (T * 60 = mic (fun r => riC (M 24) mk (M 0 6) r) (fun r => (M 2 r * 60 - soC x (M 24) mk (M 0 6) r) / riC (M 24) mk (M 0 6) r) (mic (M 24) (fun l => M 8 l * 60) 6000 (M 0 6).toNat) r.toNat * L) → M 0 1 - r < n9 → R LyM g mX8_rise (d + 2) 63 [some (vr 0), some (vl T), none, some (vl L), none, some (vi r), none, none, none, none, none] [] (m0 M a b) (fun r M' => r = some (vi (sg (stC (upto (M 24) x (fun _ => nhC x (M 24) mk (M 8) (M 2) (M 0 6) (M 0 1)) (M 0 6)) mk (M 8) (M 2) (M 0 6) (M 0 1) (M 24)) (M 0 6))) ∧ ∃ a b G K, M' = m27 M a b (stC (upto (M 24) x (fun _ => nhC x (M 24) mk (M 8) (M 2) (M 0 6) (M 0 1)) (M 0 6)) mk (M 8) (M 2) (M 0 6) (M 0 1) (M 24)) G K ∧ (∀ l, 0 ≤ l → l < M 0 6 → G l = tp ((upto (M 24) x (fun _ => nhC x (M 24) mk (M 8) (M 2) (M 0 6) (M 0 1)) (M 0 6)) l) ∧ K l = lw ((upto (M 24) x (fun _ => nhC x (M 24) mk (M 8) (M 2) (M 0 6) (M 0 1)) (M 0 6)) l))) := by
    intro n9
    induction n9 with
    | zero =>
      intro r T L a b h0 h1 hT hL0 hTL hm9
      omega
    | succ n9 ih =>
      intro r T L a b h0 h1 hT hL0 hTL hm9
      refine r_ld iX8_rise_63 rfl ?_
      refine r_aldn iX8_rise_65 rfl ?_
      refine r_geti 1 iX8_rise_66 flX8_97 rfl rfl rfl rfl ?_
      try simp only [m0_31, m0_32, m0_0, m0_1, m0_6, m0_k2, m0_k3, m0_k5, m0_k8, m0_k9, m0_k10, m0_k11, m0_k12, m0_k13, m0_k24, m0_k25, m0_k26, m0_k27, m0_p31, m0_p32, m0_i, m0_m0]
      refine r_cge iX8_rise_69 (by omega) (fun h69 => ?_) (fun h69 => ?_)
      · have er : r = M 0 1 := by omega
        rw [er] at hTL
        replace hTL : T * 60 = (nhC x (M 24) mk (M 8) (M 2) (M 0 6) (M 0 1)) * L := hTL
        have hg1 : 0 < (Int.gcd T L : Int) := by have := Int.gcd_pos_of_ne_zero_right T (show L ≠ 0 by omega); omega
        have hg2 : (Int.gcd T L : Int) ≤ L := Int.le_of_dvd hL0.1 (Int.gcd_dvd_right ..)
        refine r_lldn iX8_rise_113 rfl ?_
        refine r_lldn iX8_rise_114 rfl ?_
        refine call_S2l iX8_rise_115 clX8_222 myX8_common rfl (sX8_common _ _ _ (by omega) (by omega)) ?_
        refine r_lst iX8_rise_118 (by decide) rfl ?_
        refine r_lldn iX8_rise_120 rfl ?_
        refine r_lld iX8_rise_121 rfl ?_
        refine r_ldiv iX8_rise_123 (by omega) (by omega) ?_
        refine r_lstn iX8_rise_124 (by decide) rfl ?_
        refine r_lldn iX8_rise_125 rfl ?_
        refine r_lld iX8_rise_126 rfl ?_
        refine r_ldiv iX8_rise_128 (by omega) (by omega) ?_
        refine r_lstn iX8_rise_129 (by decide) rfl ?_
        refine r_con iX8_rise_130 ?_
        refine r_st iX8_rise_131 (by decide) rfl ?_
        refine r_con iX8_rise_133 ?_
        refine r_st iX8_rise_134 (by decide) rfl ?_
        rw [(fr_red hL0.1 hTL).1, (fr_red hL0.1 hTL).2]
        exact LC 6 0 0 a b _ (by omega) (by omega) (by omega) (fun j j0 j1 => ⟨fun q => absurd (bt_0 j) q, fun q => by omega⟩) (by omega)
      · have hr6 : r < M 0 1 := h69
        refine r_aldn iX8_rise_72 rfl ?_
        refine r_ld iX8_rise_73 rfl ?_
        refine call_V1i iX8_rise_75 clX8_228 myX8_leaves rfl rfl rfl rfl (sX8_leaves_m _ r a b ⟨h0, hr6⟩ S (hfe r h0 hr6) hW hN) ?_
        try simp only [m0_31, m0_32, m0_0, m0_1, m0_6, m0_k2, m0_k3, m0_k5, m0_k8, m0_k9, m0_k10, m0_k11, m0_k12, m0_k13, m0_k24, m0_k25, m0_k26, m0_k27, m0_p31, m0_p32, m0_i, m0_m0]
        refine r_ifeq iX8_rise_78 (by split <;> omega) (fun h78 => ?_) (fun h78 => ?_)
        · rw [ite10] at h78
          refine r_inc iX8_rise_107 rfl (by decide) rfl ?_
          refine r_goto iX8_rise_110 ?_
          try simp only [m0_31, m0_32, m0_0, m0_1, m0_6, m0_k2, m0_k3, m0_k5, m0_k8, m0_k9, m0_k10, m0_k11, m0_k12, m0_k13, m0_k24, m0_k25, m0_k26, m0_k27, m0_p31, m0_p32, m0_i, m0_m0]
          exact ih (r + 1) T L _ _ (by omega) (by omega) hT hL0 (by rw [mic_1 h0, if_pos (show riC (M 24) mk (M 0 6) r = 0 by have := hrr r; omega)]; exact hTL) (by omega)
        · rw [ne_eq, ite10n] at h78
          have yb := hyb r h0 hr6
          have rb := hrr r
          have lb1 := lw_bd (M 2 r * 60 - soC x (M 24) mk (M 0 6) r)
          have tb1 := tp_bd yb.1
          have pb1 := Int.mul_le_mul (show tp (M 2 r * 60 - soC x (M 24) mk (M 0 6) r) ≤ 6000 by omega) hL0.2 (by omega) (by omega)
          have pb2 := Int.mul_nonneg tb1.1 (show 0 ≤ L by omega)
          have pb3 := Int.mul_le_mul lb1.2 rb.2 rb.1 (by omega)
          have pb4 := Int.mul_nonneg (show 0 ≤ lw (M 2 r * 60 - soC x (M 24) mk (M 0 6) r) by omega) rb.1
          have pb5 := Int.mul_le_mul hT.2 pb3 pb4 (by omega)
          have pb6 := Int.mul_nonneg hT.1 pb4
          refine r_aldn iX8_rise_81 rfl ?_
          refine r_getl 31 iX8_rise_82 flX8_215 rfl rfl rfl ?_
          refine r_lldn iX8_rise_85 rfl ?_
          refine r_lmul iX8_rise_86 ?_
          refine r_lldn iX8_rise_87 rfl ?_
          refine r_aldn iX8_rise_88 rfl ?_
          refine r_getl 32 iX8_rise_89 flX8_219 rfl rfl rfl ?_
          refine r_lmul iX8_rise_92 ?_
          try simp only [m0_31, m0_32, m0_0, m0_1, m0_6, m0_k2, m0_k3, m0_k5, m0_k8, m0_k9, m0_k10, m0_k11, m0_k12, m0_k13, m0_k24, m0_k25, m0_k26, m0_k27, m0_p31, m0_p32, m0_i, m0_m0]
          refine r_lcmp iX8_rise_93 (by omega) ?_
          refine r_ifge iX8_rise_94 (by split <;> (try split) <;> omega) (fun h94 => ?_) (fun h94 => ?_)
          · rw [lc_ge] at h94
            refine r_inc iX8_rise_107 rfl (by decide) rfl ?_
            refine r_goto iX8_rise_110 ?_
            try simp only [m0_31, m0_32, m0_0, m0_1, m0_6, m0_k2, m0_k3, m0_k5, m0_k8, m0_k9, m0_k10, m0_k11, m0_k12, m0_k13, m0_k24, m0_k25, m0_k26, m0_k27, m0_p31, m0_p32, m0_i, m0_m0]
            have k2 := hdv r h78
            have k3 := cmp_fr (tp_lw (M 2 r * 60 - soC x (M 24) mk (M 0 6) r)) k2 hTL (by omega) h78 hL0.1
            exact ih (r + 1) T L _ _ (by omega) (by omega) hT hL0 (by rw [mic_1 h0, if_neg (by omega), if_neg (fun q => by have := k3.1.mpr q; omega)]; exact hTL) (by omega)
          · rw [lc_lt] at h94
            refine r_aldn iX8_rise_97 rfl ?_
            refine r_getl 31 iX8_rise_98 flX8_215 rfl rfl rfl ?_
            refine r_lstn iX8_rise_101 (by decide) rfl ?_
            refine r_aldn iX8_rise_102 rfl ?_
            refine r_getl 32 iX8_rise_103 flX8_219 rfl rfl rfl ?_
            refine r_lstn iX8_rise_106 (by decide) rfl ?_
            refine r_inc iX8_rise_107 rfl (by decide) rfl ?_
            refine r_goto iX8_rise_110 ?_
            try simp only [m0_31, m0_32, m0_0, m0_1, m0_6, m0_k2, m0_k3, m0_k5, m0_k8, m0_k9, m0_k10, m0_k11, m0_k12, m0_k13, m0_k24, m0_k25, m0_k26, m0_k27, m0_p31, m0_p32, m0_i, m0_m0]
            have k2 := hdv r h78
            have k3 := cmp_fr (tp_lw (M 2 r * 60 - soC x (M 24) mk (M 0 6) r)) k2 hTL (by omega) h78 hL0.1
            refine ih (r + 1) _ _ _ _ (by omega) (by omega) (by omega) ⟨Int.mul_pos (by omega) h78, by omega⟩ ?_ (by omega)
            rw [mic_1 h0, if_neg (by omega), if_pos (k3.1.mp h94), tp_lw]
            rw [show (M 2 r * 60 - soC x (M 24) mk (M 0 6) r) * lw (M 2 r * 60 - soC x (M 24) mk (M 0 6) r) = riC (M 24) mk (M 0 6) r * ((M 2 r * 60 - soC x (M 24) mk (M 0 6) r) / riC (M 24) mk (M 0 6) r) * lw (M 2 r * 60 - soC x (M 24) mk (M 0 6) r) by rw [← k2]]
            rw [Int.mul_comm (lw (M 2 r * 60 - soC x (M 24) mk (M 0 6) r)) (riC (M 24) mk (M 0 6) r), ← Int.mul_assoc, Int.mul_comm ((M 2 r * 60 - soC x (M 24) mk (M 0 6) r) / riC (M 24) mk (M 0 6) r) (riC (M 24) mk (M 0 6) r)]
  have LA : ∀ (n9 : Nat) (l T : Int), (0 ≤ l) → (l ≤ M 0 6) → (T = mic (M 24) (M 8) 1000000 l.toNat) → M 0 6 - l < n9 → R LyM g mX8_rise (d + 2) 9 [some (vr 0), some (vl T), none, some (vl 1), none, some (vi l), none, none, none, none, none] [] M (fun r M' => r = some (vi (sg (stC (upto (M 24) x (fun _ => nhC x (M 24) mk (M 8) (M 2) (M 0 6) (M 0 1)) (M 0 6)) mk (M 8) (M 2) (M 0 6) (M 0 1) (M 24)) (M 0 6))) ∧ ∃ a b G K, M' = m27 M a b (stC (upto (M 24) x (fun _ => nhC x (M 24) mk (M 8) (M 2) (M 0 6) (M 0 1)) (M 0 6)) mk (M 8) (M 2) (M 0 6) (M 0 1) (M 24)) G K ∧ (∀ l, 0 ≤ l → l < M 0 6 → G l = tp ((upto (M 24) x (fun _ => nhC x (M 24) mk (M 8) (M 2) (M 0 6) (M 0 1)) (M 0 6)) l) ∧ K l = lw ((upto (M 24) x (fun _ => nhC x (M 24) mk (M 8) (M 2) (M 0 6) (M 0 1)) (M 0 6)) l))) := by
    intro n9
    induction n9 with
    | zero =>
      intro l T h0 h1 hT hm9
      omega
    | succ n9 ih =>
      intro l T h0 h1 hT hm9
      refine r_ld iX8_rise_9 rfl ?_
      refine r_aldn iX8_rise_11 rfl ?_
      refine r_geti 6 iX8_rise_12 flX8_100 rfl rfl rfl rfl ?_
      refine r_cge iX8_rise_15 (by omega) (fun h15 => ?_) (fun h15 => ?_)
      · refine r_con iX8_rise_60 ?_
        refine r_st iX8_rise_61 (by decide) rfl ?_
        have el : l = M 0 6 := by omega
        rw [el] at hT
        have hTb := mic_bd (p := M 24) (f := M 8) (c := 1000000) (by omega) (n := (M 0 6).toNat) (fun i i0 i1 _ => by have := (hL i i0 (by omega)).2.2.2.2; omega)
        have h60 := mic60 (ri := M 24) (sz := M 8) (n := (M 0 6).toNat) a0 (by omega) (by omega) (fun j j0 j1 => hsz j j0 (by omega))
        have L0 := LB 21 0 T 1 (M 0 31) (M 0 32) (by omega) (by omega) (by omega) (by omega) (by show T * 60 = mic (M 24) (fun l => M 8 l * 60) 6000 (M 0 6).toNat * 1; rw [h60, hT]; omega) (by omega)
        rw [m0_self] at L0
        exact L0
      · have hzl := S.z l h0 (by omega)
        have hll := hL l h0 (by omega)
        have hTb := mic_bd (p := M 24) (f := M 8) (c := 1000000) (by omega) (n := l.toNat) (fun i i0 i1 _ => by have := (hL i i0 (by omega)).2.2.2.2; omega)
        refine r_aldn iX8_rise_18 rfl ?_
        refine r_getr iX8_rise_19 flX8_83 rfl rfl ?_
        refine r_ld iX8_rise_22 rfl ?_
        refine r_zal iX8_rise_24 rfl (by omega) ?_
        refine r_ifeq iX8_rise_25 (by omega) (fun h25 => ?_) (fun h25 => ?_)
        · refine r_inc iX8_rise_54 rfl (by decide) rfl ?_
          refine r_goto iX8_rise_57 ?_
          exact ih (l + 1) _ (by omega) (by omega) (by rw [mic_1 h0, if_pos h25]; exact hT) (by omega)
        · refine r_aldn iX8_rise_28 rfl ?_
          refine r_getr iX8_rise_29 flX8_35 rfl rfl ?_
          refine r_ld iX8_rise_32 rfl ?_
          refine r_ial iX8_rise_34 rfl (by omega) ?_
          refine r_i2l iX8_rise_35 (by omega) ?_
          refine r_lldn iX8_rise_36 rfl ?_
          refine r_lmul iX8_rise_37 ?_
          refine r_lldn iX8_rise_38 rfl ?_
          refine r_lcmp iX8_rise_39 (by omega) ?_
          refine r_ifge iX8_rise_40 (by split <;> (try split) <;> omega) (fun h40 => ?_) (fun h40 => ?_)
          · rw [lc_ge] at h40
            refine r_inc iX8_rise_54 rfl (by decide) rfl ?_
            refine r_goto iX8_rise_57 ?_
            exact ih (l + 1) _ (by omega) (by omega) (by rw [mic_1 h0, if_neg h25, if_neg (by omega)]; exact hT) (by omega)
          · rw [lc_lt] at h40
            refine r_aldn iX8_rise_43 rfl ?_
            refine r_getr iX8_rise_44 flX8_35 rfl rfl ?_
            refine r_ld iX8_rise_47 rfl ?_
            refine r_ial iX8_rise_49 rfl (by omega) ?_
            refine r_i2l iX8_rise_50 (by omega) ?_
            refine r_lstn iX8_rise_51 (by decide) rfl ?_
            refine r_lcon (z := 1) iX8_rise_52 rfl ?_
            refine r_lstn iX8_rise_53 (by decide) rfl ?_
            refine r_inc iX8_rise_54 rfl (by decide) rfl ?_
            refine r_goto iX8_rise_57 ?_
            exact ih (l + 1) _ (by omega) (by omega) (by rw [mic_1 h0, if_neg h25, if_pos (by omega)]) (by omega)
  refine r_ldc2 (n := 1000000) iX8_rise_0 cnX8_226 (by decide) ?_
  refine r_lstn iX8_rise_3 (by decide) rfl ?_
  refine r_lcon (z := 1) iX8_rise_4 rfl ?_
  refine r_lstn iX8_rise_5 (by decide) rfl ?_
  refine r_con iX8_rise_6 ?_
  refine r_st iX8_rise_7 (by decide) rfl ?_
  exact LA 6 0 _ (by omega) (by omega) rfl (by omega)
end RN
