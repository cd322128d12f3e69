/-! the reference: one round of rising -/
theorem mic60 {ri sz : Int → Int} {n : Nat} {l0 : Int} (h0 : 0 ≤ l0) (h1 : l0 < n) (h2 : ri l0 ≠ 0) (hs : ∀ l : Int, 0 ≤ l → l < n → sz l ≤ 100) : mic ri (fun l => sz l * 60) 6000 n = mic ri sz 1000000 n * 60 := by
  have a1 := mic_lb (f := sz) (c := 1000000) l0 h0 h1 h2
  have a2 := hs l0 h0 h1
  rcases mic_at (p := ri) (f := sz) (c := 1000000) n with e | ⟨l, b0, b1, b2, b3⟩
  · omega
  · have c1 := mic_lb (f := fun l => sz l * 60) (c := 6000) l b0 b1 b2
    replace c1 : mic ri (fun l => sz l * 60) 6000 n ≤ sz l * 60 := c1
    rcases mic_at (p := ri) (f := fun l => sz l * 60) (c := 6000) n with e | ⟨j, d0, d1, d2, d3⟩
    · have := hs l b0 b1; omega
    · have c2 := mic_lb (f := sz) (c := 1000000) j d0 d1 d2
      replace d3 : mic ri (fun l => sz l * 60) 6000 n = sz j * 60 := d3
      omega
theorem cmp_fr {t y c w q T L hc : Int} (h1 : t * 60 = y * w) (h2 : y = c * q) (h3 : T * 60 = hc * L) (hw : 0 < w) (h0 : 0 < c) (hL : 0 < L) : (t * L < T * (w * c) ↔ q < hc) ∧ (t * L = T * (w * c) ↔ q = hc) := by
  have k : 0 < c * (w * L) := Int.mul_pos h0 (Int.mul_pos hw hL)
  have e1 : t * L * 60 = q * (c * (w * L)) := by
    calc t * L * 60 = (t * 60) * L := by rw [Int.mul_assoc, Int.mul_comm L, ← Int.mul_assoc]
      _ = (c * q) * w * L := by rw [h1, h2]
      _ = q * (c * (w * L)) := by rw [Int.mul_comm c q, Int.mul_assoc, Int.mul_assoc]
  have e2 : T * (w * c) * 60 = hc * (c * (w * L)) := by
    calc T * (w * c) * 60 = (T * 60) * (w * c) := by rw [Int.mul_assoc, Int.mul_comm (w * c), ← Int.mul_assoc]
      _ = hc * L * (w * c) := by rw [h3]
      _ = hc * (c * (w * L)) := by rw [Int.mul_assoc, Int.mul_comm w c, Int.mul_comm L, Int.mul_assoc]
  refine ⟨⟨fun h => ?_, fun h => ?_⟩, ⟨fun h => ?_, fun h => ?_⟩⟩
  · by_cases g : q < hc
    · exact g
    · have := Int.mul_le_mul_of_nonneg_right (show hc ≤ q by omega) (Int.le_of_lt k)
      omega
  · have := Int.mul_lt_mul_of_pos_right h k
    omega
  · refine Int.eq_of_mul_eq_mul_right (show c * (w * L) ≠ 0 by omega) ?_
    omega
  · rw [h] at e1; omega
theorem eq_fr {s h : Int} : s * lw h = tp h ↔ s * 60 = h := by
  have a := tp_lw h
  have b := lw_bd h
  refine ⟨fun e => ?_, fun e => ?_⟩
  · refine Int.eq_of_mul_eq_mul_right (show lw h ≠ 0 by omega) ?_
    rw [Int.mul_assoc, Int.mul_comm 60, ← Int.mul_assoc, e, a]
  · refine Int.eq_of_mul_eq_mul_right (show (60 : Int) ≠ 0 by decide) ?_
    rw [a, Int.mul_assoc, Int.mul_comm (lw h), ← Int.mul_assoc, e]
/-- with other numbers top, low, and other rows of shares -/
def m27 (M : Mem) (a b : Int) (R T L : Int → Int) : Mem := fun k => if k = 24 then R else if k = 26 then T else if k = 27 then L else m0 M a b k
theorem m27_i (M : Mem) (a b : Int) : m27 M a b (M 24) (M 26) (M 27) = m0 M a b := by
  funext k
  simp only [m27]
  by_cases h : k = 24
  · rw [if_pos h, h]; rfl
  · rw [if_neg h]
    by_cases h2 : k = 26
    · rw [if_pos h2, h2]; rfl
    · rw [if_neg h2]
      by_cases h3 : k = 27
      · rw [if_pos h3, h3]; rfl
      · rw [if_neg h3]
theorem m27_24 (M : Mem) (a b : Int) (R T L X : Int → Int) : mset (m27 M a b R T L) 24 X = m27 M a b X T L := by
  funext k
  simp only [mset, m27]
  by_cases h : k = 24
  · rw [if_pos h, if_pos h]
  · rw [if_neg h, if_neg h, if_neg h]
theorem m27_26 (M : Mem) (a b : Int) (R T L X : Int → Int) : mset (m27 M a b R T L) 26 X = m27 M a b R X L := by
  funext k
  simp only [mset, m27]
  by_cases h : k = 26
  · rw [if_pos h, if_pos h, if_neg (by omega)]
  · rw [if_neg h, if_neg h, if_neg h]
theorem m27_27 (M : Mem) (a b : Int) (R T L X : Int → Int) : mset (m27 M a b R T L) 27 X = m27 M a b R T X := by
  funext k
  simp only [mset, m27]
  by_cases h : k = 27
  · rw [if_pos h, if_pos h, if_neg (by omega), if_neg (by omega)]
  · rw [if_neg h, if_neg h, if_neg h]
theorem m27_a (M : Mem) (a b : Int) (R T L : Int → Int) : m27 M a b R T L 24 = R := rfl
theorem m27_b (M : Mem) (a b : Int) (R T L : Int → Int) : m27 M a b R T L 26 = T := rfl
theorem m27_c (M : Mem) (a b : Int) (R T L : Int → Int) : m27 M a b R T L 27 = L := rfl
theorem m27_6 (M : Mem) (a b : Int) (R T L : Int → Int) : m27 M a b R T L 0 6 = M 0 6 := rfl
theorem m27_1 (M : Mem) (a b : Int) (R T L : Int → Int) : m27 M a b R T L 0 1 = M 0 1 := rfl
theorem m27_8 (M : Mem) (a b : Int) (R T L : Int → Int) : m27 M a b R T L 8 = M 8 := rfl
theorem m0_self (M : Mem) : m0 M (M 0 31) (M 0 32) = M := by
  unfold m0
  refine mset_eq ?_
  funext j
  simp only [fset]
  by_cases h : j = 32
  · rw [if_pos h, h]
  · rw [if_neg h]
    by_cases h2 : j = 31
    · rw [if_pos h2, h2]
    · rw [if_neg h2]
theorem or_z (m : Int) (h : 0 ≤ m) : ((m.toNat ||| (0 : Int).toNat : Nat) : Int) = m := by
  show ((m.toNat ||| 0 : Nat) : Int) = m
  rw [Nat.or_zero]; omega
theorem sh_rng {s l : Int} (h : 0 ≤ s ∧ s < 32) : 0 ≤ s / 2 ^ l.toNat ∧ s / 2 ^ l.toNat ≤ 2147483647 := by
  have a := Int.ediv_nonneg h.1 (show (0 : Int) ≤ 2 ^ l.toNat from Int.le_of_lt (Int.pow_pos (by decide)))
  have b := Int.ediv_le_self (2 ^ l.toNat) h.1
  omega
section RN
variable {g : Gt} {M : Mem} {x mk : Int → Int}
theorem sX8_rise (d : Nat) (hp l0 : Int) (S : SR M x mk) (Hv : Iv mk (M 8) (M 2) (M 0 6) (M 0 1) x (M 24) hp) (a0 : 0 ≤ l0) (a1 : l0 < M 0 6) (a2 : M 24 l0 = 1) (hW : WBm M) (hN : NBm M) : Ex LyM g (d + 2) mX8_rise [vr 0] M (fun r M' => r = some (vi (sg (stC (upto (M 24) x (fun _ => nhC x (M 24) mk (M 8) (M 2) (M 0 6) (M 0 1)) (M 0 6)) mk (M 8) (M 2) (M 0 6) (M 0 1) (M 24)) (M 0 6))) ∧ ∃ a b F G K, M' = m27 M a b F G K ∧ (∀ l, 0 ≤ l → l < M 0 6 → F l = (stC (upto (M 24) x (fun _ => nhC x (M 24) mk (M 8) (M 2) (M 0 6) (M 0 1)) (M 0 6)) mk (M 8) (M 2) (M 0 6) (M 0 1) (M 24)) l ∧ G l = tp ((upto (M 24) x (fun _ => nhC x (M 24) mk (M 8) (M 2) (M 0 6) (M 0 1)) (M 0 6)) l) ∧ K l = lw ((upto (M 24) x (fun _ => nhC x (M 24) mk (M 8) (M 2) (M 0 6) (M 0 1)) (M 0 6)) l))) := by
  refine Ex.in [some (vr 0), none, none, none, none, none, none, none, none, none, none] (by decide +kernel) rfl (Nat.le_of_ble_eq_true rfl) ?_ rfl
  obtain ⟨hp0, hr, hl, hR, hL⟩ := id hN
  have hsz : ∀ l, 0 ≤ l → l < M 0 6 → M 8 l ≤ 100 := fun l z0 z1 => (hL l z0 z1).2.2.2.2.2
  obtain ⟨n1, n2, n3, n4⟩ := Hv.nh hsz hl.1 a0 a1 a2
  have hal : ∀ r, alC (upto (M 24) x (fun _ => nhC x (M 24) mk (M 8) (M 2) (M 0 6) (M 0 1)) (M 0 6)) mk (M 0 6) r = soC x (M 24) mk (M 0 6) r + riC (M 24) mk (M 0 6) r * nhC x (M 24) mk (M 8) (M 2) (M 0 6) (M 0 1) := fun r => by
    rw [al_eq Hv.z up_p r, so_up]
  have hx1 : ∀ l, 0 ≤ l → l < M 0 6 → (M 24 l = 0 ∧ (upto (M 24) x (fun _ => nhC x (M 24) mk (M 8) (M 2) (M 0 6) (M 0 1)) (M 0 6)) l = x l) ∨ (M 24 l = 1 ∧ (upto (M 24) x (fun _ => nhC x (M 24) mk (M 8) (M 2) (M 0 6) (M 0 1)) (M 0 6)) l = nhC x (M 24) mk (M 8) (M 2) (M 0 6) (M 0 1)) := fun l b0 b1 => by
    simp only [upto]
    rcases Hv.z l b0 b1 with q | q
    · left; exact ⟨q, if_neg (fun y => y.2.2 q)⟩
    · right; exact ⟨q, if_pos ⟨b0, b1, by omega⟩⟩
  have hst : ∀ l, 0 ≤ l → l < M 0 6 → _ := fun l b0 b1 => stC_c (sh := (upto (M 24) x (fun _ => nhC x (M 24) mk (M 8) (M 2) (M 0 6) (M 0 1)) (M 0 6))) (mk := mk) (sz := M 8) (rm := M 2) (ri := M 24) hr.1 b0 b1
  have hfe : ∀ r, 0 ≤ r → r < M 0 1 → soC x (M 24) mk (M 0 6) r ≤ M 2 r * 60 := fun r b0 b1 => by
    have c1 := Hv.f r b0 b1
    have c2 := Int.mul_nonneg (riC_nn (ri := M 24) (mk := mk) (r := r) hl.1) Hv.h
    omega
  have hb6 : 0 ≤ nhC x (M 24) mk (M 8) (M 2) (M 0 6) (M 0 1) ∧ nhC x (M 24) mk (M 8) (M 2) (M 0 6) (M 0 1) ≤ 6000 := by
    have c1 := n2 l0 a0 a1 a2
    have c2 := hsz l0 a0 a1
    have c3 := Hv.h
    omega
  have hrr : ∀ r, 0 ≤ riC (M 24) mk (M 0 6) r ∧ riC (M 24) mk (M 0 6) r ≤ 5 := fun r => by
    have c1 := ri_up (ri := M 24) (mk := mk) (r := r) hl.1
    have c2 := riC_nn (ri := M 24) (mk := mk) (r := r) hl.1
    omega
  have hyb : ∀ r, 0 ≤ r → r < M 0 1 → 0 ≤ (M 2 r * 60 - soC x (M 24) mk (M 0 6) r) ∧ (M 2 r * 60 - soC x (M 24) mk (M 0 6) r) ≤ 6000 := fun r b0 b1 => by
    have c1 := hfe r b0 b1
    have c2 := hR r b0 b1
    have c3 := (so_mono (x := x) (ri := M 24) (mk := mk) (r := r) (n := M 0 6) (i := M 0 6) hl.1 (by omega) (fun j j0 j1 => (S.b j j0 j1).1)).2
    omega
  have hoo : ∀ l, 0 ≤ l → l < M 0 6 → ∀ r, 0 ≤ r → r < M 0 1 → M 24 l = 1 → (hsM (M 12) (M 13) (8 * l + M 25 l) r ≠ 0 ↔ bt (mk l) r ≠ 0) := fun l b0 b1 r c0 c1 c2 => by
    have e1 := S.o l b0 b1 r c0 c1
    have e2 := S.r l b0 b1 c2
    exact ⟨fun q => e1.mp ⟨e2, q⟩, fun q => (e1.mpr q).2⟩
  have hdv : ∀ r, 0 < riC (M 24) mk (M 0 6) r → (M 2 r * 60 - soC x (M 24) mk (M 0 6) r) = riC (M 24) mk (M 0 6) r * ((M 2 r * 60 - soC x (M 24) mk (M 0 6) r) / riC (M 24) mk (M 0 6) r) := fun r h => (Int.mul_ediv_cancel' (Hv.ex h)).symm
  have LF : ∀ (s : Int), (0 ≤ s ∧ s < 32) → (∀ j, 0 ≤ j → j < M 0 6 → (bt s j ≠ 0 ↔ (M 24 j = 1 ∧ (M 8 j * 60 = nhC x (M 24) mk (M 8) (M 2) (M 0 6) (M 0 1) ∨ ∃ q, 0 ≤ q ∧ q < M 0 1 ∧ alC (upto (M 24) x (fun _ => nhC x (M 24) mk (M 8) (M 2) (M 0 6) (M 0 1)) (M 0 6)) mk (M 0 6) q = M 2 q * 60 ∧ bt (mk j) q ≠ 0)))) → ∀ (n9 : Nat) (l o a b : Int) (F G K : Int → Int) (c : Int) (w10 : Option MV), (0 ≤ l) → (l ≤ M 0 6) → (o = sg (stC (upto (M 24) x (fun _ => nhC x (M 24) mk (M 8) (M 2) (M 0 6) (M 0 1)) (M 0 6)) mk (M 8) (M 2) (M 0 6) (M 0 1) (M 24)) l) → (∀ j, 0 ≤ j → j < l → F j = (stC (upto (M 24) x (fun _ => nhC x (M 24) mk (M 8) (M 2) (M 0 6) (M 0 1)) (M 0 6)) mk (M 8) (M 2) (M 0 6) (M 0 1) (M 24)) j ∧ G j = tp ((upto (M 24) x (fun _ => nhC x (M 24) mk (M 8) (M 2) (M 0 6) (M 0 1)) (M 0 6)) j) ∧ K j = lw ((upto (M 24) x (fun _ => nhC x (M 24) mk (M 8) (M 2) (M 0 6) (M 0 1)) (M 0 6)) j)) → (∀ j, l ≤ j → j < M 0 6 → F j = M 24 j ∧ G j = M 26 j ∧ K j = M 27 j) → M 0 6 - l < n9 → R LyM g mX8_rise (d + 2) 309 [some (vr 0), some (vl (tp (nhC x (M 24) mk (M 8) (M 2) (M 0 6) (M 0 1)))), none, some (vl (lw (nhC x (M 24) mk (M 8) (M 2) (M 0 6) (M 0 1)))), none, some (vl c), none, some (vi s), some (vi o), some (vi l), w10] [] (m27 M a b F G K) (fun r M' => r = some (vi (sg (stC (upto (M 24) x (fun _ => nhC x (M 24) mk (M 8) (M 2) (M 0 6) (M 0 1)) (M 0 6)) mk (M 8) (M 2) (M 0 6) (M 0 1) (M 24)) (M 0 6))) ∧ ∃ a b F G K, M' = m27 M a b F G K ∧ (∀ l, 0 ≤ l → l < M 0 6 → F l = (stC (upto (M 24) x (fun _ => nhC x (M 24) mk (M 8) (M 2) (M 0 6) (M 0 1)) (M 0 6)) mk (M 8) (M 2) (M 0 6) (M 0 1) (M 24)) l ∧ G l = tp ((upto (M 24) x (fun _ => nhC x (M 24) mk (M 8) (M 2) (M 0 6) (M 0 1)) (M 0 6)) l) ∧ K l = lw ((upto (M 24) x (fun _ => nhC x (M 24) mk (M 8) (M 2) (M 0 6) (M 0 1)) (M 0 6)) l))) := by
    intro s hs hb n9
    induction n9 with
    | zero =>
      intro l o a b F G K c w10 h0 h1 ho hf hg hm9
      omega
    | succ n9 ih =>
      intro l o a b F G K c w10 h0 h1 ho hf hg hm9
      refine r_ld iX8_rise_309 rfl ?_
      refine r_aldn iX8_rise_311 rfl ?_
      refine r_geti 6 iX8_rise_312 flX8_100 rfl rfl rfl rfl ?_
      try simp only [m27_a, m27_b, m27_c, m27_6, m27_1, m27_8, m27_24, m27_26, m27_27, fset_s]
      refine r_cge iX8_rise_315 (by omega) (fun h315 => ?_) (fun h315 => ?_)
      · refine r_ld iX8_rise_392 rfl ?_
        refine r_iret iX8_rise_394 rfl ?_
        have el : l = M 0 6 := by omega
        rw [el] at ho hf
        exact ⟨by rw [ho], a, b, F, G, K, rfl, hf⟩
      · have hl6 : l < M 0 6 := h315
        have hgl := (hg l (by omega) hl6).1
        have hzl := S.z l h0 hl6
        have hbl := hb l h0 hl6
        refine r_aldn iX8_rise_318 rfl ?_
        refine r_getr iX8_rise_319 flX8_83 rfl rfl ?_
        refine r_ld iX8_rise_322 rfl ?_
        refine r_zal iX8_rise_324 rfl (by omega) ?_
        try simp only [m27_a, m27_b, m27_c, m27_6, m27_1, m27_8, m27_24, m27_26, m27_27, fset_s]
        rw [hgl]
        refine r_ifeq iX8_rise_325 (by omega) (fun h325 => ?_) (fun h325 => ?_)
        · refine r_inc iX8_rise_386 rfl (by decide) rfl ?_
          refine r_goto iX8_rise_389 ?_
          try simp only [m27_a, m27_b, m27_c, m27_6, m27_1, m27_8, m27_24, m27_26, m27_27, fset_s]
          have q1 : (stC (upto (M 24) x (fun _ => nhC x (M 24) mk (M 8) (M 2) (M 0 6) (M 0 1)) (M 0 6)) mk (M 8) (M 2) (M 0 6) (M 0 1) (M 24)) l = 0 := by rcases hst l h0 hl6 with q | q <;> omega
          have e9 : (upto (M 24) x (fun _ => nhC x (M 24) mk (M 8) (M 2) (M 0 6) (M 0 1)) (M 0 6)) l = x l := by have := hx1 l h0 hl6; omega
          have g9 := hg l (by omega) hl6
          refine ih (l + 1) _ a b F G K c _ (by omega) (by omega) (by rw [sg_1 h0, q1, Int.add_zero]; exact ho) (fun j j0 j1 => ?_) (fun j j0 j1 => hg j (by omega) j1) (by omega)
          by_cases e : j = l
          · subst e
            rw [q1, e9, g9.1, g9.2.1, g9.2.2]
            exact ⟨by omega, S.t j j0 hl6, S.w j j0 hl6⟩
          · exact hf j j0 (by omega)
        · have h24 : M 24 l = 1 := by omega
          have hxl : (upto (M 24) x (fun _ => nhC x (M 24) mk (M 8) (M 2) (M 0 6) (M 0 1)) (M 0 6)) l = nhC x (M 24) mk (M 8) (M 2) (M 0 6) (M 0 1) := by have := hx1 l h0 hl6; omega
          refine r_aldn iX8_rise_328 rfl ?_
          refine r_getr iX8_rise_329 flX8_90 rfl rfl ?_
          refine r_ld iX8_rise_332 rfl ?_
          refine r_lldn iX8_rise_334 rfl ?_
          refine r_las iX8_rise_335 rfl (by omega) ?_
          try simp only [m27_a, m27_b, m27_c, m27_6, m27_1, m27_8, m27_24, m27_26, m27_27, fset_s]
          refine r_aldn iX8_rise_336 rfl ?_
          refine r_getr iX8_rise_337 flX8_94 rfl rfl ?_
          refine r_ld iX8_rise_340 rfl ?_
          refine r_lldn iX8_rise_342 rfl ?_
          refine r_las iX8_rise_343 rfl (by omega) ?_
          try simp only [m27_a, m27_b, m27_c, m27_6, m27_1, m27_8, m27_24, m27_26, m27_27, fset_s]
          refine r_aldn iX8_rise_344 rfl ?_
          refine r_getr iX8_rise_345 flX8_83 rfl rfl ?_
          refine r_ld iX8_rise_348 rfl ?_
          refine r_ld iX8_rise_350 rfl ?_
          refine r_ld iX8_rise_352 rfl ?_
          refine r_shr iX8_rise_354 (by omega) (by omega) ?_
          refine r_con iX8_rise_355 ?_
          refine r_and1 iX8_rise_356 (sh_rng hs) ?_
          show R _ _ _ _ _ _ (vi (bt s l) :: _) _ _
          have hbr := bt_rng s l
          refine r_ifne iX8_rise_357 (by omega) (fun h357 => ?_) (fun h357 => ?_)
          · refine r_con iX8_rise_364 ?_
            try simp only [m27_a, m27_b, m27_c, m27_6, m27_1, m27_8, m27_24, m27_26, m27_27, fset_s]
            refine r_zas iX8_rise_365 rfl (by omega) (by omega) ?_
            try simp only [m27_a, m27_b, m27_c, m27_6, m27_1, m27_8, m27_24, m27_26, m27_27, fset_s]
            refine r_ld iX8_rise_366 rfl ?_
            refine r_aldn iX8_rise_368 rfl ?_
            refine r_getr iX8_rise_369 flX8_83 rfl rfl ?_
            refine r_ld iX8_rise_372 rfl ?_
            refine r_zal iX8_rise_374 rfl (by omega) ?_
            try simp only [m27_a, m27_b, m27_c, m27_6, m27_1, m27_8, m27_24, m27_26, m27_27, fset_s]
            refine r_ifeq iX8_rise_375 (by omega) (fun h375 => ?_) (fun h375 => ?_)
            · refine r_con iX8_rise_382 ?_
              refine r_add iX8_rise_383 ?_
              refine r_st iX8_rise_384 (by decide) rfl ?_
              refine r_inc iX8_rise_386 rfl (by decide) rfl ?_
              refine r_goto iX8_rise_389 ?_
              try simp only [m27_a, m27_b, m27_c, m27_6, m27_1, m27_8, m27_24, m27_26, m27_27, fset_s]
              have q1 : (stC (upto (M 24) x (fun _ => nhC x (M 24) mk (M 8) (M 2) (M 0 6) (M 0 1)) (M 0 6)) mk (M 8) (M 2) (M 0 6) (M 0 1) (M 24)) l = 0 := by
                have hb1 : (M 24 l = 1 ∧ (M 8 l * 60 = nhC x (M 24) mk (M 8) (M 2) (M 0 6) (M 0 1) ∨ ∃ q, 0 ≤ q ∧ q < M 0 1 ∧ alC (upto (M 24) x (fun _ => nhC x (M 24) mk (M 8) (M 2) (M 0 6) (M 0 1)) (M 0 6)) mk (M 0 6) q = M 2 q * 60 ∧ bt (mk l) q ≠ 0)) := hbl.mp (by omega)
                rcases hst l h0 hl6 with ⟨q2, q3⟩ | ⟨q2, q3, q4⟩
                · exact q2
                · rcases hb1.2 with q5 | ⟨q, q6, q7, q8, q9⟩
                  · exact absurd (by omega) q3
                  · exact absurd (q4 q q6 q7 q8) q9
              refine ih (l + 1) _ a b _ _ _ c _ (by omega) (by omega) (by rw [sg_1 h0, q1, ho]) (fun j j0 j1 => ?_) (fun j j0 j1 => by rw [fset_n (by omega), fset_n (by omega), fset_n (by omega)]; exact hg j (by omega) j1) (by omega)
              by_cases e : j = l
              · subst e
                rw [fset_s, fset_s, fset_s, q1, hxl]
                exact ⟨rfl, rfl, rfl⟩
              · rw [fset_n e, fset_n e, fset_n e]; exact hf j j0 (by omega)
            · refine r_con iX8_rise_378 ?_
              refine r_goto iX8_rise_379 ?_
              refine r_add iX8_rise_383 ?_
              refine r_st iX8_rise_384 (by decide) rfl ?_
              refine r_inc iX8_rise_386 rfl (by decide) rfl ?_
              refine r_goto iX8_rise_389 ?_
              try simp only [m27_a, m27_b, m27_c, m27_6, m27_1, m27_8, m27_24, m27_26, m27_27, fset_s]
              exfalso; omega
          · refine r_con iX8_rise_360 ?_
            refine r_goto iX8_rise_361 ?_
            try simp only [m27_a, m27_b, m27_c, m27_6, m27_1, m27_8, m27_24, m27_26, m27_27, fset_s]
            refine r_zas iX8_rise_365 rfl (by omega) (by omega) ?_
            try simp only [m27_a, m27_b, m27_c, m27_6, m27_1, m27_8, m27_24, m27_26, m27_27, fset_s]
            refine r_ld iX8_rise_366 rfl ?_
            refine r_aldn iX8_rise_368 rfl ?_
            refine r_getr iX8_rise_369 flX8_83 rfl rfl ?_
            refine r_ld iX8_rise_372 rfl ?_
            refine r_zal iX8_rise_374 rfl (by omega) ?_
            try simp only [m27_a, m27_b, m27_c, m27_6, m27_1, m27_8, m27_24, m27_26, m27_27, fset_s]
            refine r_ifeq iX8_rise_375 (by omega) (fun h375 => ?_) (fun h375 => ?_)
            · refine r_con iX8_rise_382 ?_
              refine r_add iX8_rise_383 ?_
              refine r_st iX8_rise_384 (by decide) rfl ?_
              refine r_inc iX8_rise_386 rfl (by decide) rfl ?_
              refine r_goto iX8_rise_389 ?_
              try simp only [m27_a, m27_b, m27_c, m27_6, m27_1, m27_8, m27_24, m27_26, m27_27, fset_s]
              exfalso; omega
            · refine r_con iX8_rise_378 ?_
              refine r_goto iX8_rise_379 ?_
              refine r_add iX8_rise_383 ?_
              refine r_st iX8_rise_384 (by decide) rfl ?_
              refine r_inc iX8_rise_386 rfl (by decide) rfl ?_
              refine r_goto iX8_rise_389 ?_
              try simp only [m27_a, m27_b, m27_c, m27_6, m27_1, m27_8, m27_24, m27_26, m27_27, fset_s]
              have q1 : (stC (upto (M 24) x (fun _ => nhC x (M 24) mk (M 8) (M 2) (M 0 6) (M 0 1)) (M 0 6)) mk (M 8) (M 2) (M 0 6) (M 0 1) (M 24)) l = 1 := by
                have hb0 : ¬ (M 24 l = 1 ∧ (M 8 l * 60 = nhC x (M 24) mk (M 8) (M 2) (M 0 6) (M 0 1) ∨ ∃ q, 0 ≤ q ∧ q < M 0 1 ∧ alC (upto (M 24) x (fun _ => nhC x (M 24) mk (M 8) (M 2) (M 0 6) (M 0 1)) (M 0 6)) mk (M 0 6) q = M 2 q * 60 ∧ bt (mk l) q ≠ 0)) := fun q => by have := hbl.mpr q; omega
                rcases hst l h0 hl6 with ⟨q2, q3⟩ | ⟨q2, q3, q4⟩
                · exact absurd ⟨h24, by rcases q3 with q5 | q5; left; omega; right; exact q5⟩ hb0
                · omega
              refine ih (l + 1) _ a b _ _ _ c _ (by omega) (by omega) (by rw [sg_1 h0, q1, ho]) (fun j j0 j1 => ?_) (fun j j0 j1 => by rw [fset_n (by omega), fset_n (by omega), fset_n (by omega)]; exact hg j (by omega) j1) (by omega)
              by_cases e : j = l
              · subst e
                rw [fset_s, fset_s, fset_s, q1, hxl]
                exact ⟨rfl, rfl, rfl⟩
              · rw [fset_n e, fset_n e, fset_n e]; exact hf j j0 (by omega)
  sorry
end RN
