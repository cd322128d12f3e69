/-! the reference's words -/
def NBm (M : Mem) : Prop := (1 ≤ M 0 0 ∧ M 0 0 ≤ 9) ∧ (0 ≤ M 0 1 ∧ M 0 1 ≤ 20) ∧ (0 ≤ M 0 6 ∧ M 0 6 ≤ 5) ∧
  (∀ r, 0 ≤ r → r < M 0 1 → (0 ≤ M 1 (2 * r) ∧ M 1 (2 * r) < M 1 (2 * r + 1) ∧ M 1 (2 * r + 1) < M 0 0) ∧ (0 ≤ M 2 r ∧ M 2 r ≤ 100) ∧ (0 ≤ M 3 r ∧ M 3 r ≤ 50) ∧ (0 ≤ M 4 r ∧ M 4 r ≤ 20)) ∧
  (∀ l, 0 ≤ l → l < M 0 6 → (0 ≤ M 5 l ∧ M 5 l ≤ 2) ∧ (0 ≤ M 6 l ∧ M 6 l < M 0 0) ∧ (0 ≤ M 7 l ∧ M 7 l < M 0 0) ∧ M 6 l ≠ M 7 l ∧ (1 ≤ M 8 l ∧ M 8 l ≤ 100))
def VM (M : Mem) (s : Int) : Prop := (1 ≤ M 12 s ∧ M 12 s ≤ 8) ∧ ∀ k, 0 ≤ k → k < M 12 s → 0 ≤ M 13 (8 * s + k) ∧ M 13 (8 * s + k) < M 0 1
def WBm (M : Mem) : Prop := ∀ l, 0 ≤ l → l < M 0 6 → (0 ≤ M 11 l ∧ M 11 l ≤ 8) ∧ ∀ i, 0 ≤ i → i < M 11 l → VM M (8 * l + i)
def AVm (M : Mem) : Prop := ∀ l, 0 ≤ l → l < M 0 6 → ∀ i, 0 ≤ i → i < 8 → 0 ≤ M 10 (8 * l + i) ∧ M 10 (8 * l + i) ≤ 100
/-- 1 if r is one of f 0 .. f (n-1), else 0 -/
def hsI (f : Int → Int) (r : Int) : Nat → Int
  | 0 => 0
  | n + 1 => if hsI f r n ≠ 0 ∨ f n = r then 1 else 0
theorem hsI_1 {f : Int → Int} {r i : Int} (h : 0 ≤ i) : hsI f r (i + 1).toNat = if hsI f r i.toNat ≠ 0 ∨ f i = r then 1 else 0 := by
  rw [show (i + 1).toNat = i.toNat + 1 by omega]
  simp only [hsI]
  rw [show ((i.toNat : Nat) : Int) = i by omega]
theorem hsI_z (f : Int → Int) (r : Int) : ∀ n : Nat, hsI f r n = 0 ∨ hsI f r n = 1
  | 0 => Or.inl rfl
  | n + 1 => by simp only [hsI]; split <;> omega
theorem hsI_iff {f : Int → Int} {r : Int} : ∀ {n : Nat}, hsI f r n ≠ 0 ↔ ∃ k : Int, 0 ≤ k ∧ k < n ∧ f k = r
  | 0 => ⟨fun h => absurd rfl h, fun ⟨k, h0, h1, _⟩ => by omega⟩
  | n + 1 => by
    have ih := hsI_iff (f := f) (r := r) (n := n)
    simp only [hsI]
    constructor
    · intro h
      by_cases hc : hsI f r n ≠ 0 ∨ f n = r
      · rcases hc with hc | hc
        · obtain ⟨k, a, b, c⟩ := ih.mp hc
          exact ⟨k, a, by omega, c⟩
        · exact ⟨n, by omega, by omega, hc⟩
      · rw [if_neg hc] at h; exact absurd rfl h
    · rintro ⟨k, a, b, c⟩
      rw [if_pos]
      · decide
      · by_cases e : k = n
        · exact Or.inr (by rw [← e]; exact c)
        · exact Or.inl (ih.mpr ⟨k, a, by omega, c⟩)
def hsM (wl wr : Int → Int) (s r : Int) : Int := hsI (fun k => wr (8 * s + k)) r (wl s).toNat
theorem hsM_z (wl wr : Int → Int) (s r : Int) : hsM wl wr s r = 0 ∨ hsM wl wr s r = 1 := hsI_z _ _ _
def prM (wl wr pr : Int → Int) (rc s : Int) : Int := sg (fun r => if hsM wl wr s r = 0 then 0 else pr r) rc
def usM (wm wl wr am : Int → Int) (lc r : Int) : Int := sg (fun l => sg (fun i => if hsM wl wr (8 * l + i) r = 0 then 0 else am (8 * l + i)) (wm l)) lc
def ovM (wm wl wr am rm : Int → Int) (lc r : Int) : Int := if 0 < usM wm wl wr am lc r - rm r then usM wm wl wr am lc r - rm r else 0
def seM (wm am : Int → Int) (l : Int) : Int := sg (fun i => am (8 * l + i)) (wm l)
def nzM (wm am : Int → Int) (l : Int) : Int := sg (fun i => if 0 < am (8 * l + i) then 1 else 0) (wm l)
theorem sg_nn {f : Int → Int} {n hi : Int} (hn : 0 ≤ n) (hh : 0 ≤ hi) (e : ∀ i : Int, 0 ≤ i → i < n → 0 ≤ f i ∧ f i ≤ hi) {k : Int} (hk : n ≤ k) : 0 ≤ sg f n ∧ sg f n ≤ hi * k := by
  have := sg_bd hn e
  have h2 : hi * n ≤ hi * k := Int.mul_le_mul_of_nonneg_left hk hh
  omega
theorem usM_bd {M : Mem} (hW : WBm M) (hA : AVm M) (hl : 0 ≤ M 0 6 ∧ M 0 6 ≤ 5) (r : Int) : 0 ≤ usM (M 11) (M 12) (M 13) (M 10) (M 0 6) r ∧ usM (M 11) (M 12) (M 13) (M 10) (M 0 6) r ≤ 4000 := by
  have h1 := sg_nn (f := fun l => sg (fun i => if hsM (M 12) (M 13) (8 * l + i) r = 0 then 0 else M 10 (8 * l + i)) (M 11 l)) (n := M 0 6) (hi := 800) hl.1 (by omega) (fun l h0 h1 => by
    have hw := hW l h0 h1
    have := sg_nn (f := fun i => if hsM (M 12) (M 13) (8 * l + i) r = 0 then 0 else M 10 (8 * l + i)) (n := M 11 l) (hi := 100) hw.1.1 (by omega) (fun i h2 h3 => by have := hA l h0 h1 i h2 (by omega); split <;> omega) (k := 8) hw.1.2
    omega) (k := 5) hl.2
  unfold usM
  omega
theorem ovM_bd {M : Mem} (hN : NBm M) (hW : WBm M) (hA : AVm M) {r : Int} (hr : 0 ≤ r ∧ r < M 0 1) : 0 ≤ ovM (M 11) (M 12) (M 13) (M 10) (M 2) (M 0 6) r ∧ ovM (M 11) (M 12) (M 13) (M 10) (M 2) (M 0 6) r ≤ 4000 := by
  have := usM_bd hW hA hN.2.2.1 r
  have := hN.2.2.2.1 r hr.1 hr.2
  unfold ovM
  split <;> omega
theorem seM_bd {M : Mem} (hW : WBm M) (hA : AVm M) {l : Int} (hl : 0 ≤ l ∧ l < M 0 6) : 0 ≤ seM (M 11) (M 10) l ∧ seM (M 11) (M 10) l ≤ 800 := by
  have hw := hW l hl.1 hl.2
  have := sg_nn (f := fun i => M 10 (8 * l + i)) (n := M 11 l) (hi := 100) hw.1.1 (by omega) (fun i h2 h3 => hA l hl.1 hl.2 i h2 (by omega)) (k := 8) hw.1.2
  unfold seM
  omega
theorem nzM_bd {M : Mem} (hW : WBm M) {l : Int} (hl : 0 ≤ l ∧ l < M 0 6) : 0 ≤ nzM (M 11) (M 10) l ∧ nzM (M 11) (M 10) l ≤ 8 := by
  have hw := hW l hl.1 hl.2
  have := sg_nn (f := fun i => if 0 < M 10 (8 * l + i) then 1 else 0) (n := M 11 l) (hi := 1) hw.1.1 (by omega) (fun i h2 h3 => by split <;> omega) (k := 8) hw.1.2
  unfold nzM
  omega
theorem prM_bd {M : Mem} (hN : NBm M) (s : Int) : 0 ≤ prM (M 12) (M 13) (M 3) (M 0 1) s ∧ prM (M 12) (M 13) (M 3) (M 0 1) s ≤ 1000 := by
  have := sg_nn (f := fun r => if hsM (M 12) (M 13) s r = 0 then 0 else M 3 r) (n := M 0 1) (hi := 50) hN.2.1.1 (by omega) (fun i h2 h3 => by have := hN.2.2.2.1 i h2 h3; split <;> omega) (k := 20) hN.2.1.2
  unfold prM
  omega
section RA
variable {g : Gt} {M : Mem}
theorem sX8_isPost (d : Nat) (r : Int) (hr0 : -2147483648 ≤ r ∧ r ≤ 2147483647) (hN : NBm M) : Ex LyM g (d) mX8_isPost [vr 0, vi r] M (PI (if 0 ≤ r ∧ r < M 0 0 then 1 else 0) M) := by
  refine Ex.in [some (vr 0), some (vi r)] (by decide +kernel) rfl (Nat.le_of_ble_eq_true rfl) ?_ rfl
  obtain ⟨hp0, hr, hl, hR, hL⟩ := id hN
  refine r_ldn iX8_isPost_0 rfl ?_
  refine r_iflt iX8_isPost_1 (by omega) (fun h1 => ?_) (fun h1 => ?_)
  · refine r_con iX8_isPost_16 ?_
    refine r_zret iX8_isPost_17 rfl (by omega) ?_
    first | exact ⟨by rw [if_pos (by omega)], rfl⟩ | exact ⟨by rw [if_neg (by omega)], rfl⟩
  · refine r_ldn iX8_isPost_4 rfl ?_
    refine r_aldn iX8_isPost_5 rfl ?_
    refine r_geti 0 iX8_isPost_6 flX8_7 rfl rfl rfl rfl ?_
    refine r_cge iX8_isPost_9 (by omega) (fun h9 => ?_) (fun h9 => ?_)
    · refine r_con iX8_isPost_16 ?_
      refine r_zret iX8_isPost_17 rfl (by omega) ?_
      first | exact ⟨by rw [if_pos (by omega)], rfl⟩ | exact ⟨by rw [if_neg (by omega)], rfl⟩
    · refine r_con iX8_isPost_12 ?_
      refine r_goto iX8_isPost_13 ?_
      refine r_zret iX8_isPost_17 rfl (by omega) ?_
      first | exact ⟨by rw [if_pos (by omega)], rfl⟩ | exact ⟨by rw [if_neg (by omega)], rfl⟩
theorem sX8_isRoad (d : Nat) (r : Int) (hr0 : -2147483648 ≤ r ∧ r ≤ 2147483647) (hN : NBm M) : Ex LyM g (d) mX8_isRoad [vr 0, vi r] M (PI (if 0 ≤ r ∧ r < M 0 1 then 1 else 0) M) := by
  refine Ex.in [some (vr 0), some (vi r)] (by decide +kernel) rfl (Nat.le_of_ble_eq_true rfl) ?_ rfl
  obtain ⟨hp0, hr, hl, hR, hL⟩ := id hN
  refine r_ldn iX8_isRoad_0 rfl ?_
  refine r_iflt iX8_isRoad_1 (by omega) (fun h1 => ?_) (fun h1 => ?_)
  · refine r_con iX8_isRoad_16 ?_
    refine r_zret iX8_isRoad_17 rfl (by omega) ?_
    first | exact ⟨by rw [if_pos (by omega)], rfl⟩ | exact ⟨by rw [if_neg (by omega)], rfl⟩
  · refine r_ldn iX8_isRoad_4 rfl ?_
    refine r_aldn iX8_isRoad_5 rfl ?_
    refine r_geti 1 iX8_isRoad_6 flX8_97 rfl rfl rfl rfl ?_
    refine r_cge iX8_isRoad_9 (by omega) (fun h9 => ?_) (fun h9 => ?_)
    · refine r_con iX8_isRoad_16 ?_
      refine r_zret iX8_isRoad_17 rfl (by omega) ?_
      first | exact ⟨by rw [if_pos (by omega)], rfl⟩ | exact ⟨by rw [if_neg (by omega)], rfl⟩
    · refine r_con iX8_isRoad_12 ?_
      refine r_goto iX8_isRoad_13 ?_
      refine r_zret iX8_isRoad_17 rfl (by omega) ?_
      first | exact ⟨by rw [if_pos (by omega)], rfl⟩ | exact ⟨by rw [if_neg (by omega)], rfl⟩
theorem sX8_isLoad (d : Nat) (r : Int) (hr0 : -2147483648 ≤ r ∧ r ≤ 2147483647) (hN : NBm M) : Ex LyM g (d) mX8_isLoad [vr 0, vi r] M (PI (if 0 ≤ r ∧ r < M 0 6 then 1 else 0) M) := by
  refine Ex.in [some (vr 0), some (vi r)] (by decide +kernel) rfl (Nat.le_of_ble_eq_true rfl) ?_ rfl
  obtain ⟨hp0, hr, hl, hR, hL⟩ := id hN
  refine r_ldn iX8_isLoad_0 rfl ?_
  refine r_iflt iX8_isLoad_1 (by omega) (fun h1 => ?_) (fun h1 => ?_)
  · refine r_con iX8_isLoad_16 ?_
    refine r_zret iX8_isLoad_17 rfl (by omega) ?_
    first | exact ⟨by rw [if_pos (by omega)], rfl⟩ | exact ⟨by rw [if_neg (by omega)], rfl⟩
  · refine r_ldn iX8_isLoad_4 rfl ?_
    refine r_aldn iX8_isLoad_5 rfl ?_
    refine r_geti 6 iX8_isLoad_6 flX8_100 rfl rfl rfl rfl ?_
    refine r_cge iX8_isLoad_9 (by omega) (fun h9 => ?_) (fun h9 => ?_)
    · refine r_con iX8_isLoad_16 ?_
      refine r_zret iX8_isLoad_17 rfl (by omega) ?_
      first | exact ⟨by rw [if_pos (by omega)], rfl⟩ | exact ⟨by rw [if_neg (by omega)], rfl⟩
    · refine r_con iX8_isLoad_12 ?_
      refine r_goto iX8_isLoad_13 ?_
      refine r_zret iX8_isLoad_17 rfl (by omega) ?_
      first | exact ⟨by rw [if_pos (by omega)], rfl⟩ | exact ⟨by rw [if_neg (by omega)], rfl⟩
theorem sX8_isWay (d : Nat) (l i : Int) (hl0 : 0 ≤ l ∧ l < 5) (hi : -2147483648 ≤ i ∧ i ≤ 2147483647) (hc : 0 ≤ M 11 l ∧ M 11 l ≤ 8) : Ex LyM g (d) mX8_isWay [vr 0, vi l, vi i] M (PI (if 0 ≤ i ∧ i < M 11 l then 1 else 0) M) := by
  refine Ex.in [some (vr 0), some (vi l), some (vi i)] (by decide +kernel) rfl (Nat.le_of_ble_eq_true rfl) ?_ rfl
  refine r_ldn iX8_isWay_0 rfl ?_
  refine r_iflt iX8_isWay_1 (by omega) (fun h1 => ?_) (fun h1 => ?_)
  · refine r_con iX8_isWay_18 ?_
    refine r_zret iX8_isWay_19 rfl (by omega) ?_
    first | exact ⟨by rw [if_pos (by omega)], rfl⟩ | exact ⟨by rw [if_neg (by omega)], rfl⟩
  · refine r_ldn iX8_isWay_4 rfl ?_
    refine r_aldn iX8_isWay_5 rfl ?_
    refine r_getr iX8_isWay_6 flX8_44 rfl rfl ?_
    refine r_ldn iX8_isWay_9 rfl ?_
    refine r_ial iX8_isWay_10 rfl (by omega) ?_
    refine r_cge iX8_isWay_11 (by omega) (fun h11 => ?_) (fun h11 => ?_)
    · refine r_con iX8_isWay_18 ?_
      refine r_zret iX8_isWay_19 rfl (by omega) ?_
      first | exact ⟨by rw [if_pos (by omega)], rfl⟩ | exact ⟨by rw [if_neg (by omega)], rfl⟩
    · refine r_con iX8_isWay_14 ?_
      refine r_goto iX8_isWay_15 ?_
      refine r_zret iX8_isWay_19 rfl (by omega) ?_
      first | exact ⟨by rw [if_pos (by omega)], rfl⟩ | exact ⟨by rw [if_neg (by omega)], rfl⟩
theorem sX8_in (d : Nat) (a b c : Int) (h : (-2147483648 ≤ a ∧ a ≤ 2147483647) ∧ (-2147483648 ≤ b ∧ b ≤ 2147483647) ∧ (-2147483648 ≤ c ∧ c ≤ 2147483647)) : Ex LyM g (d) mX8_in [vi a, vi b, vi c] M (PI (if b ≤ a ∧ a ≤ c then 1 else 0) M) := by
  refine Ex.in [some (vi a), some (vi b), some (vi c)] (by decide +kernel) rfl (Nat.le_of_ble_eq_true rfl) ?_ rfl
  refine r_ldn iX8_in_0 rfl ?_
  refine r_ldn iX8_in_1 rfl ?_
  refine r_clt iX8_in_2 (by omega) (fun h2 => ?_) (fun h2 => ?_)
  · refine r_con iX8_in_14 ?_
    refine r_zret iX8_in_15 rfl (by omega) ?_
    first | exact ⟨by rw [if_pos (by omega)], rfl⟩ | exact ⟨by rw [if_neg (by omega)], rfl⟩
  · refine r_ldn iX8_in_5 rfl ?_
    refine r_ldn iX8_in_6 rfl ?_
    refine r_cgt iX8_in_7 (by omega) (fun h7 => ?_) (fun h7 => ?_)
    · refine r_con iX8_in_14 ?_
      refine r_zret iX8_in_15 rfl (by omega) ?_
      first | exact ⟨by rw [if_pos (by omega)], rfl⟩ | exact ⟨by rw [if_neg (by omega)], rfl⟩
    · refine r_con iX8_in_10 ?_
      refine r_goto iX8_in_11 ?_
      refine r_zret iX8_in_15 rfl (by omega) ?_
      first | exact ⟨by rw [if_pos (by omega)], rfl⟩ | exact ⟨by rw [if_neg (by omega)], rfl⟩
theorem sX8_beyond (d : Nat) (r p : Int) (hr0 : 0 ≤ r ∧ r < M 0 1) (hp : -2147483648 ≤ p ∧ p ≤ 2147483647) (hN : NBm M) : Ex LyM g (d) mX8_beyond [vr 0, vi r, vi p] M (PI (nxt (fun r => M 1 (2 * r)) (fun r => M 1 (2 * r + 1)) r p) M) := by
  refine Ex.in [some (vr 0), some (vi r), some (vi p)] (by decide +kernel) rfl (Nat.le_of_ble_eq_true rfl) ?_ rfl
  obtain ⟨hp0, hr, hl, hR, hL⟩ := id hN
  have hri := hR r hr0.1 hr0.2
  refine r_aldn iX8_beyond_0 rfl ?_
  refine r_getr iX8_beyond_1 flX8_13 rfl rfl ?_
  refine r_con iX8_beyond_4 ?_
  refine r_ldn iX8_beyond_5 rfl ?_
  refine r_mul iX8_beyond_6 ?_
  refine r_ial iX8_beyond_7 rfl (by omega) ?_
  refine r_ldn iX8_beyond_8 rfl ?_
  refine r_cne iX8_beyond_9 (by omega) (fun h9 => ?_) (fun h9 => ?_)
  · refine r_aldn iX8_beyond_25 rfl ?_
    refine r_getr iX8_beyond_26 flX8_13 rfl rfl ?_
    refine r_con iX8_beyond_29 ?_
    refine r_ldn iX8_beyond_30 rfl ?_
    refine r_mul iX8_beyond_31 ?_
    refine r_con iX8_beyond_32 ?_
    refine r_add iX8_beyond_33 ?_
    refine r_ial iX8_beyond_34 rfl (by omega) ?_
    refine r_ldn iX8_beyond_35 rfl ?_
    refine r_cne iX8_beyond_36 (by omega) (fun h36 => ?_) (fun h36 => ?_)
    · refine r_con iX8_beyond_50 ?_
      refine r_iret iX8_beyond_51 rfl ?_
      exact ⟨by simp [nxt, *], rfl⟩
    · refine r_aldn iX8_beyond_39 rfl ?_
      refine r_getr iX8_beyond_40 flX8_13 rfl rfl ?_
      refine r_con iX8_beyond_43 ?_
      refine r_ldn iX8_beyond_44 rfl ?_
      refine r_mul iX8_beyond_45 ?_
      refine r_ial iX8_beyond_46 rfl (by omega) ?_
      refine r_goto iX8_beyond_47 ?_
      refine r_iret iX8_beyond_51 rfl ?_
      exact ⟨by simp [nxt, *], rfl⟩
  · refine r_aldn iX8_beyond_12 rfl ?_
    refine r_getr iX8_beyond_13 flX8_13 rfl rfl ?_
    refine r_con iX8_beyond_16 ?_
    refine r_ldn iX8_beyond_17 rfl ?_
    refine r_mul iX8_beyond_18 ?_
    refine r_con iX8_beyond_19 ?_
    refine r_add iX8_beyond_20 ?_
    refine r_ial iX8_beyond_21 rfl (by omega) ?_
    refine r_goto iX8_beyond_22 ?_
    refine r_iret iX8_beyond_51 rfl ?_
    exact ⟨by simp [nxt, *], rfl⟩
theorem sX8_has (d : Nat) (l i r : Int) (hs : 0 ≤ 8 * l + i ∧ 8 * l + i < 40) (hv : VM M (8 * l + i)) (hr0 : -2147483648 ≤ r ∧ r ≤ 2147483647) (hrc : M 0 1 ≤ 20) : Ex LyM g (d) mX8_has [vr 0, vi l, vi i, vi r] M (PI (hsM (M 12) (M 13) (8 * l + i) r) M) := by
  refine Ex.in [some (vr 0), some (vi l), some (vi i), some (vi r), none, none] (by decide +kernel) rfl (Nat.le_of_ble_eq_true rfl) ?_ rfl
  obtain ⟨v1, v2⟩ := hv
  have L : ∀ (n9 : Nat) (k a : Int), (0 ≤ k) → (k ≤ M 12 (8 * l + i)) → (a = hsI (fun k => M 13 (8 * (8 * l + i) + k)) r k.toNat) → M 12 (8 * l + i) - k < n9 → R LyM g mX8_has (d) 6 [some (vr 0), some (vi l), some (vi i), some (vi r), some (vi a), some (vi k)] [] M (PI (hsM (M 12) (M 13) (8 * l + i) r) M) := by
    intro n9
    induction n9 with
    | zero =>
      intro k a h0 h1 ha hm9
      omega
    | succ n9 ih =>
      intro k a h0 h1 ha hm9
      refine r_ld iX8_has_6 rfl ?_
      refine r_aldn iX8_has_8 rfl ?_
      refine r_getr iX8_has_9 flX8_47 rfl rfl ?_
      refine r_bip iX8_has_12 (by decide) ?_
      refine r_ldn iX8_has_14 rfl ?_
      refine r_mul iX8_has_15 ?_
      refine r_ldn iX8_has_16 rfl ?_
      refine r_add iX8_has_17 ?_
      refine r_ial iX8_has_18 rfl (by omega) ?_
      refine r_cge iX8_has_19 (by omega) (fun h19 => ?_) (fun h19 => ?_)
      · refine r_ld iX8_has_61 rfl ?_
        refine r_zret iX8_has_63 rfl (by have hz := hsI_z (fun k => M 13 (8 * (8 * l + i) + k)) r k.toNat; omega) ?_
        exact ⟨by rw [ha, show k = M 12 (8 * l + i) by omega] <;> rfl, rfl⟩
      · have hz := hsI_z (fun k => M 13 (8 * (8 * l + i) + k)) r k.toNat
        have hvk := v2 k h0 (by omega)
        refine r_ld iX8_has_22 rfl ?_
        refine r_ifne iX8_has_24 (by omega) (fun h24 => ?_) (fun h24 => ?_)
        · refine r_con iX8_has_48 ?_
          refine r_goto iX8_has_49 ?_
          refine r_st iX8_has_53 (by decide) rfl ?_
          refine r_inc iX8_has_55 rfl (by decide) rfl ?_
          refine r_goto iX8_has_58 ?_
          exact ih (k + 1) _ (by omega) (by omega) (by rw [hsI_1 h0, ← ha, if_pos (Or.inl h24)]) (by omega)
        · refine r_aldn iX8_has_27 rfl ?_
          refine r_getr iX8_has_28 flX8_50 rfl rfl ?_
          refine r_bip iX8_has_31 (by decide) ?_
          refine r_bip iX8_has_33 (by decide) ?_
          refine r_ldn iX8_has_35 rfl ?_
          refine r_mul iX8_has_36 ?_
          refine r_ldn iX8_has_37 rfl ?_
          refine r_add iX8_has_38 ?_
          refine r_mul iX8_has_39 ?_
          refine r_ld iX8_has_40 rfl ?_
          refine r_add iX8_has_42 ?_
          refine r_ial iX8_has_43 rfl (by omega) ?_
          refine r_ldn iX8_has_44 rfl ?_
          refine r_cne iX8_has_45 (by omega) (fun h45 => ?_) (fun h45 => ?_)
          · refine r_con iX8_has_52 ?_
            refine r_st iX8_has_53 (by decide) rfl ?_
            refine r_inc iX8_has_55 rfl (by decide) rfl ?_
            refine r_goto iX8_has_58 ?_
            exact ih (k + 1) _ (by omega) (by omega) (by rw [hsI_1 h0, ← ha, if_neg (by omega)]) (by omega)
          · refine r_con iX8_has_48 ?_
            refine r_goto iX8_has_49 ?_
            refine r_st iX8_has_53 (by decide) rfl ?_
            refine r_inc iX8_has_55 rfl (by decide) rfl ?_
            refine r_goto iX8_has_58 ?_
            exact ih (k + 1) _ (by omega) (by omega) (by rw [hsI_1 h0, ← ha, if_pos (Or.inr h45)]) (by omega)
  refine r_con iX8_has_0 ?_
  refine r_st iX8_has_1 (by decide) rfl ?_
  refine r_con iX8_has_3 ?_
  refine r_st iX8_has_4 (by decide) rfl ?_
  exact L 9 0 0 (by omega) (by omega) rfl (by omega)
theorem sX8_priceOf (d : Nat) (l j : Int) (hs : 0 ≤ 8 * l + j ∧ 8 * l + j < 40) (hv : VM M (8 * l + j)) (hN : NBm M) : Ex LyM g (d + 1) mX8_priceOf [vr 0, vi l, vi j] M (PI (prM (M 12) (M 13) (M 3) (M 0 1) (8 * l + j)) M) := by
  refine Ex.in [some (vr 0), some (vi l), some (vi j), none, none] (by decide +kernel) rfl (Nat.le_of_ble_eq_true rfl) ?_ rfl
  obtain ⟨hp0, hr, hl, hR, hL⟩ := id hN
  have L : ∀ (n9 : Nat) (i a : Int), (0 ≤ i) → (i ≤ M 0 1) → (a = sg (fun r => if hsM (M 12) (M 13) (8 * l + j) r = 0 then 0 else M 3 r) i) → M 0 1 - i < n9 → R LyM g mX8_priceOf (d + 1) 5 [some (vr 0), some (vi l), some (vi j), some (vi a), some (vi i)] [] M (PI (prM (M 12) (M 13) (M 3) (M 0 1) (8 * l + j)) M) := by
    intro n9
    induction n9 with
    | zero =>
      intro i a h0 h1 ha hm9
      omega
    | succ n9 ih =>
      intro i a h0 h1 ha hm9
      refine r_ld iX8_priceOf_5 rfl ?_
      refine r_aldn iX8_priceOf_7 rfl ?_
      refine r_geti 1 iX8_priceOf_8 flX8_97 rfl rfl rfl rfl ?_
      refine r_cge iX8_priceOf_11 (by omega) (fun h11 => ?_) (fun h11 => ?_)
      · refine r_ldn iX8_priceOf_45 rfl ?_
        refine r_iret iX8_priceOf_46 rfl ?_
        exact ⟨by rw [ha, show i = M 0 1 by omega] <;> rfl, rfl⟩
      · have hz := hsM_z (M 12) (M 13) (8 * l + j) i
        refine r_ldn iX8_priceOf_14 rfl ?_
        refine r_aldn iX8_priceOf_15 rfl ?_
        refine r_ldn iX8_priceOf_16 rfl ?_
        refine r_ldn iX8_priceOf_17 rfl ?_
        refine r_ld iX8_priceOf_18 rfl ?_
        refine call_V3i iX8_priceOf_20 clX8_118 myX8_has rfl rfl rfl rfl (sX8_has _ _ _ _ (by omega) hv (by omega) (by omega)) ?_
        refine r_ifeq iX8_priceOf_23 (by omega) (fun h23 => ?_) (fun h23 => ?_)
        · refine r_con iX8_priceOf_36 ?_
          refine r_add iX8_priceOf_37 ?_
          refine r_stn iX8_priceOf_38 (by decide) rfl ?_
          refine r_inc iX8_priceOf_39 rfl (by decide) rfl ?_
          refine r_goto iX8_priceOf_42 ?_
          exact ih (i + 1) _ (by omega) (by omega) (by rw [sg_1 h0, ha, if_pos h23]) (by omega)
        · refine r_aldn iX8_priceOf_26 rfl ?_
          refine r_getr iX8_priceOf_27 flX8_20 rfl rfl ?_
          refine r_ld iX8_priceOf_30 rfl ?_
          refine r_ial iX8_priceOf_32 rfl (by omega) ?_
          refine r_goto iX8_priceOf_33 ?_
          refine r_add iX8_priceOf_37 ?_
          refine r_stn iX8_priceOf_38 (by decide) rfl ?_
          refine r_inc iX8_priceOf_39 rfl (by decide) rfl ?_
          refine r_goto iX8_priceOf_42 ?_
          exact ih (i + 1) _ (by omega) (by omega) (by rw [sg_1 h0, ha, if_neg h23]) (by omega)
  refine r_con iX8_priceOf_0 ?_
  refine r_stn iX8_priceOf_1 (by decide) rfl ?_
  refine r_con iX8_priceOf_2 ?_
  refine r_st iX8_priceOf_3 (by decide) rfl ?_
  exact L 21 0 0 (by omega) (by omega) rfl (by omega)
theorem sX8_used (d : Nat) (r : Int) (hr0 : -2147483648 ≤ r ∧ r ≤ 2147483647) (hW : WBm M) (hN : NBm M) : Ex LyM g (d + 1) mX8_used [vr 0, vi r] M (PI (usM (M 11) (M 12) (M 13) (M 10) (M 0 6) r) M) := by
  refine Ex.in [some (vr 0), some (vi r), none, none, none] (by decide +kernel) rfl (Nat.le_of_ble_eq_true rfl) ?_ rfl
  obtain ⟨hp0, hr, hl, hR, hL⟩ := id hN
  have L : ∀ (n9 : Nat) (l a : Int) (w : Option MV), (0 ≤ l) → (l ≤ M 0 6) → (a = sg (fun l => sg (fun i => if hsM (M 12) (M 13) (8 * l + i) r = 0 then 0 else M 10 (8 * l + i)) (M 11 l)) l) → M 0 6 - l < n9 → R LyM g mX8_used (d + 1) 4 [some (vr 0), some (vi r), some (vi a), some (vi l), w] [] M (PI (usM (M 11) (M 12) (M 13) (M 10) (M 0 6) r) M) := by
    intro n9
    induction n9 with
    | zero =>
      intro l a w h0 h1 ha hm9
      omega
    | succ n9 ih =>
      intro l a w h0 h1 ha hm9
      have hwl := fun (hl6 : l < M 0 6) => hW l h0 hl6
      have I : ∀ (n8 : Nat) (i a : Int), (0 ≤ i) → (i ≤ M 11 l) → (l < M 0 6) → (a = sg (fun l => sg (fun i => if hsM (M 12) (M 13) (8 * l + i) r = 0 then 0 else M 10 (8 * l + i)) (M 11 l)) l + sg (fun i => if hsM (M 12) (M 13) (8 * l + i) r = 0 then 0 else M 10 (8 * l + i)) i) → M 11 l - i < n8 → R LyM g mX8_used (d + 1) 15 [some (vr 0), some (vi r), some (vi a), some (vi l), some (vi i)] [] M (PI (usM (M 11) (M 12) (M 13) (M 10) (M 0 6) r) M) := by
        intro n8
        induction n8 with
        | zero =>
          intro i a h0i h1i hl6 hai hm9
          omega
        | succ n8 ih2 =>
          intro i a h0i h1i hl6 hai hm9
          refine r_ld iX8_used_15 rfl ?_
          refine r_aldn iX8_used_17 rfl ?_
          refine r_getr iX8_used_18 flX8_44 rfl rfl ?_
          refine r_ldn iX8_used_21 rfl ?_
          refine r_ial iX8_used_22 rfl (by omega) ?_
          have hwb := (hwl hl6).1
          refine r_cge iX8_used_23 (by omega) (fun h23 => ?_) (fun h23 => ?_)
          · refine r_inc iX8_used_62 rfl (by decide) rfl ?_
            refine r_goto iX8_used_65 ?_
            rw [show i = M 11 l by omega] at hai
            exact ih (l + 1) a _ (by omega) (by omega) (by rw [sg_1 h0]; exact hai) (by omega)
          · have hvi := (hwl hl6).2 i h0i (by omega)
            have hz := hsM_z (M 12) (M 13) (8 * l + i) r
            refine r_ldn iX8_used_26 rfl ?_
            refine r_aldn iX8_used_27 rfl ?_
            refine r_ldn iX8_used_28 rfl ?_
            refine r_ld iX8_used_29 rfl ?_
            refine r_ldn iX8_used_31 rfl ?_
            refine call_V3i iX8_used_32 clX8_118 myX8_has rfl rfl rfl rfl (sX8_has _ _ _ _ (by omega) hvi (by omega) (by omega)) ?_
            refine r_ifeq iX8_used_35 (by omega) (fun h35 => ?_) (fun h35 => ?_)
            · refine r_con iX8_used_53 ?_
              refine r_add iX8_used_54 ?_
              refine r_stn iX8_used_55 (by decide) rfl ?_
              refine r_inc iX8_used_56 rfl (by decide) rfl ?_
              refine r_goto iX8_used_59 ?_
              exact ih2 (i + 1) _ (by omega) (by omega) hl6 (by rw [sg_1 h0i, hai, if_pos h35, Int.add_assoc]) (by omega)
            · refine r_aldn iX8_used_38 rfl ?_
              refine r_getr iX8_used_39 flX8_41 rfl rfl ?_
              refine r_bip iX8_used_42 (by decide) ?_
              refine r_ldn iX8_used_44 rfl ?_
              refine r_mul iX8_used_45 ?_
              refine r_ld iX8_used_46 rfl ?_
              refine r_add iX8_used_48 ?_
              refine r_ial iX8_used_49 rfl (by omega) ?_
              refine r_goto iX8_used_50 ?_
              refine r_add iX8_used_54 ?_
              refine r_stn iX8_used_55 (by decide) rfl ?_
              refine r_inc iX8_used_56 rfl (by decide) rfl ?_
              refine r_goto iX8_used_59 ?_
              exact ih2 (i + 1) _ (by omega) (by omega) hl6 (by rw [sg_1 h0i, hai, if_neg h35, Int.add_assoc]) (by omega)
      refine r_ldn iX8_used_4 rfl ?_
      refine r_aldn iX8_used_5 rfl ?_
      refine r_geti 6 iX8_used_6 flX8_100 rfl rfl rfl rfl ?_
      refine r_cge iX8_used_9 (by omega) (fun h9 => ?_) (fun h9 => ?_)
      · refine r_ldn iX8_used_68 rfl ?_
        refine r_iret iX8_used_69 rfl ?_
        exact ⟨by rw [ha, show l = M 0 6 by omega] <;> rfl, rfl⟩
      · refine r_con iX8_used_12 ?_
        refine r_st iX8_used_13 (by decide) rfl ?_
        have hwl2 := hwl (by omega)
        exact I 9 0 a (by omega) (by omega) (by omega) (by rw [sg_0, Int.add_zero]; exact ha) (by omega)
  refine r_con iX8_used_0 ?_
  refine r_stn iX8_used_1 (by decide) rfl ?_
  refine r_con iX8_used_2 ?_
  refine r_stn iX8_used_3 (by decide) rfl ?_
  exact L 6 0 0 _ (by omega) (by omega) rfl (by omega)
theorem sX8_overOf (d : Nat) (r : Int) (hr0 : 0 ≤ r ∧ r < M 0 1) (hW : WBm M) (hA : AVm M) (hN : NBm M) : Ex LyM g (d + 2) mX8_overOf [vr 0, vi r] M (PI (ovM (M 11) (M 12) (M 13) (M 10) (M 2) (M 0 6) r) M) := by
  refine Ex.in [some (vr 0), some (vi r), none] (by decide +kernel) rfl (Nat.le_of_ble_eq_true rfl) ?_ rfl
  obtain ⟨hp0, hr, hl, hR, hL⟩ := id hN
  have hub := usM_bd hW hA hl r
  have hri := hR r hr0.1 hr0.2
  refine r_aldn iX8_overOf_0 rfl ?_
  refine r_ldn iX8_overOf_1 rfl ?_
  refine call_V1i iX8_overOf_2 clX8_135 myX8_used rfl rfl rfl rfl (sX8_used _ _ (by omega) hW hN) ?_
  refine r_aldn iX8_overOf_5 rfl ?_
  refine r_getr iX8_overOf_6 flX8_17 rfl rfl ?_
  refine r_ldn iX8_overOf_9 rfl ?_
  refine r_ial iX8_overOf_10 rfl (by omega) ?_
  refine r_sub iX8_overOf_11 ?_
  refine r_stn iX8_overOf_12 (by decide) rfl ?_
  refine r_ldn iX8_overOf_13 rfl ?_
  refine r_ifle iX8_overOf_14 (by omega) (fun h14 => ?_) (fun h14 => ?_)
  · refine r_con iX8_overOf_21 ?_
    refine r_iret iX8_overOf_22 rfl ?_
    exact ⟨by unfold ovM; rw [if_neg (by omega)], rfl⟩
  · refine r_ldn iX8_overOf_17 rfl ?_
    refine r_goto iX8_overOf_18 ?_
    refine r_iret iX8_overOf_22 rfl ?_
    exact ⟨by unfold ovM; rw [if_pos h14], rfl⟩
theorem sX8_sentOf (d : Nat) (l : Int) (hl0 : 0 ≤ l ∧ l < M 0 6) (hW : WBm M) (hN : NBm M) : Ex LyM g (d) mX8_sentOf [vr 0, vi l] M (PI (seM (M 11) (M 10) l) M) := by
  refine Ex.in [some (vr 0), some (vi l), none, none] (by decide +kernel) rfl (Nat.le_of_ble_eq_true rfl) ?_ rfl
  obtain ⟨hp0, hr, hl, hR, hL⟩ := id hN
  have hwl := hW l hl0.1 hl0.2
  have L : ∀ (n9 : Nat) (i a : Int), (0 ≤ i) → (i ≤ M 11 l) → (a = sg (fun i => M 10 (8 * l + i)) i) → M 11 l - i < n9 → R LyM g mX8_sentOf (d) 4 [some (vr 0), some (vi l), some (vi a), some (vi i)] [] M (PI (seM (M 11) (M 10) l) M) := by
    intro n9
    induction n9 with
    | zero =>
      intro i a h0 h1 ha hm9
      omega
    | succ n9 ih =>
      intro i a h0 h1 ha hm9
      refine r_ldn iX8_sentOf_4 rfl ?_
      refine r_aldn iX8_sentOf_5 rfl ?_
      refine r_getr iX8_sentOf_6 flX8_44 rfl rfl ?_
      refine r_ldn iX8_sentOf_9 rfl ?_
      refine r_ial iX8_sentOf_10 rfl (by omega) ?_
      refine r_cge iX8_sentOf_11 (by omega) (fun h11 => ?_) (fun h11 => ?_)
      · refine r_ldn iX8_sentOf_34 rfl ?_
        refine r_iret iX8_sentOf_35 rfl ?_
        exact ⟨by rw [ha, show i = M 11 l by omega] <;> rfl, rfl⟩
      · refine r_ldn iX8_sentOf_14 rfl ?_
        refine r_aldn iX8_sentOf_15 rfl ?_
        refine r_getr iX8_sentOf_16 flX8_41 rfl rfl ?_
        refine r_bip iX8_sentOf_19 (by decide) ?_
        refine r_ldn iX8_sentOf_21 rfl ?_
        refine r_mul iX8_sentOf_22 ?_
        refine r_ldn iX8_sentOf_23 rfl ?_
        refine r_add iX8_sentOf_24 ?_
        refine r_ial iX8_sentOf_25 rfl (by omega) ?_
        refine r_add iX8_sentOf_26 ?_
        refine r_stn iX8_sentOf_27 (by decide) rfl ?_
        refine r_inc iX8_sentOf_28 rfl (by decide) rfl ?_
        refine r_goto iX8_sentOf_31 ?_
        exact ih (i + 1) _ (by omega) (by omega) (by rw [sg_1 h0, ha]) (by omega)
  refine r_con iX8_sentOf_0 ?_
  refine r_stn iX8_sentOf_1 (by decide) rfl ?_
  refine r_con iX8_sentOf_2 ?_
  refine r_stn iX8_sentOf_3 (by decide) rfl ?_
  exact L 9 0 0 (by omega) (by omega) rfl (by omega)
theorem sX8_amountMany (d : Nat) (l : Int) (hl0 : 0 ≤ l ∧ l < M 0 6) (hW : WBm M) (hA : AVm M) (hN : NBm M) : Ex LyM g (d) mX8_amountMany [vr 0, vi l] M (PI (nzM (M 11) (M 10) l) M) := by
  refine Ex.in [some (vr 0), some (vi l), none, none] (by decide +kernel) rfl (Nat.le_of_ble_eq_true rfl) ?_ rfl
  obtain ⟨hp0, hr, hl, hR, hL⟩ := id hN
  have hwl := hW l hl0.1 hl0.2
  have L : ∀ (n9 : Nat) (i a : Int), (0 ≤ i) → (i ≤ M 11 l) → (a = sg (fun i => if 0 < M 10 (8 * l + i) then 1 else 0) i) → M 11 l - i < n9 → R LyM g mX8_amountMany (d) 4 [some (vr 0), some (vi l), some (vi a), some (vi i)] [] M (PI (nzM (M 11) (M 10) l) M) := by
    intro n9
    induction n9 with
    | zero =>
      intro i a h0 h1 ha hm9
      omega
    | succ n9 ih =>
      intro i a h0 h1 ha hm9
      refine r_ldn iX8_amountMany_4 rfl ?_
      refine r_aldn iX8_amountMany_5 rfl ?_
      refine r_getr iX8_amountMany_6 flX8_44 rfl rfl ?_
      refine r_ldn iX8_amountMany_9 rfl ?_
      refine r_ial iX8_amountMany_10 rfl (by omega) ?_
      refine r_cge iX8_amountMany_11 (by omega) (fun h11 => ?_) (fun h11 => ?_)
      · refine r_ldn iX8_amountMany_42 rfl ?_
        refine r_iret iX8_amountMany_43 rfl ?_
        exact ⟨by rw [ha, show i = M 11 l by omega] <;> rfl, rfl⟩
      · have hai := hA l hl0.1 hl0.2 i h0 (by omega)
        refine r_ldn iX8_amountMany_14 rfl ?_
        refine r_aldn iX8_amountMany_15 rfl ?_
        refine r_getr iX8_amountMany_16 flX8_41 rfl rfl ?_
        refine r_bip iX8_amountMany_19 (by decide) ?_
        refine r_ldn iX8_amountMany_21 rfl ?_
        refine r_mul iX8_amountMany_22 ?_
        refine r_ldn iX8_amountMany_23 rfl ?_
        refine r_add iX8_amountMany_24 ?_
        refine r_ial iX8_amountMany_25 rfl (by omega) ?_
        refine r_ifle iX8_amountMany_26 (by omega) (fun h26 => ?_) (fun h26 => ?_)
        · refine r_con iX8_amountMany_33 ?_
          refine r_add iX8_amountMany_34 ?_
          refine r_stn iX8_amountMany_35 (by decide) rfl ?_
          refine r_inc iX8_amountMany_36 rfl (by decide) rfl ?_
          refine r_goto iX8_amountMany_39 ?_
          exact ih (i + 1) _ (by omega) (by omega) (by rw [sg_1 h0, ha, if_neg (by omega)]) (by omega)
        · refine r_con iX8_amountMany_29 ?_
          refine r_goto iX8_amountMany_30 ?_
          refine r_add iX8_amountMany_34 ?_
          refine r_stn iX8_amountMany_35 (by decide) rfl ?_
          refine r_inc iX8_amountMany_36 rfl (by decide) rfl ?_
          refine r_goto iX8_amountMany_39 ?_
          exact ih (i + 1) _ (by omega) (by omega) (by rw [sg_1 h0, ha, if_pos h26]) (by omega)
  refine r_con iX8_amountMany_0 ?_
  refine r_stn iX8_amountMany_1 (by decide) rfl ?_
  refine r_con iX8_amountMany_2 ?_
  refine r_stn iX8_amountMany_3 (by decide) rfl ?_
  exact L 9 0 0 (by omega) (by omega) rfl (by omega)
end RA
