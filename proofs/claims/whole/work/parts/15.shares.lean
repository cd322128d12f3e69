/-! filling, shares -/
def upto (p f v : Int → Int) (i : Int) : Int → Int := fun l => if 0 ≤ l ∧ l < i ∧ p l ≠ 0 then v l else f l
theorem upto_0 (p f v : Int → Int) : upto p f v 0 = f := by funext l; simp only [upto]; rw [if_neg (by omega)]
theorem upto_y {p f v : Int → Int} {i : Int} (h : 0 ≤ i) (hp : p i ≠ 0) : fset (upto p f v i) i (v i) = upto p f v (i + 1) := by
  funext l
  simp only [upto, fset]
  by_cases hl : l = i
  · subst hl; rw [if_pos rfl, if_pos ⟨h, by omega, hp⟩]
  · rw [if_neg hl]
    by_cases h2 : 0 ≤ l ∧ l < i ∧ p l ≠ 0
    · rw [if_pos h2, if_pos ⟨h2.1, by omega, h2.2.2⟩]
    · rw [if_neg h2, if_neg (fun z => h2 ⟨z.1, by omega, z.2.2⟩)]
theorem upto_n {p f v : Int → Int} {i : Int} (hp : p i = 0) : upto p f v (i + 1) = upto p f v i := by
  funext l
  simp only [upto]
  by_cases h2 : 0 ≤ l ∧ l < i ∧ p l ≠ 0
  · rw [if_pos h2, if_pos ⟨h2.1, by omega, h2.2.2⟩]
  · rw [if_neg h2, if_neg (fun z => h2 ⟨z.1, by rcases Int.lt_or_eq_of_le (Int.lt_add_one_iff.mp z.2.1) with q | q; exact q; rw [q] at z; exact absurd hp z.2.2, z.2.2⟩)]
theorem upto_at {p f v : Int → Int} {i j : Int} (h : ¬ (0 ≤ j ∧ j < i)) : upto p f v i j = f j := by
  simp only [upto]
  rw [if_neg (fun z => h ⟨z.1, z.2.1⟩)]
/-- the least of c and of f at those of 0 .. n-1 where p isn't 0 -/
def mic (p f : Int → Int) (c : Int) : Nat → Int
  | 0 => c
  | n + 1 => if p n = 0 then mic p f c n else if f n < mic p f c n then f n else mic p f c n
theorem mic_1 {p f : Int → Int} {c i : Int} (h : 0 ≤ i) : mic p f c (i + 1).toNat = if p i = 0 then mic p f c i.toNat else if f i < mic p f c i.toNat then f i else mic p f c i.toNat := by
  rw [show (i + 1).toNat = i.toNat + 1 by omega]
  simp only [mic]
  rw [show ((i.toNat : Nat) : Int) = i by omega]
/-- shares: how many rise on a road, what is stopped there, what is there -/
def riC (ri mk : Int → Int) (lc r : Int) : Int := sg (fun l => if ri l = 0 then 0 else if bt (mk l) r = 0 then 0 else 1) lc
def soC (sh ri mk : Int → Int) (lc r : Int) : Int := sg (fun l => if ri l = 0 then (if bt (mk l) r = 0 then 0 else sh l) else 0) lc
def alC (sh mk : Int → Int) (lc r : Int) : Int := sg (fun l => if bt (mk l) r = 0 then 0 else sh l) lc
def nhC (sh ri mk sz rm : Int → Int) (lc rc : Int) : Int := mic (fun r => riC ri mk lc r) (fun r => (rm r * 60 - soC sh ri mk lc r) / riC ri mk lc r) (mic ri (fun l => sz l * 60) 6000 lc.toNat) rc.toNat
def stR (sh mk rm : Int → Int) (lc : Int) (ri : Int → Int) : Nat → Int → Int
  | 0 => ri
  | n + 1 => if alC sh mk lc n = rm n * 60 then upto (fun l => bt (mk l) n) (stR sh mk rm lc ri n) (fun _ => 0) lc else stR sh mk rm lc ri n
theorem stR_1 {sh mk rm : Int → Int} {lc : Int} {ri : Int → Int} {i : Int} (h : 0 ≤ i) : stR sh mk rm lc ri (i + 1).toNat = if alC sh mk lc i = rm i * 60 then upto (fun l => bt (mk l) i) (stR sh mk rm lc ri i.toNat) (fun _ => 0) lc else stR sh mk rm lc ri i.toNat := by
  rw [show (i + 1).toNat = i.toNat + 1 by omega]
  simp only [stR]
  rw [show ((i.toNat : Nat) : Int) = i by omega]
def stC (sh mk sz rm : Int → Int) (lc rc : Int) (ri : Int → Int) : Int → Int := upto (fun l => if sh l = sz l * 60 then 1 else 0) (stR sh mk rm lc ri rc.toNat) (fun _ => 0) lc
theorem stR_z {sh mk rm : Int → Int} {lc : Int} {ri : Int → Int} (h : ∀ l, 0 ≤ l → l < 5 → ri l = 0 ∨ ri l = 1) : ∀ n : Nat, ∀ l, 0 ≤ l → l < 5 → stR sh mk rm lc ri n l = 0 ∨ stR sh mk rm lc ri n l = 1
  | 0 => h
  | n + 1 => by
    intro l h0 h1
    have := stR_z (sh := sh) (mk := mk) (rm := rm) (lc := lc) h n l h0 h1
    simp only [stR]
    split
    · simp only [upto]
      split
      · exact Or.inl rfl
      · exact this
    · exact this
/-- the numbers with which shares are reckoned -/
def SH (M : Mem) : Prop := ∀ l, 0 ≤ l → l < 5 → (0 ≤ M 48 l ∧ M 48 l ≤ 6000) ∧ (0 ≤ M 49 l ∧ M 49 l < 1048576) ∧ (M 50 l = 0 ∨ M 50 l = 1)
theorem ri_bd {M : Mem} (hN : NB M) (r : Int) : 0 ≤ riC (M 50) (M 49) (M 1 2) r ∧ riC (M 50) (M 49) (M 1 2) r ≤ 5 := by
  have := hN.2.2.1
  have h1 := sg_bd (f := fun l => if M 50 l = 0 then 0 else if bt (M 49 l) r = 0 then 0 else 1) (lo := 0) (hi := 1) (n := M 1 2) (by omega) (fun i h0 h1 => by split <;> (try split) <;> omega)
  unfold riC
  omega
theorem so_bd {M : Mem} (hN : NB M) (hS : SH M) (r : Int) : 0 ≤ soC (M 48) (M 50) (M 49) (M 1 2) r ∧ soC (M 48) (M 50) (M 49) (M 1 2) r ≤ 30000 := by
  have := hN.2.2.1
  have h1 := sg_bd (f := fun l => if M 50 l = 0 then (if bt (M 49 l) r = 0 then 0 else M 48 l) else 0) (lo := 0) (hi := 6000) (n := M 1 2) (by omega) (fun i h0 h1 => by have := (hS i h0 (by omega)).1; split <;> (try split) <;> omega)
  unfold soC
  omega
theorem al_bd {M : Mem} (hN : NB M) (hS : SH M) (r : Int) : 0 ≤ alC (M 48) (M 49) (M 1 2) r ∧ alC (M 48) (M 49) (M 1 2) r ≤ 30000 := by
  have := hN.2.2.1
  have h1 := sg_bd (f := fun l => if bt (M 49 l) r = 0 then 0 else M 48 l) (lo := 0) (hi := 6000) (n := M 1 2) (by omega) (fun i h0 h1 => by have := (hS i h0 (by omega)).1; split <;> omega)
  unfold alC
  omega
theorem mic_bd {p f : Int → Int} {c : Int} (hc : 0 ≤ c) : ∀ {n : Nat}, (∀ i : Int, 0 ≤ i → i < n → p i ≠ 0 → 0 ≤ f i) → 0 ≤ mic p f c n ∧ mic p f c n ≤ c
  | 0, _ => by simp [mic]; exact hc
  | n + 1, h => by
    have ih := mic_bd hc (n := n) (fun i h0 h1 => h i h0 (by omega))
    simp only [mic]
    split
    · exact ih
    · have := h n (by omega) (by omega) (by assumption)
      split <;> omega
/-- the least number that makes a count of sixtieths whole -/
def blw (x : Int) : Nat → Int
  | 0 => 60
  | k + 1 => if x * (59 - k) % 60 = 0 then 59 - (k : Int) else blw x k
theorem blw_1 (x : Int) (k : Nat) : blw x (k + 1) = if x * (59 - k) % 60 = 0 then 59 - (k : Int) else blw x k := rfl
section LH
variable {g : Gt} {M : Mem}
theorem sX5_goesOver (d : Nat) (s r : Int) (hs : 0 ≤ s ∧ s < 5) (hr : 0 ≤ r ∧ r ≤ 31) (hm : 0 ≤ M 49 s ∧ M 49 s ≤ 2147483647) : Ex LyC g d mX5_goesOver [vr 47, vi s, vi r] M (PI (if bt (M 49 s) r = 0 then 0 else 1) M) := by
  refine Ex.in [some (vr 47), some (vi s), some (vi r)] (by decide +kernel) rfl (Nat.le_of_ble_eq_true rfl) ?_ rfl
  refine r_aldn iX5_goesOver_0 rfl ?_
  refine r_getr iX5_goesOver_1 flX5_15 rfl rfl ?_
  refine r_ldn iX5_goesOver_4 rfl ?_
  refine r_ial iX5_goesOver_5 rfl (by omega) ?_
  refine r_ldn iX5_goesOver_6 rfl ?_
  refine r_shr iX5_goesOver_7 (by omega) (by omega) ?_
  refine r_con iX5_goesOver_8 ?_
  refine r_and1 iX5_goesOver_9 (dv_rng hm) ?_
  refine r_ifeq iX5_goesOver_10 (by omega) (fun h10 => ?_) (fun h10 => ?_)
  · refine r_con iX5_goesOver_17 ?_
    refine r_zret iX5_goesOver_18 rfl (by omega) ?_
    first | exact ⟨by unfold bt; rw [if_pos h10], rfl⟩ | exact ⟨by unfold bt; rw [if_neg h10], rfl⟩
  · refine r_con iX5_goesOver_13 ?_
    refine r_goto iX5_goesOver_14 ?_
    refine r_zret iX5_goesOver_18 rfl (by omega) ?_
    first | exact ⟨by unfold bt; rw [if_pos h10], rfl⟩ | exact ⟨by unfold bt; rw [if_neg h10], rfl⟩
theorem sX5_risingOn (d : Nat) (r : Int) (hr0 : 0 ≤ r ∧ r < M 1 1) (hS : SH M) (hN : NB M) : Ex LyC g (d + 1) mX5_risingOn [vr 47, vr 1, vi r] M (PI (riC (M 50) (M 49) (M 1 2) r) M) := by
  refine Ex.in [some (vr 47), some (vr 1), some (vi r), none, none] (by decide +kernel) rfl (Nat.le_of_ble_eq_true rfl) ?_ rfl
  obtain ⟨hp0, hr, hl, hR, hL⟩ := id hN
  have L : ∀ (n9 : Nat) (i a : Int), (0 ≤ i) → (i ≤ M 1 2) → (a = sg (fun l => if M 50 l = 0 then 0 else if bt (M 49 l) r = 0 then 0 else 1) i) → M 1 2 - i < n9 → R LyC g mX5_risingOn (d + 1) 5 [some (vr 47), some (vr 1), some (vi r), some (vi a), some (vi i)] [] M (PI (riC (M 50) (M 49) (M 1 2) r) M) := by
    intro n9
    induction n9 with
    | zero =>
      intro i a h0 h1 ha hm9
      omega
    | succ n9 ih =>
      intro i a h0 h1 ha hm9
      refine r_ld iX5_risingOn_5 rfl ?_
      refine r_aldn iX5_risingOn_7 rfl ?_
      refine r_geti 2 iX5_risingOn_8 flX5_22 rfl rfl rfl rfl ?_
      refine r_cge iX5_risingOn_11 (by omega) (fun h11 => ?_) (fun h11 => ?_)
      · refine r_ldn iX5_risingOn_43 rfl ?_
        refine r_iret iX5_risingOn_44 rfl ?_
        exact ⟨by rw [ha, show i = M 1 2 by omega] <;> rfl, rfl⟩
      · have hsi := hS i h0 (by omega)
        refine r_aldn iX5_risingOn_14 rfl ?_
        refine r_getr iX5_risingOn_15 flX5_18 rfl rfl ?_
        refine r_ld iX5_risingOn_18 rfl ?_
        refine r_zal iX5_risingOn_20 rfl (by omega) ?_
        refine r_ifeq iX5_risingOn_21 (by omega) (fun h21 => ?_) (fun h21 => ?_)
        · refine r_inc iX5_risingOn_37 rfl (by decide) rfl ?_
          refine r_goto iX5_risingOn_40 ?_
          exact ih (i + 1) _ (by omega) (by omega) (by rw [sg_1 h0, ha, if_pos h21, Int.add_zero]) (by omega)
        · refine r_aldn iX5_risingOn_24 rfl ?_
          refine r_ld iX5_risingOn_25 rfl ?_
          refine r_ldn iX5_risingOn_27 rfl ?_
          refine call_V2i iX5_risingOn_28 clX5_90 myX5_goesOver rfl rfl rfl rfl (sX5_goesOver _ _ _ (by omega) (by omega) (by omega)) ?_
          refine r_ifeq iX5_risingOn_31 (by split <;> omega) (fun h31 => ?_) (fun h31 => ?_)
          · rw [ite01] at h31
            refine r_inc iX5_risingOn_37 rfl (by decide) rfl ?_
            refine r_goto iX5_risingOn_40 ?_
            exact ih (i + 1) _ (by omega) (by omega) (by rw [sg_1 h0, ha, if_neg h21, if_pos h31, Int.add_zero]) (by omega)
          · rw [ne_eq, ite01] at h31
            refine r_inc iX5_risingOn_34 rfl (by decide) rfl ?_
            refine r_inc iX5_risingOn_37 rfl (by decide) rfl ?_
            refine r_goto iX5_risingOn_40 ?_
            exact ih (i + 1) _ (by omega) (by omega) (by rw [sg_1 h0, ha, if_neg h21, if_neg h31]) (by omega)
  refine r_con iX5_risingOn_0 ?_
  refine r_stn iX5_risingOn_1 (by decide) rfl ?_
  refine r_con iX5_risingOn_2 ?_
  refine r_st iX5_risingOn_3 (by decide) rfl ?_
  exact L 6 0 0 (by omega) (by omega) rfl (by omega)
theorem sX5_stoppedOn (d : Nat) (r : Int) (hr0 : 0 ≤ r ∧ r < M 1 1) (hS : SH M) (hN : NB M) : Ex LyC g (d + 1) mX5_stoppedOn [vr 47, vr 1, vi r] M (PI (soC (M 48) (M 50) (M 49) (M 1 2) r) M) := by
  refine Ex.in [some (vr 47), some (vr 1), some (vi r), none, none] (by decide +kernel) rfl (Nat.le_of_ble_eq_true rfl) ?_ rfl
  obtain ⟨hp0, hr, hl, hR, hL⟩ := id hN
  have L : ∀ (n9 : Nat) (i a : Int), (0 ≤ i) → (i ≤ M 1 2) → (a = sg (fun l => if M 50 l = 0 then (if bt (M 49 l) r = 0 then 0 else M 48 l) else 0) i) → M 1 2 - i < n9 → R LyC g mX5_stoppedOn (d + 1) 5 [some (vr 47), some (vr 1), some (vi r), some (vi a), some (vi i)] [] M (PI (soC (M 48) (M 50) (M 49) (M 1 2) r) M) := by
    intro n9
    induction n9 with
    | zero =>
      intro i a h0 h1 ha hm9
      omega
    | succ n9 ih =>
      intro i a h0 h1 ha hm9
      refine r_ld iX5_stoppedOn_5 rfl ?_
      refine r_aldn iX5_stoppedOn_7 rfl ?_
      refine r_geti 2 iX5_stoppedOn_8 flX5_22 rfl rfl rfl rfl ?_
      refine r_cge iX5_stoppedOn_11 (by omega) (fun h11 => ?_) (fun h11 => ?_)
      · refine r_ldn iX5_stoppedOn_50 rfl ?_
        refine r_iret iX5_stoppedOn_51 rfl ?_
        exact ⟨by rw [ha, show i = M 1 2 by omega] <;> rfl, rfl⟩
      · have hsi := hS i h0 (by omega)
        refine r_aldn iX5_stoppedOn_14 rfl ?_
        refine r_getr iX5_stoppedOn_15 flX5_18 rfl rfl ?_
        refine r_ld iX5_stoppedOn_18 rfl ?_
        refine r_zal iX5_stoppedOn_20 rfl (by omega) ?_
        refine r_ifne iX5_stoppedOn_21 (by omega) (fun h21 => ?_) (fun h21 => ?_)
        · refine r_inc iX5_stoppedOn_44 rfl (by decide) rfl ?_
          refine r_goto iX5_stoppedOn_47 ?_
          exact ih (i + 1) _ (by omega) (by omega) (by rw [sg_1 h0, ha, if_neg h21, Int.add_zero]) (by omega)
        · refine r_aldn iX5_stoppedOn_24 rfl ?_
          refine r_ld iX5_stoppedOn_25 rfl ?_
          refine r_ldn iX5_stoppedOn_27 rfl ?_
          refine call_V2i iX5_stoppedOn_28 clX5_90 myX5_goesOver rfl rfl rfl rfl (sX5_goesOver _ _ _ (by omega) (by omega) (by omega)) ?_
          refine r_ifeq iX5_stoppedOn_31 (by split <;> omega) (fun h31 => ?_) (fun h31 => ?_)
          · rw [ite01] at h31
            refine r_inc iX5_stoppedOn_44 rfl (by decide) rfl ?_
            refine r_goto iX5_stoppedOn_47 ?_
            exact ih (i + 1) _ (by omega) (by omega) (by rw [sg_1 h0, ha, if_pos h21, if_pos h31, Int.add_zero]) (by omega)
          · rw [ne_eq, ite01] at h31
            refine r_ldn iX5_stoppedOn_34 rfl ?_
            refine r_aldn iX5_stoppedOn_35 rfl ?_
            refine r_getr iX5_stoppedOn_36 flX5_9 rfl rfl ?_
            refine r_ld iX5_stoppedOn_39 rfl ?_
            refine r_ial iX5_stoppedOn_41 rfl (by omega) ?_
            refine r_add iX5_stoppedOn_42 ?_
            refine r_stn iX5_stoppedOn_43 (by decide) rfl ?_
            refine r_inc iX5_stoppedOn_44 rfl (by decide) rfl ?_
            refine r_goto iX5_stoppedOn_47 ?_
            exact ih (i + 1) _ (by omega) (by omega) (by rw [sg_1 h0, ha, if_pos h21, if_neg h31]) (by omega)
  refine r_con iX5_stoppedOn_0 ?_
  refine r_stn iX5_stoppedOn_1 (by decide) rfl ?_
  refine r_con iX5_stoppedOn_2 ?_
  refine r_st iX5_stoppedOn_3 (by decide) rfl ?_
  exact L 6 0 0 (by omega) (by omega) rfl (by omega)
theorem sX5_isFull (d : Nat) (r : Int) (hr0 : 0 ≤ r ∧ r < M 1 1) (hS : SH M) (hN : NB M) : Ex LyC g (d + 1) mX5_isFull [vr 47, vr 1, vi r] M (PI (if alC (M 48) (M 49) (M 1 2) r = M 4 r * 60 then 1 else 0) M) := by
  refine Ex.in [some (vr 47), some (vr 1), some (vi r), none, none] (by decide +kernel) rfl (Nat.le_of_ble_eq_true rfl) ?_ rfl
  obtain ⟨hp0, hr, hl, hR, hL⟩ := id hN
  have hri := hR r hr0.1 hr0.2
  have hab := al_bd hN hS r
  have L : ∀ (n9 : Nat) (i a : Int), (0 ≤ i) → (i ≤ M 1 2) → (a = sg (fun l => if bt (M 49 l) r = 0 then 0 else M 48 l) i) → M 1 2 - i < n9 → R LyC g mX5_isFull (d + 1) 5 [some (vr 47), some (vr 1), some (vi r), some (vi a), some (vi i)] [] M (PI (if alC (M 48) (M 49) (M 1 2) r = M 4 r * 60 then 1 else 0) M) := by
    intro n9
    induction n9 with
    | zero =>
      intro i a h0 h1 ha hm9
      omega
    | succ n9 ih =>
      intro i a h0 h1 ha hm9
      refine r_ld iX5_isFull_5 rfl ?_
      refine r_aldn iX5_isFull_7 rfl ?_
      refine r_geti 2 iX5_isFull_8 flX5_22 rfl rfl rfl rfl ?_
      refine r_cge iX5_isFull_11 (by omega) (fun h11 => ?_) (fun h11 => ?_)
      · have e1 : a = alC (M 48) (M 49) (M 1 2) r := by rw [ha, show i = M 1 2 by omega] <;> rfl
        rw [e1]
        refine r_ldn iX5_isFull_40 rfl ?_
        refine r_aldn iX5_isFull_41 rfl ?_
        refine r_getr iX5_isFull_42 flX5_84 rfl rfl ?_
        refine r_ldn iX5_isFull_45 rfl ?_
        refine r_ial iX5_isFull_46 rfl (by omega) ?_
        refine r_bip iX5_isFull_47 (by decide) ?_
        refine r_mul iX5_isFull_49 ?_
        refine r_cne iX5_isFull_50 (by omega) (fun h50 => ?_) (fun h50 => ?_)
        · refine r_con iX5_isFull_57 ?_
          refine r_zret iX5_isFull_58 rfl (by omega) ?_
          first | exact ⟨by rw [if_pos (by omega)], rfl⟩ | exact ⟨by rw [if_neg (by omega)], rfl⟩
        · refine r_con iX5_isFull_53 ?_
          refine r_goto iX5_isFull_54 ?_
          refine r_zret iX5_isFull_58 rfl (by omega) ?_
          first | exact ⟨by rw [if_pos (by omega)], rfl⟩ | exact ⟨by rw [if_neg (by omega)], rfl⟩
      · have hsi := hS i h0 (by omega)
        refine r_aldn iX5_isFull_14 rfl ?_
        refine r_ld iX5_isFull_15 rfl ?_
        refine r_ldn iX5_isFull_17 rfl ?_
        refine call_V2i iX5_isFull_18 clX5_90 myX5_goesOver rfl rfl rfl rfl (sX5_goesOver _ _ _ (by omega) (by omega) (by omega)) ?_
        refine r_ifeq iX5_isFull_21 (by split <;> omega) (fun h21 => ?_) (fun h21 => ?_)
        · rw [ite01] at h21
          refine r_inc iX5_isFull_34 rfl (by decide) rfl ?_
          refine r_goto iX5_isFull_37 ?_
          exact ih (i + 1) _ (by omega) (by omega) (by rw [sg_1 h0, ha, if_pos h21, Int.add_zero]) (by omega)
        · rw [ne_eq, ite01] at h21
          refine r_ldn iX5_isFull_24 rfl ?_
          refine r_aldn iX5_isFull_25 rfl ?_
          refine r_getr iX5_isFull_26 flX5_9 rfl rfl ?_
          refine r_ld iX5_isFull_29 rfl ?_
          refine r_ial iX5_isFull_31 rfl (by omega) ?_
          refine r_add iX5_isFull_32 ?_
          refine r_stn iX5_isFull_33 (by decide) rfl ?_
          refine r_inc iX5_isFull_34 rfl (by decide) rfl ?_
          refine r_goto iX5_isFull_37 ?_
          exact ih (i + 1) _ (by omega) (by omega) (by rw [sg_1 h0, ha, if_neg h21]) (by omega)
  refine r_con iX5_isFull_0 ?_
  refine r_stn iX5_isFull_1 (by decide) rfl ?_
  refine r_con iX5_isFull_2 ?_
  refine r_st iX5_isFull_3 (by decide) rfl ?_
  exact L 6 0 0 (by omega) (by omega) rfl (by omega)
theorem sX5_stopOn (d : Nat) (r : Int) (hr0 : 0 ≤ r ∧ r < M 1 1) (hS : ∀ l, 0 ≤ l → l < 5 → 0 ≤ M 49 l ∧ M 49 l < 1048576) (hN : NB M) : Ex LyC g (d + 1) mX5_stopOn [vr 47, vr 1, vi r] M (PV (mset M 50 (upto (fun l => bt (M 49 l) r) (M 50) (fun _ => 0) (M 1 2)))) := by
  refine Ex.in [some (vr 47), some (vr 1), some (vi r), none] (by decide +kernel) rfl (Nat.le_of_ble_eq_true rfl) ?_ rfl
  obtain ⟨hp0, hr, hl, hR, hL⟩ := id hN
  have L : ∀ (n9 : Nat) (i : Int), (0 ≤ i) → (i ≤ M 1 2) → M 1 2 - i < n9 → R LyC g mX5_stopOn (d + 1) 2 [some (vr 47), some (vr 1), some (vi r), some (vi i)] [] (mset M 50 (upto (fun l => bt (M 49 l) r) (M 50) (fun _ => 0) i)) (PV (mset M 50 (upto (fun l => bt (M 49 l) r) (M 50) (fun _ => 0) (M 1 2)))) := by
    intro n9
    induction n9 with
    | zero =>
      intro i h0 h1 hm9
      omega
    | succ n9 ih =>
      intro i h0 h1 hm9
      refine r_ldn iX5_stopOn_2 rfl ?_
      refine r_aldn iX5_stopOn_3 rfl ?_
      refine r_geti 2 iX5_stopOn_4 flX5_22 rfl rfl rfl rfl ?_
      simp only [mset_s, mset_n, ne_eq, Nat.reduceEqDiff, not_false_eq_true]
      refine r_cge iX5_stopOn_7 (by omega) (fun h7 => ?_) (fun h7 => ?_)
      · refine r_vret iX5_stopOn_32 rfl ?_
        rw [show i = M 1 2 by omega]
        exact ⟨rfl, rfl⟩
      · have hsi := hS i h0 (by omega)
        refine r_aldn iX5_stopOn_10 rfl ?_
        refine r_ldn iX5_stopOn_11 rfl ?_
        refine r_ldn iX5_stopOn_12 rfl ?_
        refine call_V2i iX5_stopOn_13 clX5_90 myX5_goesOver rfl rfl rfl rfl (sX5_goesOver (M := (mset M 50 (upto (fun l => bt (M 49 l) r) (M 50) (fun _ => 0) i))) _ _ _ (by omega) (by omega) ⟨hsi.1, by have := hsi.2; show M 49 i ≤ _; omega⟩) ?_
        simp only [mset_s, mset_n, ne_eq, Nat.reduceEqDiff, not_false_eq_true]
        refine r_ifeq iX5_stopOn_16 (by split <;> omega) (fun h16 => ?_) (fun h16 => ?_)
        · rw [ite01] at h16
          refine r_inc iX5_stopOn_26 rfl (by decide) rfl ?_
          refine r_goto iX5_stopOn_29 ?_
          rw [← upto_n (p := fun l => bt (M 49 l) r) (f := M 50) (v := fun _ => 0) h16]
          exact ih (i + 1) (by omega) (by omega) (by omega)
        · rw [ne_eq, ite01] at h16
          refine r_aldn iX5_stopOn_19 rfl ?_
          refine r_getr iX5_stopOn_20 flX5_18 rfl rfl ?_
          refine r_ldn iX5_stopOn_23 rfl ?_
          refine r_con iX5_stopOn_24 ?_
          refine r_zas iX5_stopOn_25 rfl (by omega) (by omega) ?_
          refine r_inc iX5_stopOn_26 rfl (by decide) rfl ?_
          refine r_goto iX5_stopOn_29 ?_
          rw [mset_s, mset_mset, upto_y (p := fun l => bt (M 49 l) r) (f := M 50) (v := fun _ => 0) h0 h16]
          exact ih (i + 1) (by omega) (by omega) (by omega)
  refine r_con iX5_stopOn_0 ?_
  refine r_stn iX5_stopOn_1 (by decide) rfl ?_
  have L0 := L 6 0 (by omega) (by omega) (by omega)
  rw [upto_0, mset_eq rfl] at L0
  exact L0
theorem sX5_lift (d : Nat) (h : Int) (hz : ∀ l, 0 ≤ l → l < 5 → M 50 l = 0 ∨ M 50 l = 1) (hN : NB M) : Ex LyC g d mX5_lift [vr 47, vr 1, vi h] M (PV (mset M 48 (upto (M 50) (M 48) (fun _ => h) (M 1 2)))) := by
  refine Ex.in [some (vr 47), some (vr 1), some (vi h), none] (by decide +kernel) rfl (Nat.le_of_ble_eq_true rfl) ?_ rfl
  obtain ⟨hp0, hr, hl, hR, hL⟩ := id hN
  have L : ∀ (n9 : Nat) (i : Int), (0 ≤ i) → (i ≤ M 1 2) → M 1 2 - i < n9 → R LyC g mX5_lift (d) 2 [some (vr 47), some (vr 1), some (vi h), some (vi i)] [] (mset M 48 (upto (M 50) (M 48) (fun _ => h) i)) (PV (mset M 48 (upto (M 50) (M 48) (fun _ => h) (M 1 2)))) := by
    intro n9
    induction n9 with
    | zero =>
      intro i h0 h1 hm9
      omega
    | succ n9 ih =>
      intro i h0 h1 hm9
      refine r_ldn iX5_lift_2 rfl ?_
      refine r_aldn iX5_lift_3 rfl ?_
      refine r_geti 2 iX5_lift_4 flX5_22 rfl rfl rfl rfl ?_
      simp only [mset_s, mset_n, ne_eq, Nat.reduceEqDiff, not_false_eq_true]
      refine r_cge iX5_lift_7 (by omega) (fun h7 => ?_) (fun h7 => ?_)
      · refine r_vret iX5_lift_32 rfl ?_
        rw [show i = M 1 2 by omega]
        exact ⟨rfl, rfl⟩
      · have hzi := hz i h0 (by omega)
        refine r_aldn iX5_lift_10 rfl ?_
        refine r_getr iX5_lift_11 flX5_18 rfl rfl ?_
        refine r_ldn iX5_lift_14 rfl ?_
        refine r_zal iX5_lift_15 rfl (by omega) ?_
        simp only [mset_s, mset_n, ne_eq, Nat.reduceEqDiff, not_false_eq_true]
        refine r_ifeq iX5_lift_16 (by omega) (fun h16 => ?_) (fun h16 => ?_)
        · refine r_inc iX5_lift_26 rfl (by decide) rfl ?_
          refine r_goto iX5_lift_29 ?_
          rw [← upto_n (p := M 50) (f := M 48) (v := fun _ => h) h16]
          exact ih (i + 1) (by omega) (by omega) (by omega)
        · refine r_aldn iX5_lift_19 rfl ?_
          refine r_getr iX5_lift_20 flX5_9 rfl rfl ?_
          refine r_ldn iX5_lift_23 rfl ?_
          refine r_ldn iX5_lift_24 rfl ?_
          refine r_ias iX5_lift_25 rfl (by omega) ?_
          refine r_inc iX5_lift_26 rfl (by decide) rfl ?_
          refine r_goto iX5_lift_29 ?_
          rw [mset_s, mset_mset, upto_y (p := M 50) (f := M 48) (v := fun _ => h) h0 h16]
          exact ih (i + 1) (by omega) (by omega) (by omega)
  refine r_con iX5_lift_0 ?_
  refine r_stn iX5_lift_1 (by decide) rfl ?_
  have L0 := L 6 0 (by omega) (by omega) (by omega)
  rw [upto_0, mset_eq rfl] at L0
  exact L0
theorem sX5_stop (d : Nat) (hS : SH M) (hN : NB M) : Ex LyC g (d + 2) mX5_stop [vr 47, vr 1] M (PV (mset M 50 (stC (M 48) (M 49) (M 10) (M 4) (M 1 2) (M 1 1) (M 50)))) := by
  refine Ex.in [some (vr 47), some (vr 1), none] (by decide +kernel) rfl (Nat.le_of_ble_eq_true rfl) ?_ rfl
  obtain ⟨hp0, hr, hl, hR, hL⟩ := id hN
  have L2 : ∀ (n9 : Nat) (i : Int), (0 ≤ i) → (i ≤ M 1 2) → M 1 2 - i < n9 → R LyC g mX5_stop (d + 2) 33 [some (vr 47), some (vr 1), some (vi i)] [] (mset M 50 (upto (fun l => if M 48 l = M 10 l * 60 then 1 else 0) (stR (M 48) (M 49) (M 4) (M 1 2) (M 50) (M 1 1).toNat) (fun _ => 0) i)) (PV (mset M 50 (stC (M 48) (M 49) (M 10) (M 4) (M 1 2) (M 1 1) (M 50)))) := by
    intro n9
    induction n9 with
    | zero =>
      intro i h0 h1 hm9
      omega
    | succ n9 ih =>
      intro i h0 h1 hm9
      refine r_ldn iX5_stop_33 rfl ?_
      refine r_aldn iX5_stop_34 rfl ?_
      refine r_geti 2 iX5_stop_35 flX5_22 rfl rfl rfl rfl ?_
      simp only [mset_s, mset_n, ne_eq, Nat.reduceEqDiff, not_false_eq_true]
      refine r_cge iX5_stop_38 (by omega) (fun h38 => ?_) (fun h38 => ?_)
      · refine r_vret iX5_stop_72 rfl ?_
        rw [show i = M 1 2 by omega]
        exact ⟨rfl, rfl⟩
      · have hsi := hS i h0 (by omega)
        have hli := hL i h0 (by omega)
        refine r_aldn iX5_stop_41 rfl ?_
        refine r_getr iX5_stop_42 flX5_9 rfl rfl ?_
        refine r_ldn iX5_stop_45 rfl ?_
        refine r_ial iX5_stop_46 rfl (by omega) ?_
        refine r_aldn iX5_stop_47 rfl ?_
        refine r_getr iX5_stop_48 flX5_71 rfl rfl ?_
        refine r_ldn iX5_stop_51 rfl ?_
        refine r_ial iX5_stop_52 rfl (by omega) ?_
        refine r_bip iX5_stop_53 (by decide) ?_
        refine r_mul iX5_stop_55 ?_
        simp only [mset_s, mset_n, ne_eq, Nat.reduceEqDiff, not_false_eq_true]
        refine r_cne iX5_stop_56 (by omega) (fun h56 => ?_) (fun h56 => ?_)
        · refine r_inc iX5_stop_66 rfl (by decide) rfl ?_
          refine r_goto iX5_stop_69 ?_
          rw [← upto_n (p := fun l => if M 48 l = M 10 l * 60 then 1 else 0) (v := fun _ => 0) (by rw [if_neg h56])]
          exact ih (i + 1) (by omega) (by omega) (by omega)
        · refine r_aldn iX5_stop_59 rfl ?_
          refine r_getr iX5_stop_60 flX5_18 rfl rfl ?_
          refine r_ldn iX5_stop_63 rfl ?_
          refine r_con iX5_stop_64 ?_
          refine r_zas iX5_stop_65 rfl (by omega) (by omega) ?_
          refine r_inc iX5_stop_66 rfl (by decide) rfl ?_
          refine r_goto iX5_stop_69 ?_
          rw [mset_s, mset_mset, upto_y (p := fun l => if M 48 l = M 10 l * 60 then 1 else 0) (v := fun _ => 0) h0 (by rw [if_pos h56]; decide)]
          exact ih (i + 1) (by omega) (by omega) (by omega)
  have L1 : ∀ (n9 : Nat) (i : Int), (0 ≤ i) → (i ≤ M 1 1) → M 1 1 - i < n9 → R LyC g mX5_stop (d + 2) 2 [some (vr 47), some (vr 1), some (vi i)] [] (mset M 50 (stR (M 48) (M 49) (M 4) (M 1 2) (M 50) i.toNat)) (PV (mset M 50 (stC (M 48) (M 49) (M 10) (M 4) (M 1 2) (M 1 1) (M 50)))) := by
    intro n9
    induction n9 with
    | zero =>
      intro i h0 h1 hm9
      omega
    | succ n9 ih =>
      intro i h0 h1 hm9
      refine r_ldn iX5_stop_2 rfl ?_
      refine r_aldn iX5_stop_3 rfl ?_
      refine r_geti 1 iX5_stop_4 flX5_77 rfl rfl rfl rfl ?_
      simp only [mset_s, mset_n, ne_eq, Nat.reduceEqDiff, not_false_eq_true]
      refine r_cge iX5_stop_7 (by omega) (fun h7 => ?_) (fun h7 => ?_)
      · refine r_con iX5_stop_31 ?_
        refine r_stn iX5_stop_32 (by decide) rfl ?_
        rw [show i = M 1 1 by omega]
        have L0 := L2 6 0 (by omega) (by omega) (by omega)
        rw [upto_0] at L0
        exact L0
      · have hS1 : SH (mset M 50 (stR (M 48) (M 49) (M 4) (M 1 2) (M 50) i.toNat)) := fun l h2 h3 => ⟨(hS l h2 h3).1, (hS l h2 h3).2.1, stR_z (fun l h2 h3 => (hS l h2 h3).2.2) _ l h2 h3⟩
        refine r_aldn iX5_stop_10 rfl ?_
        refine r_aldn iX5_stop_11 rfl ?_
        refine r_ldn iX5_stop_12 rfl ?_
        refine call_V2i iX5_stop_13 clX5_94 myX5_isFull rfl rfl rfl rfl (sX5_isFull (M := (mset M 50 (stR (M 48) (M 49) (M 4) (M 1 2) (M 50) i.toNat))) _ _ (by exact ⟨h0, h7⟩) hS1 hN) ?_
        simp only [mset_s, mset_n, ne_eq, Nat.reduceEqDiff, not_false_eq_true]
        refine r_ifeq iX5_stop_16 (by split <;> omega) (fun h16 => ?_) (fun h16 => ?_)
        · rw [ite10] at h16
          refine r_inc iX5_stop_25 rfl (by decide) rfl ?_
          refine r_goto iX5_stop_28 ?_
          have e1 := stR_1 (sh := M 48) (mk := M 49) (rm := M 4) (lc := M 1 2) (ri := M 50) h0
          rw [if_neg h16] at e1
          rw [← e1]
          exact ih (i + 1) (by omega) (by omega) (by omega)
        · rw [ne_eq, ite10n] at h16
          refine r_aldn iX5_stop_19 rfl ?_
          refine r_aldn iX5_stop_20 rfl ?_
          refine r_ldn iX5_stop_21 rfl ?_
          refine call_V2v iX5_stop_22 clX5_98 myX5_stopOn rfl rfl rfl rfl (sX5_stopOn (M := (mset M 50 (stR (M 48) (M 49) (M 4) (M 1 2) (M 50) i.toNat))) _ _ (by exact ⟨h0, h7⟩) (fun l h2 h3 => (hS1 l h2 h3).2.1) hN) ?_
          refine r_inc iX5_stop_25 rfl (by decide) rfl ?_
          refine r_goto iX5_stop_28 ?_
          have e1 := stR_1 (sh := M 48) (mk := M 49) (rm := M 4) (lc := M 1 2) (ri := M 50) h0
          rw [if_pos h16] at e1
          simp only [mset_s, mset_mset, mset_n, ne_eq, Nat.reduceEqDiff, not_false_eq_true]
          rw [← e1]
          exact ih (i + 1) (by omega) (by omega) (by omega)
  refine r_con iX5_stop_0 ?_
  refine r_stn iX5_stop_1 (by decide) rfl ?_
  have L0 := L1 21 0 (by omega) (by omega) (by omega)
  rw [show (0 : Int).toNat = 0 from rfl, stR, mset_eq rfl] at L0
  exact L0
theorem sX5_nextHeight (d : Nat) (hF : ∀ r, 0 ≤ r → r < M 1 1 → 0 < riC (M 50) (M 49) (M 1 2) r → 0 ≤ M 4 r * 60 - soC (M 48) (M 50) (M 49) (M 1 2) r) (hS : SH M) (hN : NB M) : Ex LyC g (d + 2) mX5_nextHeight [vr 47, vr 1] M (PI (nhC (M 48) (M 50) (M 49) (M 10) (M 4) (M 1 2) (M 1 1)) M) := by
  refine Ex.in [some (vr 47), some (vr 1), none, none, none, none] (by decide +kernel) rfl (Nat.le_of_ble_eq_true rfl) ?_ rfl
  obtain ⟨hp0, hr, hl, hR, hL⟩ := id hN
  have L2 : ∀ (n9 : Nat) (i a : Int) (w1 w2 : Option MV), (0 ≤ i) → (i ≤ M 1 1) → (a = mic (fun r => riC (M 50) (M 49) (M 1 2) r) (fun r => (M 4 r * 60 - soC (M 48) (M 50) (M 49) (M 1 2) r) / riC (M 50) (M 49) (M 1 2) r) (mic (M 50) (fun l => M 10 l * 60) 6000 (M 1 2).toNat) i.toNat) → (0 ≤ a ∧ a ≤ 6000) → M 1 1 - i < n9 → R LyC g mX5_nextHeight (d + 2) 45 [some (vr 47), some (vr 1), some (vi a), some (vi i), w1, w2] [] M (PI (nhC (M 48) (M 50) (M 49) (M 10) (M 4) (M 1 2) (M 1 1)) M) := by
    intro n9
    induction n9 with
    | zero =>
      intro i a w1 w2 h0 h1 ha hab hm9
      omega
    | succ n9 ih =>
      intro i a w1 w2 h0 h1 ha hab hm9
      refine r_ldn iX5_nextHeight_45 rfl ?_
      refine r_aldn iX5_nextHeight_46 rfl ?_
      refine r_geti 1 iX5_nextHeight_47 flX5_77 rfl rfl rfl rfl ?_
      refine r_cge iX5_nextHeight_50 (by omega) (fun h50 => ?_) (fun h50 => ?_)
      · refine r_ldn iX5_nextHeight_100 rfl ?_
        refine r_iret iX5_nextHeight_101 rfl ?_
        exact ⟨by rw [ha, show i = M 1 1 by omega] <;> rfl, rfl⟩
      · have hri := hR i h0 (by omega)
        have hrb := ri_bd hN i
        have hsb := so_bd hN hS i
        refine r_aldn iX5_nextHeight_53 rfl ?_
        refine r_aldn iX5_nextHeight_54 rfl ?_
        refine r_ldn iX5_nextHeight_55 rfl ?_
        refine call_V2i iX5_nextHeight_56 clX5_80 myX5_risingOn rfl rfl rfl rfl (sX5_risingOn _ _ (by omega) hS hN) ?_
        refine r_st iX5_nextHeight_59 (by decide) rfl ?_
        refine r_ld iX5_nextHeight_61 rfl ?_
        refine r_ifle iX5_nextHeight_63 (by omega) (fun h63 => ?_) (fun h63 => ?_)
        · refine r_inc iX5_nextHeight_94 rfl (by decide) rfl ?_
          refine r_goto iX5_nextHeight_97 ?_
          exact ih (i + 1) _ _ _ (by omega) (by omega) (by rw [mic_1 h0, if_pos (show riC (M 50) (M 49) (M 1 2) i = 0 by omega), ← ha]) (by omega) (by omega)
        · have hf := hF i h0 (by omega) h63
          have hdv : 0 ≤ (M 4 i * 60 - soC (M 48) (M 50) (M 49) (M 1 2) i) / riC (M 50) (M 49) (M 1 2) i := Int.ediv_nonneg hf (by omega)
          have hdv2 : (M 4 i * 60 - soC (M 48) (M 50) (M 49) (M 1 2) i) / riC (M 50) (M 49) (M 1 2) i ≤ 6000 := Int.le_trans (Int.ediv_le_self _ hf) (by omega)
          refine r_aldn iX5_nextHeight_66 rfl ?_
          refine r_getr iX5_nextHeight_67 flX5_84 rfl rfl ?_
          refine r_ldn iX5_nextHeight_70 rfl ?_
          refine r_ial iX5_nextHeight_71 rfl (by omega) ?_
          refine r_bip iX5_nextHeight_72 (by decide) ?_
          refine r_mul iX5_nextHeight_74 ?_
          refine r_aldn iX5_nextHeight_75 rfl ?_
          refine r_aldn iX5_nextHeight_76 rfl ?_
          refine r_ldn iX5_nextHeight_77 rfl ?_
          refine call_V2i iX5_nextHeight_78 clX5_87 myX5_stoppedOn rfl rfl rfl rfl (sX5_stoppedOn _ _ (by omega) hS hN) ?_
          refine r_sub iX5_nextHeight_81 ?_
          refine r_st iX5_nextHeight_82 (by decide) rfl ?_
          refine r_ldn iX5_nextHeight_84 rfl ?_
          refine r_ld iX5_nextHeight_85 rfl ?_
          refine r_ld iX5_nextHeight_87 rfl ?_
          refine r_div iX5_nextHeight_89 (by omega) (by omega) ?_
          refine r_min iX5_nextHeight_90 clX5_74 rfl (by omega) ?_
          refine r_stn iX5_nextHeight_93 (by decide) rfl ?_
          refine r_inc iX5_nextHeight_94 rfl (by decide) rfl ?_
          refine r_goto iX5_nextHeight_97 ?_
          exact ih (i + 1) _ _ _ (by omega) (by omega) (by rw [mic_1 h0, if_neg (show ¬ riC (M 50) (M 49) (M 1 2) i = 0 by omega), ← ha]) (by split <;> omega) (by omega)
  have L1 : ∀ (n9 : Nat) (i a : Int), (0 ≤ i) → (i ≤ M 1 2) → (a = mic (M 50) (fun l => M 10 l * 60) 6000 i.toNat) → (0 ≤ a ∧ a ≤ 6000) → M 1 2 - i < n9 → R LyC g mX5_nextHeight (d + 2) 6 [some (vr 47), some (vr 1), some (vi a), some (vi i), none, none] [] M (PI (nhC (M 48) (M 50) (M 49) (M 10) (M 4) (M 1 2) (M 1 1)) M) := by
    intro n9
    induction n9 with
    | zero =>
      intro i a h0 h1 ha hab hm9
      omega
    | succ n9 ih =>
      intro i a h0 h1 ha hab hm9
      refine r_ldn iX5_nextHeight_6 rfl ?_
      refine r_aldn iX5_nextHeight_7 rfl ?_
      refine r_geti 2 iX5_nextHeight_8 flX5_22 rfl rfl rfl rfl ?_
      refine r_cge iX5_nextHeight_11 (by omega) (fun h11 => ?_) (fun h11 => ?_)
      · refine r_con iX5_nextHeight_43 ?_
        refine r_stn iX5_nextHeight_44 (by decide) rfl ?_
        exact L2 21 0 _ _ _ (by omega) (by omega) (by rw [ha, show i = M 1 2 by omega] <;> rfl) hab (by omega)
      · have hsi := hS i h0 (by omega)
        have hli := hL i h0 (by omega)
        refine r_aldn iX5_nextHeight_14 rfl ?_
        refine r_getr iX5_nextHeight_15 flX5_18 rfl rfl ?_
        refine r_ldn iX5_nextHeight_18 rfl ?_
        refine r_zal iX5_nextHeight_19 rfl (by omega) ?_
        refine r_ifeq iX5_nextHeight_20 (by omega) (fun h20 => ?_) (fun h20 => ?_)
        · refine r_inc iX5_nextHeight_37 rfl (by decide) rfl ?_
          refine r_goto iX5_nextHeight_40 ?_
          exact ih (i + 1) _ (by omega) (by omega) (by rw [mic_1 h0, if_pos h20, ← ha]) (by omega) (by omega)
        · refine r_ldn iX5_nextHeight_23 rfl ?_
          refine r_aldn iX5_nextHeight_24 rfl ?_
          refine r_getr iX5_nextHeight_25 flX5_71 rfl rfl ?_
          refine r_ldn iX5_nextHeight_28 rfl ?_
          refine r_ial iX5_nextHeight_29 rfl (by omega) ?_
          refine r_bip iX5_nextHeight_30 (by decide) ?_
          refine r_mul iX5_nextHeight_32 ?_
          refine r_min iX5_nextHeight_33 clX5_74 rfl (by omega) ?_
          refine r_stn iX5_nextHeight_36 (by decide) rfl ?_
          refine r_inc iX5_nextHeight_37 rfl (by decide) rfl ?_
          refine r_goto iX5_nextHeight_40 ?_
          exact ih (i + 1) _ (by omega) (by omega) (by rw [mic_1 h0, if_neg h20, ← ha]) (by split <;> omega) (by omega)
  refine r_sip iX5_nextHeight_0 (by decide) ?_
  refine r_stn iX5_nextHeight_3 (by decide) rfl ?_
  refine r_con iX5_nextHeight_4 ?_
  refine r_stn iX5_nextHeight_5 (by decide) rfl ?_
  exact L1 6 0 _ (by omega) (by omega) rfl (by omega) (by omega)
theorem sX5_below (d : Nat) (l : Int) (hl0 : 0 ≤ l ∧ l < 5) (hb : 0 ≤ M 48 l ∧ M 48 l ≤ 6000) : Ex LyC g d mX5_below [vr 47, vi l] M (PI (blw (M 48 l) 59) M) := by
  refine Ex.in [some (vr 47), some (vi l), none] (by decide +kernel) rfl (Nat.le_of_ble_eq_true rfl) ?_ rfl
  have hm : ∀ j : Int, 1 ≤ j → j ≤ 60 → 0 ≤ M 48 l * j ∧ M 48 l * j ≤ 360000 := fun j h0 h1 => ⟨Int.mul_nonneg hb.1 (by omega), Int.le_trans (Int.mul_le_mul hb.2 h1 (by omega) (by omega)) (by omega)⟩
  have L : ∀ (n9 : Nat) (i : Int) (q : Nat), (i + q = 60) → (1 ≤ i) → (blw (M 48 l) 59 = blw (M 48 l) q) → 60 - i < n9 → R LyC g mX5_below (d) 2 [some (vr 47), some (vi l), some (vi i)] [] M (PI (blw (M 48 l) 59) M) := by
    intro n9
    induction n9 with
    | zero =>
      intro i q h0 h1 hz hm9
      omega
    | succ n9 ih =>
      intro i q h0 h1 hz hm9
      refine r_ldn iX5_below_2 rfl ?_
      refine r_bip iX5_below_3 (by decide) ?_
      refine r_cge iX5_below_5 (by omega) (fun h5 => ?_) (fun h5 => ?_)
      · refine r_bip iX5_below_30 (by decide) ?_
        refine r_iret iX5_below_32 rfl ?_
        rw [show q = 0 by omega] at hz
        exact ⟨by rw [hz] <;> rfl, rfl⟩
      · obtain ⟨q, rfl⟩ : ∃ k, q = k + 1 := ⟨q - 1, by omega⟩
        have hmi := hm i h1 (by omega)
        have ei : (59 : Int) - q = i := by omega
        rw [blw_1 _ q, ei] at hz
        refine r_aldn iX5_below_8 rfl ?_
        refine r_getr iX5_below_9 flX5_9 rfl rfl ?_
        refine r_ldn iX5_below_12 rfl ?_
        refine r_ial iX5_below_13 rfl (by omega) ?_
        refine r_ldn iX5_below_14 rfl ?_
        refine r_mul iX5_below_15 ?_
        refine r_bip iX5_below_16 (by decide) ?_
        refine r_rem iX5_below_18 (by omega) (by omega) ?_
        refine r_ifne iX5_below_19 (by omega) (fun h19 => ?_) (fun h19 => ?_)
        · refine r_inc iX5_below_24 rfl (by decide) rfl ?_
          refine r_goto iX5_below_27 ?_
          rw [if_neg h19] at hz
          exact ih (i + 1) q (by omega) (by omega) hz (by omega)
        · refine r_ldn iX5_below_22 rfl ?_
          refine r_iret iX5_below_23 rfl ?_
          rw [if_pos h19] at hz
          exact ⟨by rw [hz], rfl⟩
  refine r_con iX5_below_0 ?_
  refine r_stn iX5_below_1 (by decide) rfl ?_
  exact L 60 1 59 (by omega) (by omega) rfl (by omega)
theorem blw_bd (x : Int) : ∀ k : Nat, k ≤ 59 → 0 ≤ blw x k ∧ blw x k ≤ 60
  | 0, _ => by simp [blw]
  | k + 1, h => by
    have := blw_bd x k (by omega)
    simp only [blw]
    split <;> omega
theorem sX5_above (d : Nat) (l : Int) (hl0 : 0 ≤ l ∧ l < 5) (hb : 0 ≤ M 48 l ∧ M 48 l ≤ 6000) : Ex LyC g (d + 1) mX5_above [vr 47, vi l] M (PI (M 48 l * blw (M 48 l) 59 / 60) M) := by
  refine Ex.in [some (vr 47), some (vi l)] (by decide +kernel) rfl (Nat.le_of_ble_eq_true rfl) ?_ rfl
  have hbb := blw_bd (M 48 l) 59 (by omega)
  have hm : 0 ≤ M 48 l * blw (M 48 l) 59 ∧ M 48 l * blw (M 48 l) 59 ≤ 360000 := ⟨Int.mul_nonneg hb.1 hbb.1, Int.le_trans (Int.mul_le_mul hb.2 hbb.2 hbb.1 (by omega)) (by omega)⟩
  refine r_aldn iX5_above_0 rfl ?_
  refine r_getr iX5_above_1 flX5_9 rfl rfl ?_
  refine r_ldn iX5_above_4 rfl ?_
  refine r_ial iX5_above_5 rfl (by omega) ?_
  refine r_aldn iX5_above_6 rfl ?_
  refine r_ldn iX5_above_7 rfl ?_
  refine call_V1i iX5_above_8 clX5_101 myX5_below rfl rfl rfl rfl (sX5_below _ _ hl0 hb) ?_
  refine r_mul iX5_above_11 ?_
  refine r_bip iX5_above_12 (by decide) ?_
  refine r_div iX5_above_14 (by omega) (by omega) ?_
  refine r_iret iX5_above_15 rfl ?_
  exact ⟨rfl, rfl⟩
theorem sX5_countWhole (d : Nat) (hS : SH M) (hN : NB M) : Ex LyC g (d) mX5_countWhole [vr 47, vr 1] M (PI (sg (fun l => if M 48 l = M 10 l * 60 then 1 else 0) (M 1 2)) M) := by
  refine Ex.in [some (vr 47), some (vr 1), none, none] (by decide +kernel) rfl (Nat.le_of_ble_eq_true rfl) ?_ rfl
  obtain ⟨hp0, hr, hl, hR, hL⟩ := id hN
  have L : ∀ (n9 : Nat) (i a : Int), (0 ≤ i) → (i ≤ M 1 2) → (a = sg (fun l => if M 48 l = M 10 l * 60 then 1 else 0) i) → M 1 2 - i < n9 → R LyC g mX5_countWhole (d) 4 [some (vr 47), some (vr 1), some (vi a), some (vi i)] [] M (PI (sg (fun l => if M 48 l = M 10 l * 60 then 1 else 0) (M 1 2)) M) := by
    intro n9
    induction n9 with
    | zero =>
      intro i a h0 h1 ha hm9
      omega
    | succ n9 ih =>
      intro i a h0 h1 ha hm9
      refine r_ldn iX5_countWhole_4 rfl ?_
      refine r_aldn iX5_countWhole_5 rfl ?_
      refine r_geti 2 iX5_countWhole_6 flX5_22 rfl rfl rfl rfl ?_
      refine r_cge iX5_countWhole_9 (by omega) (fun h9 => ?_) (fun h9 => ?_)
      · refine r_ldn iX5_countWhole_39 rfl ?_
        refine r_iret iX5_countWhole_40 rfl ?_
        exact ⟨by rw [ha, show i = M 1 2 by omega] <;> rfl, rfl⟩
      · have hsi := hS i h0 (by omega)
        have hli := hL i h0 (by omega)
        refine r_aldn iX5_countWhole_12 rfl ?_
        refine r_getr iX5_countWhole_13 flX5_9 rfl rfl ?_
        refine r_ldn iX5_countWhole_16 rfl ?_
        refine r_ial iX5_countWhole_17 rfl (by omega) ?_
        refine r_aldn iX5_countWhole_18 rfl ?_
        refine r_getr iX5_countWhole_19 flX5_71 rfl rfl ?_
        refine r_ldn iX5_countWhole_22 rfl ?_
        refine r_ial iX5_countWhole_23 rfl (by omega) ?_
        refine r_bip iX5_countWhole_24 (by decide) ?_
        refine r_mul iX5_countWhole_26 ?_
        refine r_cne iX5_countWhole_27 (by omega) (fun h27 => ?_) (fun h27 => ?_)
        · refine r_inc iX5_countWhole_33 rfl (by decide) rfl ?_
          refine r_goto iX5_countWhole_36 ?_
          exact ih (i + 1) _ (by omega) (by omega) (by rw [sg_1 h0, ha, if_neg h27, Int.add_zero]) (by omega)
        · refine r_inc iX5_countWhole_30 rfl (by decide) rfl ?_
          refine r_inc iX5_countWhole_33 rfl (by decide) rfl ?_
          refine r_goto iX5_countWhole_36 ?_
          exact ih (i + 1) _ (by omega) (by omega) (by rw [sg_1 h0, ha, if_pos h27]) (by omega)
  refine r_con iX5_countWhole_0 ?_
  refine r_stn iX5_countWhole_1 (by decide) rfl ?_
  refine r_con iX5_countWhole_2 ?_
  refine r_stn iX5_countWhole_3 (by decide) rfl ?_
  exact L 6 0 0 (by omega) (by omega) rfl (by omega)
theorem sX5_wayOf (d : Nat) (l : Int) (h0l : 0 ≤ l ∧ l < M 1 2) (hA : AV M) (hN : NB M) : Ex LyC g (d + 2) mX5_wayOf [vr 1, vr 21, vi l] M (PI (if M 7 l = 2 then M 23 l else if 0 < fpC (M 22) l then fpC (M 22) l else 0) M) := by
  refine Ex.in [some (vr 1), some (vr 21), some (vi l)] (by decide +kernel) rfl (Nat.le_of_ble_eq_true rfl) ?_ rfl
  obtain ⟨hp0, hr, hl, hR, hL⟩ := id hN
  have hll := hL l h0l.1 h0l.2
  have hfb := fpC_bd (M 22) l
  refine r_aldn iX5_wayOf_0 rfl ?_
  refine r_getr iX5_wayOf_1 flX5_54 rfl rfl ?_
  refine r_ldn iX5_wayOf_4 rfl ?_
  refine r_ial iX5_wayOf_5 rfl (by omega) ?_
  refine r_con iX5_wayOf_6 ?_
  refine r_cne iX5_wayOf_7 (by omega) (fun h7 => ?_) (fun h7 => ?_)
  · refine r_con iX5_wayOf_19 ?_
    refine r_aldn iX5_wayOf_20 rfl ?_
    refine r_ldn iX5_wayOf_21 rfl ?_
    refine call_V1i iX5_wayOf_22 clX5_62 myX4_firstPart rfl rfl rfl rfl (sX4_firstPart _ _ (by omega) hA) ?_
    refine r_max iX5_wayOf_25 clX5_66 rfl (by omega) ?_
    refine r_iret iX5_wayOf_28 rfl ?_
    exact ⟨by rw [if_neg h7], rfl⟩
  · refine r_aldn iX5_wayOf_10 rfl ?_
    refine r_getr iX5_wayOf_11 flX5_57 rfl rfl ?_
    refine r_ldn iX5_wayOf_14 rfl ?_
    refine r_ial iX5_wayOf_15 rfl (by omega) ?_
    refine r_goto iX5_wayOf_16 ?_
    refine r_iret iX5_wayOf_28 rfl ?_
    exact ⟨by rw [if_pos h7], rfl⟩
end LH
