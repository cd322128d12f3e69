/-! the ways' and the sending's words, as the class has them -/
/-- after 1 .. k: the first of the least values of f among those with q; -1 if there is none -/
def mt (f : Int → Int) (q : Int → Bool) : Nat → Int
  | 0 => -1
  | k + 1 => if q (k + 1) = true ∧ (mt f q k < 0 ∨ f (k + 1) < f (mt f q k)) then (k : Int) + 1 else mt f q k
def cutQ (fr to : Int) (c : Int) : Bool := decide (bt c fr = 1 ∧ bt c to = 0)
theorem mt_none {f : Int → Int} {q : Int → Bool} : ∀ {k : Nat}, (∀ c : Int, 1 ≤ c → c ≤ k → q c = false) → mt f q k = -1
  | 0, _ => rfl
  | k + 1, h => by
    simp only [mt]
    rw [if_neg, mt_none (fun c h1 h2 => h c h1 (by omega))]
    rw [h (k + 1) (by omega) (by omega)]
    simp
theorem mt_skip {f : Int → Int} {q : Int → Bool} {k : Nat} (h : q (k + 1) = false) : mt f q (k + 1) = mt f q k := by
  simp only [mt]
  rw [if_neg]
  rw [h]
  simp
theorem bt_low {c p : Int} (h0 : 0 ≤ c) (h : c < 2 ^ p.toNat) : bt c p = 0 := by
  unfold bt
  rw [Int.ediv_eq_zero_of_lt h0 h]
  rfl
theorem bt_self (p : Int) : bt (2 ^ p.toNat) p = 1 := by
  unfold bt
  rw [Int.ediv_self (Int.ne_of_gt (Int.pow_pos (by decide)))]
  rfl
theorem bt_other : ∀ f t : Fin 9, f ≠ t → bt (2 ^ ((f.val : Nat) : Int).toNat) ((t.val : Nat) : Int) = 0 := by decide +kernel
theorem bt_oth {f t : Int} (hf : 0 ≤ f ∧ f < 9) (ht : 0 ≤ t ∧ t < 9) (h : f ≠ t) : bt (2 ^ f.toNat) t = 0 := by
  have := bt_other ⟨f.toNat, by omega⟩ ⟨t.toNat, by omega⟩ (by intro e; have := congrArg Fin.val e; simp at this; omega)
  rw [show ((f.toNat : Nat) : Int) = f by omega, show ((t.toNat : Nat) : Int) = t by omega] at this
  exact this
theorem bt_full' : ∀ n t : Fin 10, t < n → bt (2 ^ ((n.val : Nat) : Int).toNat - 1) ((t.val : Nat) : Int) = 1 := by decide +kernel
theorem bt_full {n t : Int} (hn : n ≤ 9) (ht : 0 ≤ t ∧ t < n) : bt (2 ^ n.toNat - 1) t = 1 := by
  have := bt_full' ⟨n.toNat, by omega⟩ ⟨t.toNat, by omega⟩ (by show t.toNat < n.toNat; omega)
  rw [show ((n.toNat : Nat) : Int) = n by omega, show ((t.toNat : Nat) : Int) = t by omega] at this
  exact this
theorem pw_lt {n m : Int} (h0 : 0 ≤ n) (h : n < m) : (2 : Int) ^ n.toNat < 2 ^ m.toNat := by
  have h1 : (2 : Nat) ^ n.toNat < 2 ^ m.toNat := Nat.pow_lt_pow_right (by decide) (by omega)
  have h2 : ((2 ^ n.toNat : Nat) : Int) < ((2 ^ m.toNat : Nat) : Int) := by omega
  simpa using h2
theorem wall_bd {M : Mem} (hN : NB M) (c : Int) : 0 ≤ wallF (M 1) (M 2) (M 3) (M 4) c ∧ wallF (M 1) (M 2) (M 3) (M 4) c ≤ 2000 := by
  obtain ⟨hp, hr, hl, hR, hL⟩ := hN
  have h1 := sg_bd (f := fun r => if bt c (M 2 r) = bt c (M 3 r) then 0 else M 4 r) (lo := 0) (hi := 100) hr.1 (fun i h0 h1 => by have := hR i h0 h1; split <;> omega)
  unfold wallF
  omega
def fillN (f : Int → Int) (n v : Int) : Int → Int := fun j => if 0 ≤ j ∧ j < n then v else f j
theorem fillN_0 (f : Int → Int) (v : Int) : fillN f 0 v = f := by funext j; unfold fillN; rw [if_neg (by omega)]
theorem fillN_1 {f : Int → Int} {i v : Int} (h : 0 ≤ i) : fset (fillN f i v) i v = fillN f (i + 1) v := by
  funext j
  simp only [fillN, fset]
  by_cases hj : j = i
  · rw [if_pos hj, if_pos (by omega)]
  · rw [if_neg hj]
    by_cases h2 : 0 ≤ j ∧ j < i
    · rw [if_pos h2, if_pos (by omega)]
    · rw [if_neg h2, if_neg (by omega)]
/-- the first of 0 .. n-1 where f isn't 0; -1 if there is none -/
def fpt (f : Int → Int) : Nat → Int
  | 0 => -1
  | n + 1 => if 0 ≤ fpt f n then fpt f n else if f n = 0 then -1 else n
theorem fpt_no {f : Int → Int} : ∀ {n : Nat}, (∀ i : Int, 0 ≤ i → i < n → f i = 0) → fpt f n = -1
  | 0, _ => rfl
  | n + 1, h => by
    simp only [fpt]
    rw [fpt_no (fun i h0 h1 => h i h0 (by omega)), if_neg (by omega), if_pos (h n (by omega) (by omega))]
theorem fpt_at {f : Int → Int} {i : Int} (h0 : 0 ≤ i) (hz : ∀ j : Int, 0 ≤ j → j < i → f j = 0) (hi : f i ≠ 0) : ∀ {n : Nat}, i < n → fpt f n = i
  | 0, h => by omega
  | n + 1, h => by
    simp only [fpt]
    by_cases hn : i = n
    · rw [fpt_no (fun j h1 h2 => hz j h1 (by omega)), if_neg (by omega), if_neg (by rw [← hn]; exact hi), hn]
    · rw [fpt_at h0 hz hi (by omega), if_pos h0]
/-- the least of c and f 0 .. f (n-1) -/
def mi (f : Int → Int) (c : Int) : Nat → Int
  | 0 => c
  | n + 1 => if f n < mi f c n then f n else mi f c n
theorem mi_1 {f : Int → Int} {c i : Int} (h : 0 ≤ i) : mi f c (i + 1).toNat = if f i < mi f c i.toNat then f i else mi f c i.toNat := by
  rw [show (i + 1).toNat = i.toNat + 1 by omega]
  simp only [mi]
  rw [show ((i.toNat : Nat) : Int) = i by omega]
/-- the first of the least values of f at 0 .. k -/
def mn (f : Int → Int) : Nat → Int
  | 0 => 0
  | k + 1 => if f (k + 1) < f (mn f k) then (k : Int) + 1 else mn f k
theorem mn_rng (f : Int → Int) : ∀ k : Nat, 0 ≤ mn f k ∧ mn f k ≤ k
  | 0 => by simp [mn]
  | k + 1 => by
    have := mn_rng f k
    simp only [mn]
    split <;> omega
def usC (am mk : Int → Int) (r : Int) : Int := sg (fun s => if am s = 0 then 0 else if bt (mk s) r = 0 then 0 else am s) 40
def ovC (am mk rm : Int → Int) (r : Int) : Int := if 0 < usC am mk r - rm r then usC am mk r - rm r else 0
def ttC (am : Int → Int) (l : Int) : Int := sg (fun i => am (8 * l + i)) 8
def ptC (am : Int → Int) (l : Int) : Int := sg (fun i => if am (8 * l + i) = 0 then 0 else 1) 8
def fpC (am : Int → Int) (l : Int) : Int := fpt (fun i => am (8 * l + i)) 8
def prC (pr st rd : Int → Int) (s : Int) : Int := sg (fun k => pr (rd (8 * s + k))) (st s)
def coC (am pr st rd : Int → Int) : Int := sg (fun s => if am s = 0 then 0 else am s * prC pr st rd s) 40
def frC (am mk rm st rd : Int → Int) (s : Int) : Int := if 0 < mi (fun k => rm (rd (8 * s + k)) - usC am mk (rd (8 * s + k))) 100 (st s).toNat then mi (fun k => rm (rd (8 * s + k)) - usC am mk (rd (8 * s + k))) 100 (st s).toNat else 0
/-- a place of the ways' rows that is in use -/
def VS (M : Mem) (s : Int) : Prop := (1 ≤ M 29 s ∧ M 29 s ≤ 8) ∧ (0 ≤ M 30 s ∧ M 30 s < 1048576) ∧ ∀ k, 0 ≤ k → k < M 29 s → 0 ≤ M 31 (8 * s + k) ∧ M 31 (8 * s + k) < M 1 1
def AV (M : Mem) : Prop := ∀ s, 0 ≤ s → s < 40 → (0 ≤ M 22 s ∧ M 22 s ≤ 100) ∧ (M 22 s ≠ 0 → VS M s)
/-- all loads' ways are found -/
def WB (M : Mem) : Prop := ∀ l, 0 ≤ l → l < M 1 2 → (0 ≤ M 28 l ∧ M 28 l ≤ 8) ∧ ∀ i, 0 ≤ i → i < M 28 l → VS M (8 * l + i)
theorem us_bd {am mk : Int → Int} (h : ∀ s, 0 ≤ s → s < 40 → 0 ≤ am s ∧ am s ≤ 100) (r : Int) : 0 ≤ usC am mk r ∧ usC am mk r ≤ 4000 := by
  have h1 := sg_bd (f := fun s => if am s = 0 then 0 else if bt (mk s) r = 0 then 0 else am s) (lo := 0) (hi := 100) (n := 40) (by omega) (fun i h0 h1 => by have := h i h0 h1; split <;> (try split) <;> omega)
  unfold usC
  omega
theorem tt_bd {am : Int → Int} {l : Int} (h : ∀ i, 0 ≤ i → i < 8 → 0 ≤ am (8 * l + i) ∧ am (8 * l + i) ≤ 100) : 0 ≤ ttC am l ∧ ttC am l ≤ 800 := by
  have h1 := sg_bd (f := fun i => am (8 * l + i)) (lo := 0) (hi := 100) (n := 8) (by omega) h
  unfold ttC
  omega
theorem pr_bd {M : Mem} (hN : NB M) {s : Int} (hv : VS M s) : 0 ≤ prC (M 5) (M 29) (M 31) s ∧ prC (M 5) (M 29) (M 31) s ≤ 400 := by
  obtain ⟨hp, hr, hl, hR, hL⟩ := hN
  have h1 := sg_bd (f := fun k => M 5 (M 31 (8 * s + k))) (lo := 0) (hi := 50) (n := M 29 s) (by have := hv.1; omega) (fun k h0 h1 => by have := hv.2.2 k h0 h1; have := hR _ this.1 this.2; omega)
  have := hv.1
  unfold prC
  omega
section LE
variable {Ly : List Ent} {g : Gt} {M : Mem}
theorem sJ_fill (d : Nat) (q n : Nat) (v : Int) (hq : Ly[q]? = some (.inr (0, n))) (hn : n < 2147483648) : Ex Ly g d mJ_fill [vr q, vi v] M (PV (mset M q (fillN (M q) n v))) := by
  refine Ex.in [some (vr q), some (vi v), none, none] (by decide +kernel) rfl (Nat.le_of_ble_eq_true rfl) ?_ rfl
  have L : ∀ (n9 : Nat) (i : Int), (0 ≤ i) → (i ≤ n) → n - i < n9 → R Ly g mJ_fill (d) 5 [some (vr q), some (vi v), some (vi i), some (vi (n : Int))] [] (mset M q (fillN (M q) i v)) (PV (mset M q (fillN (M q) n v))) := by
    intro n9
    induction n9 with
    | zero =>
      intro i h0 h1 hm9
      omega
    | succ n9 ih =>
      intro i h0 h1 hm9
      refine r_ldn iJ_fill_5 rfl ?_
      refine r_ldn iJ_fill_6 rfl ?_
      refine r_cge iJ_fill_7 (by omega) (fun h7 => ?_) (fun h7 => ?_)
      · refine r_vret iJ_fill_20 rfl ?_
        rw [show i = (n : Int) by omega]
        exact ⟨rfl, rfl⟩
      · refine r_aldn iJ_fill_10 rfl ?_
        refine r_ldn iJ_fill_11 rfl ?_
        refine r_ldn iJ_fill_12 rfl ?_
        refine r_ias iJ_fill_13 hq (by omega) ?_
        refine r_inc iJ_fill_14 rfl (by decide) rfl ?_
        refine r_goto iJ_fill_17 ?_
        rw [mset_s, mset_mset, fillN_1 h0]
        exact ih (i + 1) (by omega) (by omega) (by omega)
  refine r_con iJ_fill_0 ?_
  refine r_stn iJ_fill_1 (by decide) rfl ?_
  refine r_aldn iJ_fill_2 rfl ?_
  refine r_alen iJ_fill_3 hq ?_
  refine r_stn iJ_fill_4 (by decide) rfl ?_
  have L0 := L (n + 1) 0 (by omega) (by omega) (by omega)
  rw [fillN_0, mset_eq rfl] at L0
  exact L0
end LE
section LF
variable {g : Gt} {M : Mem}
theorem sX1_meeting (d : Nat) (l : Int) (h0l : 0 ≤ l ∧ l < M 1 2) (hN : NB M) : Ex LyC g (d + 2) mX1_meeting [vr 1, vi l] M (PI (mt (wallF (M 1) (M 2) (M 3) (M 4)) (cutQ (M 8 l) (M 9 l)) (2 ^ (M 1 0).toNat - 2 : Int).toNat) M) := by
  refine Ex.in [some (vr 1), some (vi l), none, none, none, none] (by decide +kernel) rfl (Nat.le_of_ble_eq_true rfl) ?_ rfl
  obtain ⟨hp0, hr, hl, hR, hL⟩ := id hN
  have h2 := pw_le hp0.1 hp0.2
  have hll := hL l h0l.1 h0l.2
  have h3 := pw_lt hll.2.1.1 hll.2.1.2
  have h4 : (1 : Int) ≤ 2 ^ (M 8 l).toNat := (pw_le0 (n := M 8 l) (by omega) (by omega)).1
  have L : ∀ (n9 : Nat) (i bb mm : Int) (q : Nat) (w : Option MV), (i = q + 1) → (i ≤ 2 ^ (M 1 0).toNat) → (mt (wallF (M 1) (M 2) (M 3) (M 4)) (cutQ (M 8 l) (M 9 l)) q = bb) → (1 ≤ bb ∧ bb ≤ 600) → (mm = (wallF (M 1) (M 2) (M 3) (M 4)) bb) → 2 ^ (M 1 0).toNat - i < n9 → R LyC g mX1_meeting (d + 2) 20 [some (vr 1), some (vi l), some (vi bb), some (vi mm), some (vi i), w] [] M (PI (mt (wallF (M 1) (M 2) (M 3) (M 4)) (cutQ (M 8 l) (M 9 l)) (2 ^ (M 1 0).toNat - 2 : Int).toNat) M) := by
    intro n9
    induction n9 with
    | zero =>
      intro i bb mm q w h0 h1 hb hb1 hm hm9
      omega
    | succ n9 ih =>
      intro i bb mm q w h0 h1 hb hb1 hm hm9
      refine r_ld iX1_meeting_20 rfl ?_
      refine r_con iX1_meeting_22 ?_
      refine r_aldn iX1_meeting_23 rfl ?_
      refine r_geti 0 iX1_meeting_24 flX1_7 rfl rfl rfl rfl ?_
      refine r_shl iX1_meeting_27 (by omega) ?_
      refine r_cge iX1_meeting_28 (by omega) (fun h28 => ?_) (fun h28 => ?_)
      · refine r_ldn iX1_meeting_88 rfl ?_
        refine r_iret iX1_meeting_89 rfl ?_
        have e1 : q = (2 ^ (M 1 0).toNat - 2 : Int).toNat + 1 := by omega
        have e2 : cutQ (M 8 l) (M 9 l) (((2 ^ (M 1 0).toNat - 2 : Int).toNat : Int) + 1) = false := by
          rw [show (((2 ^ (M 1 0).toNat - 2 : Int).toNat : Int) + 1) = 2 ^ (M 1 0).toNat - 1 by omega]
          simp only [cutQ, decide_eq_false_iff_not]
          rw [bt_full hp0.2 hll.2.2.1]
          omega
        rw [e1, mt_skip e2] at hb
        exact ⟨by rw [hb], rfl⟩
      · refine r_ld iX1_meeting_31 rfl ?_
        refine r_aldn iX1_meeting_33 rfl ?_
        refine r_getr iX1_meeting_34 flX1_40 rfl rfl ?_
        refine r_ldn iX1_meeting_37 rfl ?_
        refine r_ial iX1_meeting_38 rfl (by omega) ?_
        refine r_shr iX1_meeting_39 (by omega) (by omega) ?_
        refine r_con iX1_meeting_40 ?_
        refine r_and1 iX1_meeting_41 (dv_rng (by omega)) ?_
        refine r_ifeq iX1_meeting_42 (by omega) (fun h42 => ?_) (fun h42 => ?_)
        · have hq : ¬ cutQ (M 8 l) (M 9 l) i = true := by simp only [cutQ, decide_eq_true_eq]; unfold bt; omega
          refine r_inc iX1_meeting_82 rfl (by decide) rfl ?_
          refine r_goto iX1_meeting_85 ?_
          exact ih (i + 1) _ _ (q + 1) _ (by omega) (by omega) (by simp only [mt]; rw [hb, ← h0]; rw [if_neg (fun z => hq z.1)]) (by omega) (by exact hm) (by omega)
        · refine r_ld iX1_meeting_45 rfl ?_
          refine r_aldn iX1_meeting_47 rfl ?_
          refine r_getr iX1_meeting_48 flX1_43 rfl rfl ?_
          refine r_ldn iX1_meeting_51 rfl ?_
          refine r_ial iX1_meeting_52 rfl (by omega) ?_
          refine r_shr iX1_meeting_53 (by omega) (by omega) ?_
          refine r_con iX1_meeting_54 ?_
          refine r_and1 iX1_meeting_55 (dv_rng (by omega)) ?_
          refine r_ifeq iX1_meeting_56 (by omega) (fun h56 => ?_) (fun h56 => ?_)
          · have hq : cutQ (M 8 l) (M 9 l) i = true := by simp only [cutQ, decide_eq_true_eq]; unfold bt; omega
            have hwi := wall_bd hN i
            have hwb := wall_bd hN bb
            refine r_aldn iX1_meeting_62 rfl ?_
            refine r_ld iX1_meeting_63 rfl ?_
            refine call_S2i iX1_meeting_65 clX1_53 myX1_wallOf rfl (sX1_wallF _ _ (by omega) hN) ?_
            refine r_st iX1_meeting_68 (by decide) rfl ?_
            refine r_ld iX1_meeting_70 rfl ?_
            refine r_ldn iX1_meeting_72 rfl ?_
            refine r_cge iX1_meeting_73 (by omega) (fun h73 => ?_) (fun h73 => ?_)
            · refine r_inc iX1_meeting_82 rfl (by decide) rfl ?_
              refine r_goto iX1_meeting_85 ?_
              exact ih (i + 1) _ _ (q + 1) _ (by omega) (by omega) (by simp only [mt]; rw [hb, ← h0]; rw [if_neg (by rintro ⟨-, z | z⟩; omega; rw [← hm] at z; omega)]) (by omega) (by exact hm) (by omega)
            · refine r_ld iX1_meeting_76 rfl ?_
              refine r_stn iX1_meeting_78 (by decide) rfl ?_
              refine r_ld iX1_meeting_79 rfl ?_
              refine r_stn iX1_meeting_81 (by decide) rfl ?_
              refine r_inc iX1_meeting_82 rfl (by decide) rfl ?_
              refine r_goto iX1_meeting_85 ?_
              exact ih (i + 1) _ _ (q + 1) _ (by omega) (by omega) (by simp only [mt]; rw [hb, ← h0]; rw [if_pos ⟨hq, Or.inr (by rw [← hm]; exact h73)⟩]) (by omega) (by rfl) (by omega)
          · have hq : ¬ cutQ (M 8 l) (M 9 l) i = true := by simp only [cutQ, decide_eq_true_eq]; unfold bt; omega
            refine r_goto iX1_meeting_59 ?_
            refine r_inc iX1_meeting_82 rfl (by decide) rfl ?_
            refine r_goto iX1_meeting_85 ?_
            exact ih (i + 1) _ _ (q + 1) _ (by omega) (by omega) (by simp only [mt]; rw [hb, ← h0]; rw [if_neg (fun z => hq z.1)]) (by omega) (by exact hm) (by omega)
  refine r_con iX1_meeting_0 ?_
  refine r_aldn iX1_meeting_1 rfl ?_
  refine r_getr iX1_meeting_2 flX1_40 rfl rfl ?_
  refine r_ldn iX1_meeting_5 rfl ?_
  refine r_ial iX1_meeting_6 rfl (by omega) ?_
  refine r_shl iX1_meeting_7 (by omega) ?_
  refine r_stn iX1_meeting_8 (by decide) rfl ?_
  refine r_aldn iX1_meeting_9 rfl ?_
  refine r_ldn iX1_meeting_10 rfl ?_
  refine call_S2i iX1_meeting_11 clX1_53 myX1_wallOf rfl (sX1_wallF _ _ (by omega) hN) ?_
  refine r_stn iX1_meeting_14 (by decide) rfl ?_
  refine r_ldn iX1_meeting_15 rfl ?_
  refine r_con iX1_meeting_16 ?_
  refine r_add iX1_meeting_17 ?_
  refine r_st iX1_meeting_18 (by decide) rfl ?_
  have e0 : mt (wallF (M 1) (M 2) (M 3) (M 4)) (cutQ (M 8 l) (M 9 l)) (2 ^ (M 8 l).toNat - 1 : Int).toNat = -1 := mt_none (fun c h5 h6 => by simp only [cutQ, decide_eq_false_iff_not]; rw [bt_low (by omega) (by omega)]; omega)
  have e1 : mt (wallF (M 1) (M 2) (M 3) (M 4)) (cutQ (M 8 l) (M 9 l)) (2 ^ (M 8 l).toNat : Int).toNat = 2 ^ (M 8 l).toNat := by
    rw [show (2 ^ (M 8 l).toNat : Int).toNat = (2 ^ (M 8 l).toNat - 1 : Int).toNat + 1 by omega]
    simp only [mt]
    rw [e0, if_pos]
    · omega
    · refine ⟨?_, Or.inl (by omega)⟩
      rw [show (((2 ^ (M 8 l).toNat - 1 : Int).toNat : Int) + 1) = 2 ^ (M 8 l).toNat by omega]
      simp only [cutQ, decide_eq_true_eq]
      exact ⟨bt_self _, bt_oth (by omega) (by omega) hll.2.2.2.1⟩
  exact L (2 ^ (M 1 0).toNat : Int).toNat _ _ _ (2 ^ (M 8 l).toNat : Int).toNat _ (by omega) (by omega) e1 (by omega) rfl (by omega)
theorem sX6_forget (d : Nat) : Ex LyC g d mX6_forget [vr 27] M (PV (mset M 32 (fillN (M 32) 5 0))) := by
  refine Ex.in [some (vr 27), none] (by decide +kernel) rfl (Nat.le_of_ble_eq_true rfl) ?_ rfl
  have L : ∀ (n9 : Nat) (i : Int), (0 ≤ i) → (i ≤ 5) → 5 - i < n9 → R LyC g mX6_forget (d) 2 [some (vr 27), some (vi i)] [] (mset M 32 (fillN (M 32) i 0)) (PV (mset M 32 (fillN (M 32) 5 0))) := by
    intro n9
    induction n9 with
    | zero =>
      intro i h0 h1 hm9
      omega
    | succ n9 ih =>
      intro i h0 h1 hm9
      refine r_ldn iX6_forget_2 rfl ?_
      refine r_con iX6_forget_3 ?_
      refine r_cge iX6_forget_4 (by omega) (fun h4 => ?_) (fun h4 => ?_)
      · refine r_vret iX6_forget_20 rfl ?_
        rw [show i = 5 by omega]
        exact ⟨rfl, rfl⟩
      · refine r_aldn iX6_forget_7 rfl ?_
        refine r_getr iX6_forget_8 flX6_24 rfl rfl ?_
        refine r_ldn iX6_forget_11 rfl ?_
        refine r_con iX6_forget_12 ?_
        refine r_zas iX6_forget_13 rfl (by omega) (by omega) ?_
        refine r_inc iX6_forget_14 rfl (by decide) rfl ?_
        refine r_goto iX6_forget_17 ?_
        rw [mset_s, mset_mset, fillN_1 h0]
        exact ih (i + 1) (by omega) (by omega) (by omega)
  refine r_con iX6_forget_0 ?_
  refine r_stn iX6_forget_1 (by decide) rfl ?_
  have L0 := L 6 0 (by omega) (by omega) (by omega)
  rw [fillN_0, mset_eq rfl] at L0
  exact L0
theorem sX6_has (d : Nat) (l i : Int) (hl0 : 0 ≤ l ∧ l < 5) (hi : -2147483648 ≤ i ∧ i ≤ 2147483647) (hc : 0 ≤ M 28 l ∧ M 28 l ≤ 8) : Ex LyC g (d + 1) mX6_has [vr 27, vi l, vi i] M (PI (if 0 ≤ i ∧ i < M 28 l then 1 else 0) M) := by
  refine Ex.in [some (vr 27), some (vi l), some (vi i)] (by decide +kernel) rfl (Nat.le_of_ble_eq_true rfl) ?_ rfl
  refine r_ldn iX6_has_0 rfl ?_
  refine r_con iX6_has_1 ?_
  refine r_aldn iX6_has_2 rfl ?_
  refine r_getr iX6_has_3 flX6_9 rfl rfl ?_
  refine r_ldn iX6_has_6 rfl ?_
  refine r_ial iX6_has_7 rfl (by omega) ?_
  refine r_con iX6_has_8 ?_
  refine r_sub iX6_has_9 ?_
  refine call_N3i iX6_has_10 clX6_41 myX7_isWithin rfl (sX7_isWithin _ _ _ _ (by omega)) ?_
  refine r_zret iX6_has_13 rfl (by split <;> omega) ?_
  exact ⟨by rw [ifc (show (0 ≤ i ∧ i ≤ M 28 l - 1) ↔ (0 ≤ i ∧ i < M 28 l) by omega)], rfl⟩
theorem sX6_step (d : Nat) (s k : Int) (h : 0 ≤ 8 * s + k ∧ 8 * s + k < 320) : Ex LyC g d mX6_step [vr 27, vi s, vi k] M (PI (M 31 (8 * s + k)) M) := by
  refine Ex.in [some (vr 27), some (vi s), some (vi k)] (by decide +kernel) rfl (Nat.le_of_ble_eq_true rfl) ?_ rfl
  refine r_aldn iX6_step_0 rfl ?_
  refine r_getr iX6_step_1 flX6_21 rfl rfl ?_
  refine r_ldn iX6_step_4 rfl ?_
  refine r_bip iX6_step_5 (by decide) ?_
  refine r_mul iX6_step_7 ?_
  refine r_ldn iX6_step_8 rfl ?_
  refine r_add iX6_step_9 ?_
  refine r_ial iX6_step_10 rfl (by omega) ?_
  refine r_iret iX6_step_11 rfl ?_
  exact ⟨by rw [Int.mul_comm s 8], rfl⟩
theorem sX6_goesOver (d : Nat) (s r : Int) (hs : 0 ≤ s ∧ s < 40) (hr : 0 ≤ r ∧ r ≤ 31) (hm : 0 ≤ M 30 s ∧ M 30 s ≤ 2147483647) : Ex LyC g d mX6_goesOver [vr 27, vi s, vi r] M (PI (if bt (M 30 s) r = 0 then 0 else 1) M) := by
  refine Ex.in [some (vr 27), some (vi s), some (vi r)] (by decide +kernel) rfl (Nat.le_of_ble_eq_true rfl) ?_ rfl
  refine r_aldn iX6_goesOver_0 rfl ?_
  refine r_getr iX6_goesOver_1 flX6_18 rfl rfl ?_
  refine r_ldn iX6_goesOver_4 rfl ?_
  refine r_ial iX6_goesOver_5 rfl (by omega) ?_
  refine r_ldn iX6_goesOver_6 rfl ?_
  refine r_shr iX6_goesOver_7 (by omega) (by omega) ?_
  refine r_con iX6_goesOver_8 ?_
  refine r_and1 iX6_goesOver_9 (dv_rng hm) ?_
  refine r_ifeq iX6_goesOver_10 (by omega) (fun h10 => ?_) (fun h10 => ?_)
  · refine r_con iX6_goesOver_17 ?_
    refine r_zret iX6_goesOver_18 rfl (by omega) ?_
    first | exact ⟨by unfold bt; rw [if_pos h10], rfl⟩ | exact ⟨by unfold bt; rw [if_neg h10], rfl⟩
  · refine r_con iX6_goesOver_13 ?_
    refine r_goto iX6_goesOver_14 ?_
    refine r_zret iX6_goesOver_18 rfl (by omega) ?_
    first | exact ⟨by unfold bt; rw [if_pos h10], rfl⟩ | exact ⟨by unfold bt; rw [if_neg h10], rfl⟩
theorem sX6_pricesOf (d : Nat) (s : Int) (hs : 0 ≤ s ∧ s < 40) (hv : VS M s) (hN : NB M) : Ex LyC g (d + 1) mX6_pricesOf [vr 27, vr 1, vi s] M (PI (prC (M 5) (M 29) (M 31) s) M) := by
  refine Ex.in [some (vr 27), some (vr 1), some (vi s), none, none] (by decide +kernel) rfl (Nat.le_of_ble_eq_true rfl) ?_ rfl
  obtain ⟨hp0, hr, hl, hR, hL⟩ := id hN
  obtain ⟨v1, v2, v3⟩ := id hv
  have L : ∀ (n9 : Nat) (i a : Int), (0 ≤ i) → (i ≤ M 29 s) → (a = sg (fun k => M 5 (M 31 (8 * s + k))) i) → M 29 s - i < n9 → R LyC g mX6_pricesOf (d + 1) 5 [some (vr 27), some (vr 1), some (vi s), some (vi a), some (vi i)] [] M (PI (prC (M 5) (M 29) (M 31) s) M) := by
    intro n9
    induction n9 with
    | zero =>
      intro i a h0 h1 ha hm9
      omega
    | succ n9 ih =>
      intro i a h0 h1 ha hm9
      refine r_ld iX6_pricesOf_5 rfl ?_
      refine r_aldn iX6_pricesOf_7 rfl ?_
      refine r_getr iX6_pricesOf_8 flX6_15 rfl rfl ?_
      refine r_ldn iX6_pricesOf_11 rfl ?_
      refine r_ial iX6_pricesOf_12 rfl (by omega) ?_
      refine r_cge iX6_pricesOf_13 (by omega) (fun h13 => ?_) (fun h13 => ?_)
      · refine r_ldn iX6_pricesOf_37 rfl ?_
        refine r_iret iX6_pricesOf_38 rfl ?_
        exact ⟨by rw [ha, show i = M 29 s by omega]; rfl, rfl⟩
      · have hv3 := v3 i h0 (by omega)
        refine r_ldn iX6_pricesOf_16 rfl ?_
        refine r_aldn iX6_pricesOf_17 rfl ?_
        refine r_getr iX6_pricesOf_18 flX6_45 rfl rfl ?_
        refine r_aldn iX6_pricesOf_21 rfl ?_
        refine r_ldn iX6_pricesOf_22 rfl ?_
        refine r_ld iX6_pricesOf_23 rfl ?_
        refine call_V2i iX6_pricesOf_25 clX6_50 myX6_step rfl rfl rfl rfl (sX6_step _ _ _ (by omega)) ?_
        refine r_ial iX6_pricesOf_28 rfl (by omega) ?_
        refine r_add iX6_pricesOf_29 ?_
        refine r_stn iX6_pricesOf_30 (by decide) rfl ?_
        refine r_inc iX6_pricesOf_31 rfl (by decide) rfl ?_
        refine r_goto iX6_pricesOf_34 ?_
        exact ih (i + 1) _ (by omega) (by omega) (by rw [sg_1 h0, ha]) (by omega)
  refine r_con iX6_pricesOf_0 ?_
  refine r_stn iX6_pricesOf_1 (by decide) rfl ?_
  refine r_con iX6_pricesOf_2 ?_
  refine r_st iX6_pricesOf_3 (by decide) rfl ?_
  exact L 9 0 0 (by omega) (by omega) rfl (by omega)
theorem sX6_cheapest (d : Nat) (l : Int) (h0l : 0 ≤ l ∧ l < M 1 2) (hc : 1 ≤ M 28 l) (hW : WB M) (hN : NB M) : Ex LyC g (d + 2) mX6_cheapest [vr 27, vr 1, vi l] M (PI (mn (fun i => prC (M 5) (M 29) (M 31) (8 * l + i)) (M 28 l - 1).toNat) M) := by
  refine Ex.in [some (vr 27), some (vr 1), some (vi l), none, none, none, none] (by decide +kernel) rfl (Nat.le_of_ble_eq_true rfl) ?_ rfl
  obtain ⟨hp0, hr, hl, hR, hL⟩ := id hN
  obtain ⟨w1, w2⟩ := hW l h0l.1 h0l.2
  have L : ∀ (n9 : Nat) (i bb mm : Int) (q : Nat) (w : Option MV), (i = q + 1) → (i ≤ M 28 l) → (mn (fun i => prC (M 5) (M 29) (M 31) (8 * l + i)) q = bb) → (mm = prC (M 5) (M 29) (M 31) (8 * l + bb)) → M 28 l - i < n9 → R LyC g mX6_cheapest (d + 2) 17 [some (vr 27), some (vr 1), some (vi l), some (vi bb), some (vi mm), some (vi i), w] [] M (PI (mn (fun i => prC (M 5) (M 29) (M 31) (8 * l + i)) (M 28 l - 1).toNat) M) := by
    intro n9
    induction n9 with
    | zero =>
      intro i bb mm q w h0 h1 hb hm hm9
      omega
    | succ n9 ih =>
      intro i bb mm q w h0 h1 hb hm hm9
      refine r_ld iX6_cheapest_17 rfl ?_
      refine r_aldn iX6_cheapest_19 rfl ?_
      refine r_getr iX6_cheapest_20 flX6_9 rfl rfl ?_
      refine r_ldn iX6_cheapest_23 rfl ?_
      refine r_ial iX6_cheapest_24 rfl (by omega) ?_
      refine r_cge iX6_cheapest_25 (by omega) (fun h25 => ?_) (fun h25 => ?_)
      · refine r_ldn iX6_cheapest_61 rfl ?_
        refine r_iret iX6_cheapest_62 rfl ?_
        have e1 : (M 28 l - 1).toNat = q := by omega
        exact ⟨by rw [e1, hb], rfl⟩
      · have hv1 := w2 i (by omega) (by omega)
        have hb2 := mn_rng (fun i => prC (M 5) (M 29) (M 31) (8 * l + i)) q
        have hv2 := w2 bb (by omega) (by omega)
        have hp1 := pr_bd hN hv1
        have hp2 := pr_bd hN hv2
        refine r_aldn iX6_cheapest_28 rfl ?_
        refine r_aldn iX6_cheapest_29 rfl ?_
        refine r_ldn iX6_cheapest_30 rfl ?_
        refine r_ld iX6_cheapest_31 rfl ?_
        refine call_N2i iX6_cheapest_33 clX6_54 myX7_slot rfl (sX7_slot _ _ _) ?_
        refine call_V2i iX6_cheapest_36 clX6_57 myX6_pricesOf rfl rfl rfl rfl (sX6_pricesOf _ _ (by omega) hv1 hN) ?_
        refine r_st iX6_cheapest_39 (by decide) rfl ?_
        refine r_ld iX6_cheapest_41 rfl ?_
        refine r_ld iX6_cheapest_43 rfl ?_
        refine r_cge iX6_cheapest_45 (by omega) (fun h45 => ?_) (fun h45 => ?_)
        · refine r_inc iX6_cheapest_55 rfl (by decide) rfl ?_
          refine r_goto iX6_cheapest_58 ?_
          exact ih (i + 1) _ _ (q + 1) _ (by omega) (by omega) (by simp only [mn]; rw [hb]; rw [if_neg (by rw [← h0, ← hm]; omega)]) (by exact hm) (by omega)
        · refine r_ld iX6_cheapest_48 rfl ?_
          refine r_st iX6_cheapest_50 (by decide) rfl ?_
          refine r_ld iX6_cheapest_52 rfl ?_
          refine r_stn iX6_cheapest_54 (by decide) rfl ?_
          refine r_inc iX6_cheapest_55 rfl (by decide) rfl ?_
          refine r_goto iX6_cheapest_58 ?_
          exact ih (i + 1) _ _ (q + 1) _ (by omega) (by omega) (by simp only [mn]; rw [hb]; rw [if_pos (by rw [← h0, ← hm]; omega), h0]) (by rfl) (by omega)
  refine r_con iX6_cheapest_0 ?_
  refine r_stn iX6_cheapest_1 (by decide) rfl ?_
  refine r_aldn iX6_cheapest_2 rfl ?_
  refine r_aldn iX6_cheapest_3 rfl ?_
  refine r_ldn iX6_cheapest_4 rfl ?_
  refine r_con iX6_cheapest_5 ?_
  refine call_N2i iX6_cheapest_6 clX6_54 myX7_slot rfl (sX7_slot _ _ _) ?_
  refine call_V2i iX6_cheapest_9 clX6_57 myX6_pricesOf rfl rfl rfl rfl (sX6_pricesOf _ _ (by omega) (w2 0 (by omega) (by omega)) hN) ?_
  refine r_st iX6_cheapest_12 (by decide) rfl ?_
  refine r_con iX6_cheapest_14 ?_
  refine r_st iX6_cheapest_15 (by decide) rfl ?_
  exact L 9 1 0 _ 0 _ (by omega) (by omega) rfl rfl (by omega)
end LF
