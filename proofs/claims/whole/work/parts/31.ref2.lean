/-! the reference: cuts, distances, what is free -/
def scM (M : Mem) : Int → Int := fun i => if i = 0 then M 0 0 else if i = 1 then M 0 1 else M 0 6
def aM (M : Mem) : Int → Int := fun r => M 1 (2 * r)
def bM (M : Mem) : Int → Int := fun r => M 1 (2 * r + 1)
theorem wallM_bd {M : Mem} (hN : NBm M) (c : Int) : 0 ≤ wallF (scM M) (aM M) (bM M) (M 2) c ∧ wallF (scM M) (aM M) (bM M) (M 2) c ≤ 2000 := by
  obtain ⟨hp, hr, hl, hR, hL⟩ := hN
  have h1 := sg_nn (f := fun r => if bt c (M 1 (2 * r)) = bt c (M 1 (2 * r + 1)) then 0 else M 2 r) (hi := 100) hr.1 (by omega) (fun i h0 h1 => by have := hR i h0 h1; split <;> omega) (k := 20) hr.2
  show 0 ≤ sg (fun r => if bt c (M 1 (2 * r)) = bt c (M 1 (2 * r + 1)) then 0 else M 2 r) (M 0 1) ∧ sg (fun r => if bt c (M 1 (2 * r)) = bt c (M 1 (2 * r + 1)) then 0 else M 2 r) (M 0 1) ≤ 2000
  omega
theorem callM_bd {M : Mem} (hN : NBm M) (c : Int) : 0 ≤ callF (scM M) (M 6) (M 7) (M 8) c ∧ callF (scM M) (M 6) (M 7) (M 8) c ≤ 500 := by
  obtain ⟨hp, hr, hl, hR, hL⟩ := hN
  have h1 := sg_nn (f := fun l => if bt c (M 6 l) = bt c (M 7 l) then 0 else M 8 l) (hi := 100) hl.1 (by omega) (fun i h0 h1 => by have := hL i h0 h1; split <;> omega) (k := 5) hl.2
  show 0 ≤ sg (fun l => if bt c (M 6 l) = bt c (M 7 l) then 0 else M 8 l) (M 0 6) ∧ sg (fun l => if bt c (M 6 l) = bt c (M 7 l) then 0 else M 8 l) (M 0 6) ≤ 500
  omega
def excM (M : Mem) : Int → Int := excF (scM M) (aM M) (bM M) (M 2) (M 6) (M 7) (M 8)
theorem excM_bd {M : Mem} (hN : NBm M) (c : Int) : -2000 ≤ excM M c ∧ excM M c ≤ 500 := by
  have := wallM_bd hN c
  have := callM_bd hN c
  unfold excM excF
  omega
/-- the reference's round: b to a first -/
def rdG (a b ln : Int → Int) (f : Int → Int) : Nat → Int → Int
  | 0 => f
  | n + 1 => rlx (rlx (rdG a b ln f n) (b n) (a n) (ln n)) (a n) (b n) (ln n)
theorem rdG_1 {a b ln f : Int → Int} {i : Int} (h : 0 ≤ i) : rdG a b ln f (i + 1).toNat = rlx (rlx (rdG a b ln f i.toNat) (b i) (a i) (ln i)) (a i) (b i) (ln i) := by
  rw [show (i + 1).toNat = i.toNat + 1 by omega]
  simp only [rdG]
  rw [show ((i.toNat : Nat) : Int) = i by omega]
def itG (a b ln : Int → Int) (rc : Int) (f : Int → Int) : Nat → Int → Int
  | 0 => f
  | k + 1 => rdG a b ln (itG a b ln rc f k) rc.toNat
theorem itG_1 {a b ln : Int → Int} {rc : Int} {f : Int → Int} {i : Int} (h : 0 ≤ i) : itG a b ln rc f (i + 1).toNat = rdG a b ln (itG a b ln rc f i.toNat) rc.toNat := by
  rw [show (i + 1).toNat = i.toNat + 1 by omega]
  rfl
def dsG (s : Int) : Int → Int := fun v => if v = s then 0 else 1000000
theorem dsG_b {s : Int} {f : Int → Int} : dsB (ini f (dsG s) 9) := by
  intro v h0 h1
  simp only [ini]
  rw [if_pos ⟨h0, h1⟩]
  unfold dsG
  split <;> omega
theorem itG_b {M : Mem} (hN : NBm M) {f : Int → Int} (hf : dsB f) (k : Nat) : dsB (itG (aM M) (bM M) (M 4) (M 0 1) f k) ∧ ∀ n : Nat, n ≤ (M 0 1).toNat → dsB (rdG (aM M) (bM M) (M 4) (itG (aM M) (bM M) (M 4) (M 0 1) f k) n) := by
  obtain ⟨hp0, hr, hl, hR, hL⟩ := hN
  have key : ∀ f : Int → Int, dsB f → ∀ n : Nat, n ≤ (M 0 1).toNat → dsB (rdG (aM M) (bM M) (M 4) f n) := by
    intro f hf n
    induction n with
    | zero => intro _; exact hf
    | succ n ih =>
      intro hn
      have h1 := hR n (by omega) (by omega)
      refine rlx_b (rlx_b (ih (by omega)) ?_ ?_ h1.2.2.2.1) ?_ ?_ h1.2.2.2.1 <;> simp only [aM, bM] <;> omega
  induction k with
  | zero => exact ⟨hf, key _ hf⟩
  | succ k ih => exact ⟨ih.2 _ (Nat.le_refl _), key _ (ih.2 _ (Nat.le_refl _))⟩
def frM (wm wl wr am rm : Int → Int) (lc rc s : Int) : Int := if mic (fun r => hsM wl wr s r) (fun r => rm r - usM wm wl wr am lc r) 1000000 rc.toNat < 0 then 0 else mic (fun r => hsM wl wr s r) (fun r => rm r - usM wm wl wr am lc r) 1000000 rc.toNat
theorem frM_bd (wm wl wr am rm : Int → Int) (lc rc s : Int) : 0 ≤ frM wm wl wr am rm lc rc s ∧ frM wm wl wr am rm lc rc s ≤ 1000000 := by
  have := mic_le (p := fun r => hsM wl wr s r) (f := fun r => rm r - usM wm wl wr am lc r) (c := 1000000) (n := rc.toNat)
  unfold frM
  split <;> omega
def chM (f : Int → Int) (n : Int) : Int := if n ≤ 0 then -4 else mn f (n - 1).toNat
section RB
variable {g : Gt} {M : Mem}
theorem sX8_parts (d : Nat) (c p q : Int) (hc : 0 ≤ c ∧ c ≤ 2147483647) (hp : 0 ≤ p ∧ p ≤ 31) (hq : 0 ≤ q ∧ q ≤ 31) : Ex LyM g (d) mX8_parts [vi c, vi p, vi q] M (PI (if bt c p = bt c q then 0 else 1) M) := by
  refine Ex.in [some (vi c), some (vi p), some (vi q)] (by decide +kernel) rfl (Nat.le_of_ble_eq_true rfl) ?_ rfl
  refine r_ldn iX8_parts_0 rfl ?_
  refine r_ldn iX8_parts_1 rfl ?_
  refine r_shr iX8_parts_2 (by omega) (by omega) ?_
  refine r_con iX8_parts_3 ?_
  refine r_and1 iX8_parts_4 (dv_rng hc) ?_
  refine r_ldn iX8_parts_5 rfl ?_
  refine r_ldn iX8_parts_6 rfl ?_
  refine r_shr iX8_parts_7 (by omega) (by omega) ?_
  refine r_con iX8_parts_8 ?_
  refine r_and1 iX8_parts_9 (dv_rng hc) ?_
  refine r_ceq iX8_parts_10 (⟨by have := bt_rng c p; unfold bt at this; omega, by have := bt_rng c q; unfold bt at this; omega⟩) (fun h10 => ?_) (fun h10 => ?_)
  · refine r_con iX8_parts_17 ?_
    refine r_zret iX8_parts_18 rfl (by omega) ?_
    first | exact ⟨by unfold bt; rw [if_pos h10], rfl⟩ | exact ⟨by unfold bt; rw [if_neg h10], rfl⟩
  · refine r_con iX8_parts_13 ?_
    refine r_goto iX8_parts_14 ?_
    refine r_zret iX8_parts_18 rfl (by omega) ?_
    first | exact ⟨by unfold bt; rw [if_pos h10], rfl⟩ | exact ⟨by unfold bt; rw [if_neg h10], rfl⟩
theorem sX8_wallOf (d : Nat) (c : Int) (hc : 0 ≤ c ∧ c ≤ 2147483647) (hN : NBm M) : Ex LyM g (d + 1) mX8_wallOf [vr 0, vi c] M (PI (wallF (scM M) (aM M) (bM M) (M 2) c) M) := by
  refine Ex.in [some (vr 0), some (vi c), none, none] (by decide +kernel) rfl (Nat.le_of_ble_eq_true rfl) ?_ rfl
  obtain ⟨hp0, hr, hl, hR, hL⟩ := id hN
  have L : ∀ (n9 : Nat) (i a : Int), (0 ≤ i) → (i ≤ M 0 1) → (a = sg (fun r => if bt c (M 1 (2 * r)) = bt c (M 1 (2 * r + 1)) then 0 else M 2 r) i) → M 0 1 - i < n9 → R LyM g mX8_wallOf (d + 1) 4 [some (vr 0), some (vi c), some (vi a), some (vi i)] [] M (PI (wallF (scM M) (aM M) (bM M) (M 2) c) M) := by
    intro n9
    induction n9 with
    | zero =>
      intro i a h0 h1 ha hm9
      omega
    | succ n9 ih =>
      intro i a h0 h1 ha hm9
      refine r_ldn iX8_wallOf_4 rfl ?_
      refine r_aldn iX8_wallOf_5 rfl ?_
      refine r_geti 1 iX8_wallOf_6 flX8_97 rfl rfl rfl rfl ?_
      refine r_cge iX8_wallOf_9 (by omega) (fun h9 => ?_) (fun h9 => ?_)
      · refine r_ldn iX8_wallOf_56 rfl ?_
        refine r_iret iX8_wallOf_57 rfl ?_
        exact ⟨by rw [ha, show i = M 0 1 by omega] <;> rfl, rfl⟩
      · have hri := hR i h0 (by omega)
        refine r_ldn iX8_wallOf_12 rfl ?_
        refine r_ldn iX8_wallOf_13 rfl ?_
        refine r_aldn iX8_wallOf_14 rfl ?_
        refine r_getr iX8_wallOf_15 flX8_13 rfl rfl ?_
        refine r_con iX8_wallOf_18 ?_
        refine r_ldn iX8_wallOf_19 rfl ?_
        refine r_mul iX8_wallOf_20 ?_
        refine r_ial iX8_wallOf_21 rfl (by omega) ?_
        refine r_aldn iX8_wallOf_22 rfl ?_
        refine r_getr iX8_wallOf_23 flX8_13 rfl rfl ?_
        refine r_con iX8_wallOf_26 ?_
        refine r_ldn iX8_wallOf_27 rfl ?_
        refine r_mul iX8_wallOf_28 ?_
        refine r_con iX8_wallOf_29 ?_
        refine r_add iX8_wallOf_30 ?_
        refine r_ial iX8_wallOf_31 rfl (by omega) ?_
        refine call_S3i iX8_wallOf_32 clX8_203 myX8_parts rfl (sX8_parts _ _ _ _ hc (by omega) (by omega)) ?_
        refine r_ifeq iX8_wallOf_35 (by split <;> omega) (fun h35 => ?_) (fun h35 => ?_)
        · rw [ite01] at h35
          refine r_con iX8_wallOf_47 ?_
          refine r_add iX8_wallOf_48 ?_
          refine r_stn iX8_wallOf_49 (by decide) rfl ?_
          refine r_inc iX8_wallOf_50 rfl (by decide) rfl ?_
          refine r_goto iX8_wallOf_53 ?_
          exact ih (i + 1) _ (by omega) (by omega) (by rw [sg_1 h0, ha, if_pos h35]) (by omega)
        · rw [ne_eq, ite01] at h35
          refine r_aldn iX8_wallOf_38 rfl ?_
          refine r_getr iX8_wallOf_39 flX8_17 rfl rfl ?_
          refine r_ldn iX8_wallOf_42 rfl ?_
          refine r_ial iX8_wallOf_43 rfl (by omega) ?_
          refine r_goto iX8_wallOf_44 ?_
          refine r_add iX8_wallOf_48 ?_
          refine r_stn iX8_wallOf_49 (by decide) rfl ?_
          refine r_inc iX8_wallOf_50 rfl (by decide) rfl ?_
          refine r_goto iX8_wallOf_53 ?_
          exact ih (i + 1) _ (by omega) (by omega) (by rw [sg_1 h0, ha, if_neg h35]) (by omega)
  refine r_con iX8_wallOf_0 ?_
  refine r_stn iX8_wallOf_1 (by decide) rfl ?_
  refine r_con iX8_wallOf_2 ?_
  refine r_stn iX8_wallOf_3 (by decide) rfl ?_
  exact L 21 0 0 (by omega) (by omega) rfl (by omega)
theorem sX8_callOf (d : Nat) (c : Int) (hc : 0 ≤ c ∧ c ≤ 2147483647) (hN : NBm M) : Ex LyM g (d + 1) mX8_callOf [vr 0, vi c] M (PI (callF (scM M) (M 6) (M 7) (M 8) c) M) := by
  refine Ex.in [some (vr 0), some (vi c), none, none] (by decide +kernel) rfl (Nat.le_of_ble_eq_true rfl) ?_ rfl
  obtain ⟨hp0, hr, hl, hR, hL⟩ := id hN
  have L : ∀ (n9 : Nat) (i a : Int), (0 ≤ i) → (i ≤ M 0 6) → (a = sg (fun l => if bt c (M 6 l) = bt c (M 7 l) then 0 else M 8 l) i) → M 0 6 - i < n9 → R LyM g mX8_callOf (d + 1) 4 [some (vr 0), some (vi c), some (vi a), some (vi i)] [] M (PI (callF (scM M) (M 6) (M 7) (M 8) c) M) := by
    intro n9
    induction n9 with
    | zero =>
      intro i a h0 h1 ha hm9
      omega
    | succ n9 ih =>
      intro i a h0 h1 ha hm9
      refine r_ldn iX8_callOf_4 rfl ?_
      refine r_aldn iX8_callOf_5 rfl ?_
      refine r_geti 6 iX8_callOf_6 flX8_100 rfl rfl rfl rfl ?_
      refine r_cge iX8_callOf_9 (by omega) (fun h9 => ?_) (fun h9 => ?_)
      · refine r_ldn iX8_callOf_50 rfl ?_
        refine r_iret iX8_callOf_51 rfl ?_
        exact ⟨by rw [ha, show i = M 0 6 by omega] <;> rfl, rfl⟩
      · have hri := hL i h0 (by omega)
        refine r_ldn iX8_callOf_12 rfl ?_
        refine r_ldn iX8_callOf_13 rfl ?_
        refine r_aldn iX8_callOf_14 rfl ?_
        refine r_getr iX8_callOf_15 flX8_29 rfl rfl ?_
        refine r_ldn iX8_callOf_18 rfl ?_
        refine r_ial iX8_callOf_19 rfl (by omega) ?_
        refine r_aldn iX8_callOf_20 rfl ?_
        refine r_getr iX8_callOf_21 flX8_32 rfl rfl ?_
        refine r_ldn iX8_callOf_24 rfl ?_
        refine r_ial iX8_callOf_25 rfl (by omega) ?_
        refine call_S3i iX8_callOf_26 clX8_203 myX8_parts rfl (sX8_parts _ _ _ _ hc (by omega) (by omega)) ?_
        refine r_ifeq iX8_callOf_29 (by split <;> omega) (fun h29 => ?_) (fun h29 => ?_)
        · rw [ite01] at h29
          refine r_con iX8_callOf_41 ?_
          refine r_add iX8_callOf_42 ?_
          refine r_stn iX8_callOf_43 (by decide) rfl ?_
          refine r_inc iX8_callOf_44 rfl (by decide) rfl ?_
          refine r_goto iX8_callOf_47 ?_
          exact ih (i + 1) _ (by omega) (by omega) (by rw [sg_1 h0, ha, if_pos h29]) (by omega)
        · rw [ne_eq, ite01] at h29
          refine r_aldn iX8_callOf_32 rfl ?_
          refine r_getr iX8_callOf_33 flX8_35 rfl rfl ?_
          refine r_ldn iX8_callOf_36 rfl ?_
          refine r_ial iX8_callOf_37 rfl (by omega) ?_
          refine r_goto iX8_callOf_38 ?_
          refine r_add iX8_callOf_42 ?_
          refine r_stn iX8_callOf_43 (by decide) rfl ?_
          refine r_inc iX8_callOf_44 rfl (by decide) rfl ?_
          refine r_goto iX8_callOf_47 ?_
          exact ih (i + 1) _ (by omega) (by omega) (by rw [sg_1 h0, ha, if_neg h29]) (by omega)
  refine r_con iX8_callOf_0 ?_
  refine r_stn iX8_callOf_1 (by decide) rfl ?_
  refine r_con iX8_callOf_2 ?_
  refine r_stn iX8_callOf_3 (by decide) rfl ?_
  exact L 6 0 0 (by omega) (by omega) rfl (by omega)
theorem sX8_isCut (d : Nat) (c : Int) (hc : -2147483648 ≤ c ∧ c ≤ 2147483647) (hN : NBm M) : Ex LyM g (d) mX8_isCut [vr 0, vi c] M (PI (if 0 < c ∧ c < 2 ^ (M 0 0).toNat - 1 then 1 else 0) M) := by
  refine Ex.in [some (vr 0), some (vi c)] (by decide +kernel) rfl (Nat.le_of_ble_eq_true rfl) ?_ rfl
  obtain ⟨hp0, hr, hl, hR, hL⟩ := id hN
  have h2 := pw_le hp0.1 hp0.2
  refine r_ldn iX8_isCut_0 rfl ?_
  refine r_ifle iX8_isCut_1 (by omega) (fun h1 => ?_) (fun h1 => ?_)
  · refine r_con iX8_isCut_20 ?_
    refine r_zret iX8_isCut_21 rfl (by omega) ?_
    first | exact ⟨by rw [if_pos (by omega)], rfl⟩ | exact ⟨by rw [if_neg (by omega)], rfl⟩
  · refine r_ldn iX8_isCut_4 rfl ?_
    refine r_con iX8_isCut_5 ?_
    refine r_aldn iX8_isCut_6 rfl ?_
    refine r_geti 0 iX8_isCut_7 flX8_7 rfl rfl rfl rfl ?_
    refine r_shl iX8_isCut_10 (by omega) ?_
    refine r_con iX8_isCut_11 ?_
    refine r_sub iX8_isCut_12 ?_
    refine r_cge iX8_isCut_13 (by omega) (fun h13 => ?_) (fun h13 => ?_)
    · refine r_con iX8_isCut_20 ?_
      refine r_zret iX8_isCut_21 rfl (by omega) ?_
      first | exact ⟨by rw [if_pos (by omega)], rfl⟩ | exact ⟨by rw [if_neg (by omega)], rfl⟩
    · refine r_con iX8_isCut_16 ?_
      refine r_goto iX8_isCut_17 ?_
      refine r_zret iX8_isCut_21 rfl (by omega) ?_
      first | exact ⟨by rw [if_pos (by omega)], rfl⟩ | exact ⟨by rw [if_neg (by omega)], rfl⟩
theorem mx_pos {f : Int → Int} : ∀ {q : Nat} {b m : Int}, mx f q = (b, m) → 0 ≤ b ∧ b ≤ q ∧ 0 ≤ m ∧ (b = 0 ↔ m = 0)
  | 0, b, m, h => by simp [mx] at h; omega
  | q + 1, b, m, h => by
    have ih := mx_pos (f := f) (q := q) (b := (mx f q).1) (m := (mx f q).2) rfl
    simp only [mx] at h
    split at h
    · cases h; omega
    · rw [h] at ih; omega
theorem sX8_barringCut (d : Nat) (hN : NBm M) : Ex LyM g (d + 2) mX8_barringCut [vr 0] M (PI (if (mx (excM M) (2 ^ (M 0 0).toNat - 2 : Int).toNat).1 = 0 then -4 else (mx (excM M) (2 ^ (M 0 0).toNat - 2 : Int).toNat).1) M) := by
  refine Ex.in [some (vr 0), none, none, none, none] (by decide +kernel) rfl (Nat.le_of_ble_eq_true rfl) ?_ rfl
  obtain ⟨hp0, hr, hl, hR, hL⟩ := id hN
  have h2 := pw_le hp0.1 hp0.2
  have L : ∀ (n9 : Nat) (i bb mm : Int) (q : Nat) (w : Option MV), (i = q + 1) → (i ≤ 2 ^ (M 0 0).toNat - 1) → (mx (excM M) q = (bb, mm)) → 2 ^ (M 0 0).toNat - i < n9 → R LyM g mX8_barringCut (d + 2) 7 [some (vr 0), some (vi (if bb = 0 then -4 else bb)), some (vi mm), some (vi i), w] [] M (PI (if (mx (excM M) (2 ^ (M 0 0).toNat - 2 : Int).toNat).1 = 0 then -4 else (mx (excM M) (2 ^ (M 0 0).toNat - 2 : Int).toNat).1) M) := by
    intro n9
    induction n9 with
    | zero =>
      intro i bb mm q w h0 h1 hb hm9
      omega
    | succ n9 ih =>
      intro i bb mm q w h0 h1 hb hm9
      refine r_aldn iX8_barringCut_7 rfl ?_
      refine r_ldn iX8_barringCut_8 rfl ?_
      refine call_V1i iX8_barringCut_9 clX8_206 myX8_isCut rfl rfl rfl rfl (sX8_isCut _ _ (by omega) hN) ?_
      refine r_ifeq iX8_barringCut_12 (by split <;> omega) (fun h12 => ?_) (fun h12 => ?_)
      · rw [ite10] at h12
        refine r_ldn iX8_barringCut_59 rfl ?_
        refine r_iret iX8_barringCut_60 rfl ?_
        have e1 : (2 ^ (M 0 0).toNat - 2 : Int).toNat = q := by omega
        rw [e1, hb]
        exact ⟨rfl, rfl⟩
      · rw [ne_eq, ite10n] at h12
        have hx := excM_bd hN i
        have hmm := mx_bd (fun c => excM_bd hN c) hb
        have hmp := mx_pos hb
        have hw1 := wallM_bd hN i
        have hc1 := callM_bd hN i
        have e0 : excM M i = callF (scM M) (M 6) (M 7) (M 8) i - wallF (scM M) (aM M) (bM M) (M 2) i := rfl
        refine r_aldn iX8_barringCut_15 rfl ?_
        refine r_ldn iX8_barringCut_16 rfl ?_
        refine call_V1i iX8_barringCut_17 clX8_209 myX8_callOf rfl rfl rfl rfl (sX8_callOf _ _ (by omega) hN) ?_
        refine r_aldn iX8_barringCut_20 rfl ?_
        refine r_ldn iX8_barringCut_21 rfl ?_
        refine call_V1i iX8_barringCut_22 clX8_154 myX8_wallOf rfl rfl rfl rfl (sX8_wallOf _ _ (by omega) hN) ?_
        refine r_sub iX8_barringCut_25 ?_
        refine r_st iX8_barringCut_26 (by decide) rfl ?_
        refine r_ld iX8_barringCut_28 rfl ?_
        refine r_ldn iX8_barringCut_30 rfl ?_
        refine r_cle iX8_barringCut_31 (by omega) (fun h31 => ?_) (fun h31 => ?_)
        · refine r_ldn iX8_barringCut_38 rfl ?_
          refine r_stn iX8_barringCut_39 (by decide) rfl ?_
          refine r_ld iX8_barringCut_40 rfl ?_
          refine r_ldn iX8_barringCut_42 rfl ?_
          refine r_cle iX8_barringCut_43 (by omega) (fun h43 => ?_) (fun h43 => ?_)
          · refine r_ldn iX8_barringCut_51 rfl ?_
            refine r_stn iX8_barringCut_52 (by decide) rfl ?_
            refine r_inc iX8_barringCut_53 rfl (by decide) rfl ?_
            refine r_goto iX8_barringCut_56 ?_
            have e1 := mx_1 hb
            rw [← h0, if_neg (by omega)] at e1
            exact ih (i + 1) bb mm (q + 1) _ (by omega) (by omega) e1 (by omega)
          · refine r_ld iX8_barringCut_46 rfl ?_
            refine r_goto iX8_barringCut_48 ?_
            refine r_stn iX8_barringCut_52 (by decide) rfl ?_
            refine r_inc iX8_barringCut_53 rfl (by decide) rfl ?_
            refine r_goto iX8_barringCut_56 ?_
            exfalso; omega
        · refine r_ldn iX8_barringCut_34 rfl ?_
          refine r_goto iX8_barringCut_35 ?_
          refine r_stn iX8_barringCut_39 (by decide) rfl ?_
          refine r_ld iX8_barringCut_40 rfl ?_
          refine r_ldn iX8_barringCut_42 rfl ?_
          refine r_cle iX8_barringCut_43 (by omega) (fun h43 => ?_) (fun h43 => ?_)
          · refine r_ldn iX8_barringCut_51 rfl ?_
            refine r_stn iX8_barringCut_52 (by decide) rfl ?_
            refine r_inc iX8_barringCut_53 rfl (by decide) rfl ?_
            refine r_goto iX8_barringCut_56 ?_
            exfalso; omega
          · refine r_ld iX8_barringCut_46 rfl ?_
            refine r_goto iX8_barringCut_48 ?_
            refine r_stn iX8_barringCut_52 (by decide) rfl ?_
            refine r_inc iX8_barringCut_53 rfl (by decide) rfl ?_
            refine r_goto iX8_barringCut_56 ?_
            have e1 := mx_1 hb
            rw [← h0, if_pos (by omega)] at e1
            have e2 : (if i = 0 then (-4 : Int) else i) = i := if_neg (by omega)
            have ih1 := fun w => ih (i + 1) i (excM M i) (q + 1) w (by omega) (by omega) e1 (by omega)
            simp only [e2] at ih1
            exact ih1 _
  refine r_bip iX8_barringCut_0 (by decide) ?_
  refine r_stn iX8_barringCut_2 (by decide) rfl ?_
  refine r_con iX8_barringCut_3 ?_
  refine r_stn iX8_barringCut_4 (by decide) rfl ?_
  refine r_con iX8_barringCut_5 ?_
  refine r_stn iX8_barringCut_6 (by decide) rfl ?_
  exact L (2 ^ (M 0 0).toNat : Int).toNat 1 0 0 0 _ (by omega) (by omega) rfl (by omega)
theorem mt_rng (f : Int → Int) (q : Int → Bool) : ∀ k : Nat, -1 ≤ mt f q k ∧ mt f q k ≤ k
  | 0 => by simp [mt]
  | k + 1 => by
    have := mt_rng f q k
    simp only [mt]
    split <;> omega
theorem sX8_mostAt (d : Nat) (l : Int) (h0l : 0 ≤ l ∧ l < M 0 6) (hN : NBm M) : Ex LyM g (d + 2) mX8_mostAt [vr 0, vi l] M (PI (mt (wallF (scM M) (aM M) (bM M) (M 2)) (cutQ (M 6 l) (M 7 l)) (2 ^ (M 0 0).toNat - 2 : Int).toNat) M) := by
  refine Ex.in [some (vr 0), some (vi l), none, none, none] (by decide +kernel) rfl (Nat.le_of_ble_eq_true rfl) ?_ rfl
  obtain ⟨hp0, hr, hl, hR, hL⟩ := id hN
  have h2 := pw_le hp0.1 hp0.2
  have hll := hL l h0l.1 h0l.2
  have L : ∀ (n9 : Nat) (i bb : Int) (q : Nat) (w : Option MV), (i = q + 1) → (i ≤ 2 ^ (M 0 0).toNat - 1) → (mt (wallF (scM M) (aM M) (bM M) (M 2)) (cutQ (M 6 l) (M 7 l)) q = bb) → 2 ^ (M 0 0).toNat - i < n9 → R LyM g mX8_mostAt (d + 2) 4 [some (vr 0), some (vi l), some (vi bb), some (vi i), w] [] M (PI (mt (wallF (scM M) (aM M) (bM M) (M 2)) (cutQ (M 6 l) (M 7 l)) (2 ^ (M 0 0).toNat - 2 : Int).toNat) M) := by
    intro n9
    induction n9 with
    | zero =>
      intro i bb q w h0 h1 hb hm9
      omega
    | succ n9 ih =>
      intro i bb q w h0 h1 hb hm9
      refine r_aldn iX8_mostAt_4 rfl ?_
      refine r_ldn iX8_mostAt_5 rfl ?_
      refine call_V1i iX8_mostAt_6 clX8_206 myX8_isCut rfl rfl rfl rfl (sX8_isCut _ _ (by omega) hN) ?_
      refine r_ifeq iX8_mostAt_9 (by split <;> omega) (fun h9 => ?_) (fun h9 => ?_)
      · rw [ite10] at h9
        refine r_ldn iX8_mostAt_80 rfl ?_
        refine r_iret iX8_mostAt_81 rfl ?_
        have e1 : (2 ^ (M 0 0).toNat - 2 : Int).toNat = q := by omega
        exact ⟨by rw [e1, hb], rfl⟩
      · rw [ne_eq, ite10n] at h9
        have hbr := mt_rng (wallF (scM M) (aM M) (bM M) (M 2)) (cutQ (M 6 l) (M 7 l)) q
        rw [hb] at hbr
        refine r_ldn iX8_mostAt_12 rfl ?_
        refine r_aldn iX8_mostAt_13 rfl ?_
        refine r_getr iX8_mostAt_14 flX8_29 rfl rfl ?_
        refine r_ldn iX8_mostAt_17 rfl ?_
        refine r_ial iX8_mostAt_18 rfl (by omega) ?_
        refine r_shr iX8_mostAt_19 (by omega) (by omega) ?_
        refine r_con iX8_mostAt_20 ?_
        refine r_and1 iX8_mostAt_21 (dv_rng (by omega)) ?_
        refine r_con iX8_mostAt_22 ?_
        refine r_cne iX8_mostAt_23 (by omega) (fun h23 => ?_) (fun h23 => ?_)
        · have hq : ¬ cutQ (M 6 l) (M 7 l) i = true := by simp only [cutQ, decide_eq_true_eq]; unfold bt; omega
          refine r_con iX8_mostAt_43 ?_
          refine r_st iX8_mostAt_44 (by decide) rfl ?_
          refine r_ld iX8_mostAt_46 rfl ?_
          refine r_ifeq iX8_mostAt_48 (by omega) (fun h48 => ?_) (fun h48 => ?_)
          · refine r_ldn iX8_mostAt_72 rfl ?_
            refine r_stn iX8_mostAt_73 (by decide) rfl ?_
            refine r_inc iX8_mostAt_74 rfl (by decide) rfl ?_
            refine r_goto iX8_mostAt_77 ?_
            exact ih (i + 1) _ (q + 1) _ (by omega) (by omega) (by simp only [mt]; rw [hb, ← h0]; rw [if_neg (fun z => hq z.1)]) (by omega)
          · exfalso; omega
        · refine r_ldn iX8_mostAt_26 rfl ?_
          refine r_aldn iX8_mostAt_27 rfl ?_
          refine r_getr iX8_mostAt_28 flX8_32 rfl rfl ?_
          refine r_ldn iX8_mostAt_31 rfl ?_
          refine r_ial iX8_mostAt_32 rfl (by omega) ?_
          refine r_shr iX8_mostAt_33 (by omega) (by omega) ?_
          refine r_con iX8_mostAt_34 ?_
          refine r_and1 iX8_mostAt_35 (dv_rng (by omega)) ?_
          refine r_ifne iX8_mostAt_36 (by omega) (fun h36 => ?_) (fun h36 => ?_)
          · have hq : ¬ cutQ (M 6 l) (M 7 l) i = true := by simp only [cutQ, decide_eq_true_eq]; unfold bt; omega
            refine r_con iX8_mostAt_43 ?_
            refine r_st iX8_mostAt_44 (by decide) rfl ?_
            refine r_ld iX8_mostAt_46 rfl ?_
            refine r_ifeq iX8_mostAt_48 (by omega) (fun h48 => ?_) (fun h48 => ?_)
            · refine r_ldn iX8_mostAt_72 rfl ?_
              refine r_stn iX8_mostAt_73 (by decide) rfl ?_
              refine r_inc iX8_mostAt_74 rfl (by decide) rfl ?_
              refine r_goto iX8_mostAt_77 ?_
              exact ih (i + 1) _ (q + 1) _ (by omega) (by omega) (by simp only [mt]; rw [hb, ← h0]; rw [if_neg (fun z => hq z.1)]) (by omega)
            · exfalso; omega
          · have hq : cutQ (M 6 l) (M 7 l) i = true := by simp only [cutQ, decide_eq_true_eq]; unfold bt; omega
            refine r_con iX8_mostAt_39 ?_
            refine r_goto iX8_mostAt_40 ?_
            refine r_st iX8_mostAt_44 (by decide) rfl ?_
            refine r_ld iX8_mostAt_46 rfl ?_
            refine r_ifeq iX8_mostAt_48 (by omega) (fun h48 => ?_) (fun h48 => ?_)
            · exfalso; omega
            · refine r_ldn iX8_mostAt_51 rfl ?_
              refine r_iflt iX8_mostAt_52 (by omega) (fun h52 => ?_) (fun h52 => ?_)
              · refine r_ldn iX8_mostAt_68 rfl ?_
                refine r_goto iX8_mostAt_69 ?_
                refine r_stn iX8_mostAt_73 (by decide) rfl ?_
                refine r_inc iX8_mostAt_74 rfl (by decide) rfl ?_
                refine r_goto iX8_mostAt_77 ?_
                exact ih (i + 1) _ (q + 1) _ (by omega) (by omega) (by simp only [mt]; rw [hb, ← h0]; rw [if_pos ⟨hq, Or.inl h52⟩]) (by omega)
              · have hw1 := wallM_bd hN i
                have hw2 := wallM_bd hN bb
                refine r_aldn iX8_mostAt_55 rfl ?_
                refine r_ldn iX8_mostAt_56 rfl ?_
                refine call_V1i iX8_mostAt_57 clX8_154 myX8_wallOf rfl rfl rfl rfl (sX8_wallOf _ _ (by omega) hN) ?_
                refine r_aldn iX8_mostAt_60 rfl ?_
                refine r_ldn iX8_mostAt_61 rfl ?_
                refine call_V1i iX8_mostAt_62 clX8_154 myX8_wallOf rfl rfl rfl rfl (sX8_wallOf _ _ (by omega) hN) ?_
                refine r_cge iX8_mostAt_65 (by omega) (fun h65 => ?_) (fun h65 => ?_)
                · refine r_ldn iX8_mostAt_72 rfl ?_
                  refine r_stn iX8_mostAt_73 (by decide) rfl ?_
                  refine r_inc iX8_mostAt_74 rfl (by decide) rfl ?_
                  refine r_goto iX8_mostAt_77 ?_
                  exact ih (i + 1) _ (q + 1) _ (by omega) (by omega) (by simp only [mt]; rw [hb, ← h0]; rw [if_neg (fun z => by have := z.2; omega)]) (by omega)
                · refine r_ldn iX8_mostAt_68 rfl ?_
                  refine r_goto iX8_mostAt_69 ?_
                  refine r_stn iX8_mostAt_73 (by decide) rfl ?_
                  refine r_inc iX8_mostAt_74 rfl (by decide) rfl ?_
                  refine r_goto iX8_mostAt_77 ?_
                  exact ih (i + 1) _ (q + 1) _ (by omega) (by omega) (by simp only [mt]; rw [hb, ← h0]; rw [if_pos ⟨hq, Or.inr h65⟩]) (by omega)
  refine r_con iX8_mostAt_0 ?_
  refine r_stn iX8_mostAt_1 (by decide) rfl ?_
  refine r_con iX8_mostAt_2 ?_
  refine r_stn iX8_mostAt_3 (by decide) rfl ?_
  exact L (2 ^ (M 0 0).toNat : Int).toNat 1 (-1) 0 _ (by omega) (by omega) rfl (by omega)
theorem sX8_free (d : Nat) (l j : Int) (hs : 0 ≤ 8 * l + j ∧ 8 * l + j < 40) (hv : VM M (8 * l + j)) (hW : WBm M) (hA : AVm M) (hN : NBm M) : Ex LyM g (d + 2) mX8_free [vr 0, vi l, vi j] M (PI (frM (M 11) (M 12) (M 13) (M 10) (M 2) (M 0 6) (M 0 1) (8 * l + j)) M) := by
  refine Ex.in [some (vr 0), some (vi l), some (vi j), none, none, none] (by decide +kernel) rfl (Nat.le_of_ble_eq_true rfl) ?_ rfl
  obtain ⟨hp0, hr, hl, hR, hL⟩ := id hN
  have L : ∀ (n9 : Nat) (i a : Int) (w : Option MV), (0 ≤ i) → (i ≤ M 0 1) → (a = mic (fun r => hsM (M 12) (M 13) (8 * l + j) r) (fun r => M 2 r - usM (M 11) (M 12) (M 13) (M 10) (M 0 6) r) 1000000 i.toNat) → (-4000 ≤ a ∧ a ≤ 1000000) → M 0 1 - i < n9 → R LyM g mX8_free (d + 2) 6 [some (vr 0), some (vi l), some (vi j), some (vi a), some (vi i), w] [] M (PI (frM (M 11) (M 12) (M 13) (M 10) (M 2) (M 0 6) (M 0 1) (8 * l + j)) M) := by
    intro n9
    induction n9 with
    | zero =>
      intro i a w h0 h1 ha hab hm9
      omega
    | succ n9 ih =>
      intro i a w h0 h1 ha hab hm9
      refine r_ld iX8_free_6 rfl ?_
      refine r_aldn iX8_free_8 rfl ?_
      refine r_geti 1 iX8_free_9 flX8_97 rfl rfl rfl rfl ?_
      refine r_cge iX8_free_12 (by omega) (fun h12 => ?_) (fun h12 => ?_)
      · refine r_ldn iX8_free_61 rfl ?_
        refine r_ifge iX8_free_62 (by omega) (fun h62 => ?_) (fun h62 => ?_)
        · refine r_ldn iX8_free_69 rfl ?_
          refine r_iret iX8_free_70 rfl ?_
          rw [show i = M 0 1 by omega] at ha
          exact ⟨by unfold frM; rw [← ha, if_neg (by omega)], rfl⟩
        · refine r_con iX8_free_65 ?_
          refine r_goto iX8_free_66 ?_
          refine r_iret iX8_free_70 rfl ?_
          rw [show i = M 0 1 by omega] at ha
          exact ⟨by unfold frM; rw [← ha, if_pos h62], rfl⟩
      · have hri := hR i h0 (by omega)
        have hub := usM_bd hW hA hl i
        have hz := hsM_z (M 12) (M 13) (8 * l + j) i
        refine r_aldn iX8_free_15 rfl ?_
        refine r_getr iX8_free_16 flX8_17 rfl rfl ?_
        refine r_ld iX8_free_19 rfl ?_
        refine r_ial iX8_free_21 rfl (by omega) ?_
        refine r_aldn iX8_free_22 rfl ?_
        refine r_ld iX8_free_23 rfl ?_
        refine call_V1i iX8_free_25 clX8_135 myX8_used rfl rfl rfl rfl (sX8_used _ _ (by omega) hW hN) ?_
        refine r_sub iX8_free_28 ?_
        refine r_st iX8_free_29 (by decide) rfl ?_
        refine r_aldn iX8_free_31 rfl ?_
        refine r_ldn iX8_free_32 rfl ?_
        refine r_ldn iX8_free_33 rfl ?_
        refine r_ld iX8_free_34 rfl ?_
        refine call_V3i iX8_free_36 clX8_118 myX8_has rfl rfl rfl rfl (sX8_has _ _ _ _ (by omega) hv (by omega) (by omega)) ?_
        refine r_ifeq iX8_free_39 (by omega) (fun h39 => ?_) (fun h39 => ?_)
        · refine r_ldn iX8_free_53 rfl ?_
          refine r_stn iX8_free_54 (by decide) rfl ?_
          refine r_inc iX8_free_55 rfl (by decide) rfl ?_
          refine r_goto iX8_free_58 ?_
          exact ih (i + 1) _ _ (by omega) (by omega) (by rw [mic_1 h0, ← ha, if_pos h39]) (by omega) (by omega)
        · refine r_ld iX8_free_42 rfl ?_
          refine r_ldn iX8_free_44 rfl ?_
          refine r_cge iX8_free_45 (by omega) (fun h45 => ?_) (fun h45 => ?_)
          · refine r_ldn iX8_free_53 rfl ?_
            refine r_stn iX8_free_54 (by decide) rfl ?_
            refine r_inc iX8_free_55 rfl (by decide) rfl ?_
            refine r_goto iX8_free_58 ?_
            exact ih (i + 1) _ _ (by omega) (by omega) (by rw [mic_1 h0, ← ha, if_neg h39, if_neg (by omega)]) (by omega) (by omega)
          · refine r_ld iX8_free_48 rfl ?_
            refine r_goto iX8_free_50 ?_
            refine r_stn iX8_free_54 (by decide) rfl ?_
            refine r_inc iX8_free_55 rfl (by decide) rfl ?_
            refine r_goto iX8_free_58 ?_
            exact ih (i + 1) _ _ (by omega) (by omega) (by rw [mic_1 h0, ← ha, if_neg h39, if_pos h45]) (by omega) (by omega)
  refine r_ldc (n := 1000000) iX8_free_0 cnX8_160 (by decide) ?_
  refine r_stn iX8_free_2 (by decide) rfl ?_
  refine r_con iX8_free_3 ?_
  refine r_st iX8_free_4 (by decide) rfl ?_
  exact L 21 0 _ _ (by omega) (by omega) rfl (by omega) (by omega)
theorem sX8_add (d : Nat) (l i v : Int) (hs : 0 ≤ 8 * l + i ∧ 8 * l + i < 40) : Ex LyM g (d) mX8_add [vr 0, vi l, vi i, vi v] M (PI v (mset M 10 (fset (M 10) (8 * l + i) (M 10 (8 * l + i) + v)))) := by
  refine Ex.in [some (vr 0), some (vi l), some (vi i), some (vi v)] (by decide +kernel) rfl (Nat.le_of_ble_eq_true rfl) ?_ rfl
  refine r_aldn iX8_add_0 rfl ?_
  refine r_getr iX8_add_1 flX8_41 rfl rfl ?_
  refine r_bip iX8_add_4 (by decide) ?_
  refine r_ldn iX8_add_6 rfl ?_
  refine r_mul iX8_add_7 ?_
  refine r_ldn iX8_add_8 rfl ?_
  refine r_add iX8_add_9 ?_
  refine r_dup2 iX8_add_10 rfl rfl ?_
  refine r_ial iX8_add_11 rfl (by omega) ?_
  refine r_ldn iX8_add_12 rfl ?_
  refine r_add iX8_add_13 ?_
  refine r_ias iX8_add_14 rfl (by omega) ?_
  refine r_ldn iX8_add_15 rfl ?_
  refine r_iret iX8_add_16 rfl ?_
  exact ⟨rfl, rfl⟩
theorem sX8_overMany (d : Nat) (hW : WBm M) (hA : AVm M) (hN : NBm M) : Ex LyM g (d + 3) mX8_overMany [vr 0] M (PI (sg (fun r => if 0 < ovM (M 11) (M 12) (M 13) (M 10) (M 2) (M 0 6) r then 1 else 0) (M 0 1)) M) := by
  refine Ex.in [some (vr 0), none, none] (by decide +kernel) rfl (Nat.le_of_ble_eq_true rfl) ?_ rfl
  obtain ⟨hp0, hr, hl, hR, hL⟩ := id hN
  have L : ∀ (n9 : Nat) (i a : Int), (0 ≤ i) → (i ≤ M 0 1) → (a = sg (fun r => if 0 < ovM (M 11) (M 12) (M 13) (M 10) (M 2) (M 0 6) r then 1 else 0) i) → M 0 1 - i < n9 → R LyM g mX8_overMany (d + 3) 4 [some (vr 0), some (vi a), some (vi i)] [] M (PI (sg (fun r => if 0 < ovM (M 11) (M 12) (M 13) (M 10) (M 2) (M 0 6) r then 1 else 0) (M 0 1)) M) := by
    intro n9
    induction n9 with
    | zero =>
      intro i a h0 h1 ha hm9
      omega
    | succ n9 ih =>
      intro i a h0 h1 ha hm9
      refine r_ldn iX8_overMany_4 rfl ?_
      refine r_aldn iX8_overMany_5 rfl ?_
      refine r_geti 1 iX8_overMany_6 flX8_97 rfl rfl rfl rfl ?_
      refine r_cge iX8_overMany_9 (by omega) (fun h9 => ?_) (fun h9 => ?_)
      · refine r_ldn iX8_overMany_34 rfl ?_
        refine r_iret iX8_overMany_35 rfl ?_
        exact ⟨by rw [ha, show i = M 0 1 by omega] <;> rfl, rfl⟩
      · have hob := ovM_bd hN hW hA (r := i) (by omega)
        refine r_ldn iX8_overMany_12 rfl ?_
        refine r_aldn iX8_overMany_13 rfl ?_
        refine r_ldn iX8_overMany_14 rfl ?_
        refine call_V1i iX8_overMany_15 clX8_139 myX8_overOf rfl rfl rfl rfl (sX8_overOf _ _ (by omega) hW hA hN) ?_
        refine r_ifle iX8_overMany_18 (by omega) (fun h18 => ?_) (fun h18 => ?_)
        · refine r_con iX8_overMany_25 ?_
          refine r_add iX8_overMany_26 ?_
          refine r_stn iX8_overMany_27 (by decide) rfl ?_
          refine r_inc iX8_overMany_28 rfl (by decide) rfl ?_
          refine r_goto iX8_overMany_31 ?_
          exact ih (i + 1) _ (by omega) (by omega) (by rw [sg_1 h0, ha, if_neg (by omega)]) (by omega)
        · refine r_con iX8_overMany_21 ?_
          refine r_goto iX8_overMany_22 ?_
          refine r_add iX8_overMany_26 ?_
          refine r_stn iX8_overMany_27 (by decide) rfl ?_
          refine r_inc iX8_overMany_28 rfl (by decide) rfl ?_
          refine r_goto iX8_overMany_31 ?_
          exact ih (i + 1) _ (by omega) (by omega) (by rw [sg_1 h0, ha, if_pos h18]) (by omega)
  refine r_con iX8_overMany_0 ?_
  refine r_stn iX8_overMany_1 (by decide) rfl ?_
  refine r_con iX8_overMany_2 ?_
  refine r_stn iX8_overMany_3 (by decide) rfl ?_
  exact L 21 0 0 (by omega) (by omega) rfl (by omega)
theorem sX8_overAll (d : Nat) (hW : WBm M) (hA : AVm M) (hN : NBm M) : Ex LyM g (d + 3) mX8_overAll [vr 0] M (PI (sg (fun r => ovM (M 11) (M 12) (M 13) (M 10) (M 2) (M 0 6) r) (M 0 1)) M) := by
  refine Ex.in [some (vr 0), none, none] (by decide +kernel) rfl (Nat.le_of_ble_eq_true rfl) ?_ rfl
  obtain ⟨hp0, hr, hl, hR, hL⟩ := id hN
  have L : ∀ (n9 : Nat) (i a : Int), (0 ≤ i) → (i ≤ M 0 1) → (a = sg (fun r => ovM (M 11) (M 12) (M 13) (M 10) (M 2) (M 0 6) r) i) → M 0 1 - i < n9 → R LyM g mX8_overAll (d + 3) 4 [some (vr 0), some (vi a), some (vi i)] [] M (PI (sg (fun r => ovM (M 11) (M 12) (M 13) (M 10) (M 2) (M 0 6) r) (M 0 1)) M) := by
    intro n9
    induction n9 with
    | zero =>
      intro i a h0 h1 ha hm9
      omega
    | succ n9 ih =>
      intro i a h0 h1 ha hm9
      refine r_ldn iX8_overAll_4 rfl ?_
      refine r_aldn iX8_overAll_5 rfl ?_
      refine r_geti 1 iX8_overAll_6 flX8_97 rfl rfl rfl rfl ?_
      refine r_cge iX8_overAll_9 (by omega) (fun h9 => ?_) (fun h9 => ?_)
      · refine r_ldn iX8_overAll_26 rfl ?_
        refine r_iret iX8_overAll_27 rfl ?_
        exact ⟨by rw [ha, show i = M 0 1 by omega] <;> rfl, rfl⟩
      · refine r_ldn iX8_overAll_12 rfl ?_
        refine r_aldn iX8_overAll_13 rfl ?_
        refine r_ldn iX8_overAll_14 rfl ?_
        refine call_V1i iX8_overAll_15 clX8_139 myX8_overOf rfl rfl rfl rfl (sX8_overOf _ _ (by omega) hW hA hN) ?_
        refine r_add iX8_overAll_18 ?_
        refine r_stn iX8_overAll_19 (by decide) rfl ?_
        refine r_inc iX8_overAll_20 rfl (by decide) rfl ?_
        refine r_goto iX8_overAll_23 ?_
        exact ih (i + 1) _ (by omega) (by omega) (by rw [sg_1 h0, ha]) (by omega)
  refine r_con iX8_overAll_0 ?_
  refine r_stn iX8_overAll_1 (by decide) rfl ?_
  refine r_con iX8_overAll_2 ?_
  refine r_stn iX8_overAll_3 (by decide) rfl ?_
  exact L 21 0 0 (by omega) (by omega) rfl (by omega)
theorem sX8_sentAll (d : Nat) (hW : WBm M) (hN : NBm M) : Ex LyM g (d + 1) mX8_sentAll [vr 0] M (PI (sg (fun l => seM (M 11) (M 10) l) (M 0 6)) M) := by
  refine Ex.in [some (vr 0), none, none] (by decide +kernel) rfl (Nat.le_of_ble_eq_true rfl) ?_ rfl
  obtain ⟨hp0, hr, hl, hR, hL⟩ := id hN
  have L : ∀ (n9 : Nat) (i a : Int), (0 ≤ i) → (i ≤ M 0 6) → (a = sg (fun l => seM (M 11) (M 10) l) i) → M 0 6 - i < n9 → R LyM g mX8_sentAll (d + 1) 4 [some (vr 0), some (vi a), some (vi i)] [] M (PI (sg (fun l => seM (M 11) (M 10) l) (M 0 6)) M) := by
    intro n9
    induction n9 with
    | zero =>
      intro i a h0 h1 ha hm9
      omega
    | succ n9 ih =>
      intro i a h0 h1 ha hm9
      refine r_ldn iX8_sentAll_4 rfl ?_
      refine r_aldn iX8_sentAll_5 rfl ?_
      refine r_geti 6 iX8_sentAll_6 flX8_100 rfl rfl rfl rfl ?_
      refine r_cge iX8_sentAll_9 (by omega) (fun h9 => ?_) (fun h9 => ?_)
      · refine r_ldn iX8_sentAll_26 rfl ?_
        refine r_iret iX8_sentAll_27 rfl ?_
        exact ⟨by rw [ha, show i = M 0 6 by omega] <;> rfl, rfl⟩
      · refine r_ldn iX8_sentAll_12 rfl ?_
        refine r_aldn iX8_sentAll_13 rfl ?_
        refine r_ldn iX8_sentAll_14 rfl ?_
        refine call_V1i iX8_sentAll_15 clX8_148 myX8_sentOf rfl rfl rfl rfl (sX8_sentOf _ _ (by omega) hW hN) ?_
        refine r_add iX8_sentAll_18 ?_
        refine r_stn iX8_sentAll_19 (by decide) rfl ?_
        refine r_inc iX8_sentAll_20 rfl (by decide) rfl ?_
        refine r_goto iX8_sentAll_23 ?_
        exact ih (i + 1) _ (by omega) (by omega) (by rw [sg_1 h0, ha]) (by omega)
  refine r_con iX8_sentAll_0 ?_
  refine r_stn iX8_sentAll_1 (by decide) rfl ?_
  refine r_con iX8_sentAll_2 ?_
  refine r_stn iX8_sentAll_3 (by decide) rfl ?_
  exact L 6 0 0 (by omega) (by omega) rfl (by omega)
theorem sX8_sizeAll (d : Nat) (hN : NBm M) : Ex LyM g (d) mX8_sizeAll [vr 0] M (PI (sg (fun l => M 8 l) (M 0 6)) M) := by
  refine Ex.in [some (vr 0), none, none] (by decide +kernel) rfl (Nat.le_of_ble_eq_true rfl) ?_ rfl
  obtain ⟨hp0, hr, hl, hR, hL⟩ := id hN
  have L : ∀ (n9 : Nat) (i a : Int), (0 ≤ i) → (i ≤ M 0 6) → (a = sg (fun l => M 8 l) i) → M 0 6 - i < n9 → R LyM g mX8_sizeAll (d) 4 [some (vr 0), some (vi a), some (vi i)] [] M (PI (sg (fun l => M 8 l) (M 0 6)) M) := by
    intro n9
    induction n9 with
    | zero =>
      intro i a h0 h1 ha hm9
      omega
    | succ n9 ih =>
      intro i a h0 h1 ha hm9
      refine r_ldn iX8_sizeAll_4 rfl ?_
      refine r_aldn iX8_sizeAll_5 rfl ?_
      refine r_geti 6 iX8_sizeAll_6 flX8_100 rfl rfl rfl rfl ?_
      refine r_cge iX8_sizeAll_9 (by omega) (fun h9 => ?_) (fun h9 => ?_)
      · refine r_ldn iX8_sizeAll_27 rfl ?_
        refine r_iret iX8_sizeAll_28 rfl ?_
        exact ⟨by rw [ha, show i = M 0 6 by omega] <;> rfl, rfl⟩
      · refine r_ldn iX8_sizeAll_12 rfl ?_
        refine r_aldn iX8_sizeAll_13 rfl ?_
        refine r_getr iX8_sizeAll_14 flX8_35 rfl rfl ?_
        refine r_ldn iX8_sizeAll_17 rfl ?_
        refine r_ial iX8_sizeAll_18 rfl (by omega) ?_
        refine r_add iX8_sizeAll_19 ?_
        refine r_stn iX8_sizeAll_20 (by decide) rfl ?_
        refine r_inc iX8_sizeAll_21 rfl (by decide) rfl ?_
        refine r_goto iX8_sizeAll_24 ?_
        exact ih (i + 1) _ (by omega) (by omega) (by rw [sg_1 h0, ha]) (by omega)
  refine r_con iX8_sizeAll_0 ?_
  refine r_stn iX8_sizeAll_1 (by decide) rfl ?_
  refine r_con iX8_sizeAll_2 ?_
  refine r_stn iX8_sizeAll_3 (by decide) rfl ?_
  exact L 6 0 0 (by omega) (by omega) rfl (by omega)
theorem sX8_over (d : Nat) (hW : WBm M) (hA : AVm M) (hN : NBm M) : Ex LyM g (d + 3) mX8_over [vr 0] M (PI (if (fpt (fun r => ovM (M 11) (M 12) (M 13) (M 10) (M 2) (M 0 6) r) (M 0 1).toNat) < 0 then -4 else (fpt (fun r => ovM (M 11) (M 12) (M 13) (M 10) (M 2) (M 0 6) r) (M 0 1).toNat)) M) := by
  refine Ex.in [some (vr 0), none] (by decide +kernel) rfl (Nat.le_of_ble_eq_true rfl) ?_ rfl
  obtain ⟨hp0, hr, hl, hR, hL⟩ := id hN
  have L : ∀ (n9 : Nat) (i : Int), (0 ≤ i) → (i ≤ M 0 1) → (∀ j : Int, 0 ≤ j → j < i → ovM (M 11) (M 12) (M 13) (M 10) (M 2) (M 0 6) j = 0) → M 0 1 - i < n9 → R LyM g mX8_over (d + 3) 2 [some (vr 0), some (vi i)] [] M (PI (if (fpt (fun r => ovM (M 11) (M 12) (M 13) (M 10) (M 2) (M 0 6) r) (M 0 1).toNat) < 0 then -4 else (fpt (fun r => ovM (M 11) (M 12) (M 13) (M 10) (M 2) (M 0 6) r) (M 0 1).toNat)) M) := by
    intro n9
    induction n9 with
    | zero =>
      intro i h0 h1 hz hm9
      omega
    | succ n9 ih =>
      intro i h0 h1 hz hm9
      refine r_ldn iX8_over_2 rfl ?_
      refine r_aldn iX8_over_3 rfl ?_
      refine r_geti 1 iX8_over_4 flX8_97 rfl rfl rfl rfl ?_
      refine r_cge iX8_over_7 (by omega) (fun h7 => ?_) (fun h7 => ?_)
      · refine r_bip iX8_over_26 (by decide) ?_
        refine r_iret iX8_over_28 rfl ?_
        have e1 : (fpt (fun r => ovM (M 11) (M 12) (M 13) (M 10) (M 2) (M 0 6) r) (M 0 1).toNat) = -1 := fpt_no (f := fun r => ovM (M 11) (M 12) (M 13) (M 10) (M 2) (M 0 6) r) (fun j h2 h3 => hz j h2 (by omega))
        exact ⟨by rw [e1, if_pos (by decide)], rfl⟩
      · have hob := ovM_bd hN hW hA (r := i) (by omega)
        refine r_aldn iX8_over_10 rfl ?_
        refine r_ldn iX8_over_11 rfl ?_
        refine call_V1i iX8_over_12 clX8_139 myX8_overOf rfl rfl rfl rfl (sX8_overOf _ _ (by omega) hW hA hN) ?_
        refine r_ifle iX8_over_15 (by omega) (fun h15 => ?_) (fun h15 => ?_)
        · refine r_inc iX8_over_20 rfl (by decide) rfl ?_
          refine r_goto iX8_over_23 ?_
          exact ih (i + 1) (by omega) (by omega) (fun j h2 h3 => by by_cases e : j = i; rw [e]; omega; exact hz j h2 (by omega)) (by omega)
        · refine r_ldn iX8_over_18 rfl ?_
          refine r_iret iX8_over_19 rfl ?_
          have e1 : (fpt (fun r => ovM (M 11) (M 12) (M 13) (M 10) (M 2) (M 0 6) r) (M 0 1).toNat) = i := fpt_at (f := fun r => ovM (M 11) (M 12) (M 13) (M 10) (M 2) (M 0 6) r) h0 hz (by omega) (by omega)
          exact ⟨by rw [e1, if_neg (by omega)], rfl⟩
  refine r_con iX8_over_0 ?_
  refine r_stn iX8_over_1 (by decide) rfl ?_
  exact L 21 0 (by omega) (by omega) (fun j h2 h3 => by omega) (by omega)
theorem sX8_cost (d : Nat) (hW : WBm M) (hN : NBm M) : Ex LyM g (d + 2) mX8_cost [vr 0] M (PI (sg (fun l => sg (fun i => M 10 (8 * l + i) * prM (M 12) (M 13) (M 3) (M 0 1) (8 * l + i)) (M 11 l)) (M 0 6)) M) := by
  refine Ex.in [some (vr 0), none, none, none] (by decide +kernel) rfl (Nat.le_of_ble_eq_true rfl) ?_ rfl
  obtain ⟨hp0, hr, hl, hR, hL⟩ := id hN
  have L : ∀ (n9 : Nat) (l a : Int) (w : Option MV), (0 ≤ l) → (l ≤ M 0 6) → (a = sg (fun l => sg (fun i => M 10 (8 * l + i) * prM (M 12) (M 13) (M 3) (M 0 1) (8 * l + i)) (M 11 l)) l) → M 0 6 - l < n9 → R LyM g mX8_cost (d + 2) 4 [some (vr 0), some (vi a), some (vi l), w] [] M (PI (sg (fun l => sg (fun i => M 10 (8 * l + i) * prM (M 12) (M 13) (M 3) (M 0 1) (8 * l + i)) (M 11 l)) (M 0 6)) M) := by
    intro n9
    induction n9 with
    | zero =>
      intro l a w h0 h1 ha hm9
      omega
    | succ n9 ih =>
      intro l a w h0 h1 ha hm9
      have hwl := fun (hl6 : l < M 0 6) => hW l h0 hl6
      have I : ∀ (n8 : Nat) (i a : Int), (0 ≤ i) → (i ≤ M 11 l) → (l < M 0 6) → (a = sg (fun l => sg (fun i => M 10 (8 * l + i) * prM (M 12) (M 13) (M 3) (M 0 1) (8 * l + i)) (M 11 l)) l + sg (fun i => M 10 (8 * l + i) * prM (M 12) (M 13) (M 3) (M 0 1) (8 * l + i)) i) → M 11 l - i < n8 → R LyM g mX8_cost (d + 2) 14 [some (vr 0), some (vi a), some (vi l), some (vi i)] [] M (PI (sg (fun l => sg (fun i => M 10 (8 * l + i) * prM (M 12) (M 13) (M 3) (M 0 1) (8 * l + i)) (M 11 l)) (M 0 6)) M) := by
        intro n8
        induction n8 with
        | zero =>
          intro i a h0i h1i hl6 hai hm9
          omega
        | succ n8 ih2 =>
          intro i a h0i h1i hl6 hai hm9
          refine r_ldn iX8_cost_14 rfl ?_
          refine r_aldn iX8_cost_15 rfl ?_
          refine r_getr iX8_cost_16 flX8_44 rfl rfl ?_
          refine r_ldn iX8_cost_19 rfl ?_
          refine r_ial iX8_cost_20 rfl (by omega) ?_
          have hwb := (hwl hl6).1
          refine r_cge iX8_cost_21 (by omega) (fun h21 => ?_) (fun h21 => ?_)
          · refine r_inc iX8_cost_51 rfl (by decide) rfl ?_
            refine r_goto iX8_cost_54 ?_
            rw [show i = M 11 l by omega] at hai
            exact ih (l + 1) a _ (by omega) (by omega) (by rw [sg_1 h0]; exact hai) (by omega)
          · have hvi := (hwl hl6).2 i h0i (by omega)
            refine r_ldn iX8_cost_24 rfl ?_
            refine r_aldn iX8_cost_25 rfl ?_
            refine r_getr iX8_cost_26 flX8_41 rfl rfl ?_
            refine r_bip iX8_cost_29 (by decide) ?_
            refine r_ldn iX8_cost_31 rfl ?_
            refine r_mul iX8_cost_32 ?_
            refine r_ldn iX8_cost_33 rfl ?_
            refine r_add iX8_cost_34 ?_
            refine r_ial iX8_cost_35 rfl (by omega) ?_
            refine r_aldn iX8_cost_36 rfl ?_
            refine r_ldn iX8_cost_37 rfl ?_
            refine r_ldn iX8_cost_38 rfl ?_
            refine call_V2i iX8_cost_39 clX8_164 myX8_priceOf rfl rfl rfl rfl (sX8_priceOf _ _ _ (by omega) hvi hN) ?_
            refine r_mul iX8_cost_42 ?_
            refine r_add iX8_cost_43 ?_
            refine r_stn iX8_cost_44 (by decide) rfl ?_
            refine r_inc iX8_cost_45 rfl (by decide) rfl ?_
            refine r_goto iX8_cost_48 ?_
            exact ih2 (i + 1) _ (by omega) (by omega) hl6 (by rw [sg_1 h0i, hai, Int.add_assoc]) (by omega)
      refine r_ldn iX8_cost_4 rfl ?_
      refine r_aldn iX8_cost_5 rfl ?_
      refine r_geti 6 iX8_cost_6 flX8_100 rfl rfl rfl rfl ?_
      refine r_cge iX8_cost_9 (by omega) (fun h9 => ?_) (fun h9 => ?_)
      · refine r_ldn iX8_cost_57 rfl ?_
        refine r_iret iX8_cost_58 rfl ?_
        exact ⟨by rw [ha, show l = M 0 6 by omega] <;> rfl, rfl⟩
      · refine r_con iX8_cost_12 ?_
        refine r_stn iX8_cost_13 (by decide) rfl ?_
        have hwl2 := hwl (by omega)
        exact I 9 0 a (by omega) (by omega) (by omega) (by rw [sg_0, Int.add_zero]; exact ha) (by omega)
  refine r_con iX8_cost_0 ?_
  refine r_stn iX8_cost_1 (by decide) rfl ?_
  refine r_con iX8_cost_2 ?_
  refine r_stn iX8_cost_3 (by decide) rfl ?_
  exact L 6 0 0 _ (by omega) (by omega) rfl (by omega)
end RB
