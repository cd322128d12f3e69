/-! raising -/
def wyC (kd hd am : Int → Int) (l : Int) : Int := if kd l = 2 then hd l else if 0 < fpC am l then fpC am l else 0
def mkC (cn wm kd hd am : Int → Int) (l : Int) : Int := if 0 < cn l then wm (8 * l + wyC kd hd am l) else 0
def rsC (cn : Int → Int) (l : Int) : Int := if 0 < cn l then 1 else 0
/-- behind k rounds: the shares, and which rise -/
def rnC (mk sz rm : Int → Int) (lc rc : Int) (s0 : (Int → Int) × (Int → Int)) : Nat → (Int → Int) × (Int → Int)
  | 0 => s0
  | k + 1 => (upto (rnC mk sz rm lc rc s0 k).2 (rnC mk sz rm lc rc s0 k).1 (fun _ => nhC (rnC mk sz rm lc rc s0 k).1 (rnC mk sz rm lc rc s0 k).2 mk sz rm lc rc) lc,
      stC (upto (rnC mk sz rm lc rc s0 k).2 (rnC mk sz rm lc rc s0 k).1 (fun _ => nhC (rnC mk sz rm lc rc s0 k).1 (rnC mk sz rm lc rc s0 k).2 mk sz rm lc rc) lc) mk sz rm lc rc (rnC mk sz rm lc rc s0 k).2)
def ini (f v : Int → Int) (i : Int) : Int → Int := fun l => if 0 ≤ l ∧ l < i then v l else f l
theorem ini_0 (f v : Int → Int) : ini f v 0 = f := by funext l; simp only [ini]; rw [if_neg (by omega)]
theorem ini_1 {f v : Int → Int} {i : Int} (h : 0 ≤ i) : fset (ini f v i) i (v i) = ini f v (i + 1) := by
  funext l
  simp only [ini, fset]
  by_cases hl : l = i
  · subst hl; rw [if_pos rfl, if_pos (by omega)]
  · rw [if_neg hl]
    by_cases h2 : 0 ≤ l ∧ l < i
    · rw [if_pos h2, if_pos (by omega)]
    · rw [if_neg h2, if_neg (by omega)]
theorem VS.of22 {M : Mem} {f : Int → Int} {s : Int} (h : VS M s) : VS (mset M 22 f) s := h
theorem AV.put {M : Mem} {f : Int → Int} (hA : AV M) {s x : Int} (hs : VS M s) (hf : ∀ j, 0 ≤ j → j < 40 → (0 ≤ f j ∧ f j ≤ 100) ∧ (f j ≠ 0 → VS M j)) (hx : 0 ≤ x ∧ x ≤ 100) : AV (mset M 22 (fset f s x)) := by
  intro j h0 h1
  rw [mset_s]
  by_cases e : j = s
  · subst e
    rw [fset_s]
    exact ⟨hx, fun _ => hs⟩
  · rw [fset_n e]
    exact hf j h0 h1
section LJ
variable {g : Gt} {M : Mem}
theorem it_b {M : Mem} (hN : NB M) (s : Int) (f : Int → Int) (k : Nat) : dsB (itF (M 2) (M 3) (M 6) (M 1 1) (ds0 s f) k) := by
  obtain ⟨hp0, hr, hl, hR, hL⟩ := hN
  have key : ∀ f : Int → Int, dsB f → ∀ n : Nat, n ≤ (M 1 1).toNat → dsB (rdF (M 2) (M 3) (M 6) f n) := by
    intro f hf n
    induction n with
    | zero => intro _; exact hf
    | succ n ih =>
      intro hn
      have h1 := hR n (by omega) (by omega)
      exact rlx_b (rlx_b (ih (by omega)) (by omega) (by omega) h1.2.2.2.1) (by omega) (by omega) h1.2.2.2.1
  induction k with
  | zero => exact ds0_b
  | succ k ih => exact key _ ih _ (Nat.le_refl _)
theorem sX2_farOf (d : Nat) (l : Int) (h0l : 0 ≤ l ∧ l < M 1 2) (hN : NB M) : Ex LyC g (d + 2) mX2_farOf [vr 37, vr 1, vi l] M (PI (if (itF (M 2) (M 3) (M 6) (M 1 1) (ds0 (M 8 l) (M 38)) (M 1 0 - 1).toNat) (M 9 l) < 1000000 then (itF (M 2) (M 3) (M 6) (M 1 1) (ds0 (M 8 l) (M 38)) (M 1 0 - 1).toNat) (M 9 l) else -1) (mset M 38 (itF (M 2) (M 3) (M 6) (M 1 1) (ds0 (M 8 l) (M 38)) (M 1 0 - 1).toNat))) := by
  refine Ex.in [some (vr 37), some (vr 1), some (vi l), none] (by decide +kernel) rfl (Nat.le_of_ble_eq_true rfl) ?_ rfl
  obtain ⟨hp0, hr, hl, hR, hL⟩ := id hN
  have hll := hL l h0l.1 h0l.2
  have hib := it_b hN (M 8 l) (M 38) (M 1 0 - 1).toNat (M 9 l) (by omega) (by omega)
  refine r_aldn iX2_farOf_0 rfl ?_
  refine r_aldn iX2_farOf_1 rfl ?_
  refine r_aldn iX2_farOf_2 rfl ?_
  refine r_getr iX2_farOf_3 flX2_15 rfl rfl ?_
  refine r_ldn iX2_farOf_6 rfl ?_
  refine r_ial iX2_farOf_7 rfl (by omega) ?_
  refine r_aldn iX2_farOf_8 rfl ?_
  refine r_getr iX2_farOf_9 flX2_20 rfl rfl ?_
  refine call_V3v iX2_farOf_12 clX2_23 myX2_spread rfl rfl rfl rfl (sX2_spread _ _ (by omega) (fun r h0 h1 => (hR r h0 h1).2.2.2) hN) ?_
  refine r_aldn iX2_farOf_15 rfl ?_
  refine r_getr iX2_farOf_16 flX2_9 rfl rfl ?_
  refine r_aldn iX2_farOf_19 rfl ?_
  refine r_getr iX2_farOf_20 flX2_27 rfl rfl ?_
  refine r_ldn iX2_farOf_23 rfl ?_
  refine r_ial iX2_farOf_24 rfl (by omega) ?_
  refine r_ial iX2_farOf_25 rfl (by show 0 ≤ M 9 l ∧ M 9 l < _; omega) ?_
  simp only [mset_s, mset_n, ne_eq, Nat.reduceEqDiff, not_false_eq_true]
  refine r_stn iX2_farOf_26 (by decide) rfl ?_
  refine r_ldn iX2_farOf_27 rfl ?_
  refine r_ldc (n := 1000000) iX2_farOf_28 cnX2_28 (by decide) ?_
  refine r_cge iX2_farOf_30 (by omega) (fun h30 => ?_) (fun h30 => ?_)
  · refine r_con iX2_farOf_37 ?_
    refine r_iret iX2_farOf_38 rfl ?_
    exact ⟨by rw [if_neg (by omega)], rfl⟩
  · refine r_ldn iX2_farOf_33 rfl ?_
    refine r_goto iX2_farOf_34 ?_
    refine r_iret iX2_farOf_38 rfl ?_
    exact ⟨by rw [if_pos h30], rfl⟩
theorem sX0_hasRoom (d : Nat) (s z : Int) (hs : 0 ≤ s ∧ s < 40) (hz : 0 ≤ z ∧ z ≤ 100) (hv : VS M s) (hlf : ∀ r, 0 ≤ r → r < 20 → -1000 ≤ M 46 r ∧ M 46 r ≤ 1000) (hN : NB M) : Ex LyC g (d + 1) mX0_hasRoom [vr 39, vr 27, vi s, vi z] M (PI (if fpt (fun k => if M 46 (M 31 (8 * s + k)) < z then (1 : Int) else 0) (M 29 s).toNat < 0 then 1 else 0) M) := by
  refine Ex.in [some (vr 39), some (vr 27), some (vi s), some (vi z), none] (by decide +kernel) rfl (Nat.le_of_ble_eq_true rfl) ?_ rfl
  obtain ⟨hp0, hr, hl, hR, hL⟩ := id hN
  obtain ⟨v1, v2, v3⟩ := id hv
  have L : ∀ (n9 : Nat) (i : Int), (0 ≤ i) → (i ≤ M 29 s) → (∀ j : Int, 0 ≤ j → j < i → (fun k => if M 46 (M 31 (8 * s + k)) < z then (1 : Int) else 0) j = 0) → M 29 s - i < n9 → R LyC g mX0_hasRoom (d + 1) 3 [some (vr 39), some (vr 27), some (vi s), some (vi z), some (vi i)] [] M (PI (if fpt (fun k => if M 46 (M 31 (8 * s + k)) < z then (1 : Int) else 0) (M 29 s).toNat < 0 then 1 else 0) M) := by
    intro n9
    induction n9 with
    | zero =>
      intro i h0 h1 hq hm9
      omega
    | succ n9 ih =>
      intro i h0 h1 hq hm9
      refine r_ld iX0_hasRoom_3 rfl ?_
      refine r_aldn iX0_hasRoom_5 rfl ?_
      refine r_getr iX0_hasRoom_6 flX0_101 rfl rfl ?_
      refine r_ldn iX0_hasRoom_9 rfl ?_
      refine r_ial iX0_hasRoom_10 rfl (by omega) ?_
      refine r_cge iX0_hasRoom_11 (by omega) (fun h11 => ?_) (fun h11 => ?_)
      · refine r_con iX0_hasRoom_38 ?_
        refine r_zret iX0_hasRoom_39 rfl (by omega) ?_
        exact ⟨by rw [fpt_no (f := (fun k => if M 46 (M 31 (8 * s + k)) < z then (1 : Int) else 0)) (fun j h2 h3 => hq j h2 (by omega)), if_pos (by decide)], rfl⟩
      · have hv3 := v3 i h0 (by omega)
        have hlr := hlf _ hv3.1 (by omega)
        refine r_aldn iX0_hasRoom_14 rfl ?_
        refine r_getr iX0_hasRoom_15 flX0_35 rfl rfl ?_
        refine r_aldn iX0_hasRoom_18 rfl ?_
        refine r_ldn iX0_hasRoom_19 rfl ?_
        refine r_ld iX0_hasRoom_20 rfl ?_
        refine call_V2i iX0_hasRoom_22 clX0_104 myX6_step rfl rfl rfl rfl (sX6_step _ _ _ (by omega)) ?_
        refine r_ial iX0_hasRoom_25 rfl (by omega) ?_
        refine r_ldn iX0_hasRoom_26 rfl ?_
        refine r_cge iX0_hasRoom_27 (by omega) (fun h27 => ?_) (fun h27 => ?_)
        · refine r_inc iX0_hasRoom_32 rfl (by decide) rfl ?_
          refine r_goto iX0_hasRoom_35 ?_
          exact ih (i + 1) (by omega) (by omega) (fun j h2 h3 => by by_cases e : j = i; subst e; exact if_neg (by omega); exact hq j h2 (by omega)) (by omega)
        · refine r_con iX0_hasRoom_30 ?_
          refine r_zret iX0_hasRoom_31 rfl (by omega) ?_
          exact ⟨by rw [fpt_at (f := (fun k => if M 46 (M 31 (8 * s + k)) < z then (1 : Int) else 0)) h0 hq (by show (if _ then _ else _) ≠ _; rw [if_pos h27]; decide) (by omega), if_neg (by omega)], rfl⟩
  refine r_con iX0_hasRoom_0 ?_
  refine r_st iX0_hasRoom_1 (by decide) rfl ?_
  exact L 9 0 (by omega) (by omega) (fun j h2 h3 => by omega) (by omega)
theorem sX0_take (d : Nat) (s z : Int) (hs : 0 ≤ s ∧ s < 40) (hv : VS M s) (hN : NB M) : Ex LyC g (d + 1) mX0_take [vr 39, vr 27, vi s, vi z] M (PV (mset M 46 (tkC (M 46) (M 29) (M 31) s z (M 29 s).toNat))) := by
  refine Ex.in [some (vr 39), some (vr 27), some (vi s), some (vi z), none] (by decide +kernel) rfl (Nat.le_of_ble_eq_true rfl) ?_ rfl
  obtain ⟨hp0, hr, hl, hR, hL⟩ := id hN
  obtain ⟨v1, v2, v3⟩ := id hv
  have L : ∀ (n9 : Nat) (i : Int), (0 ≤ i) → (i ≤ M 29 s) → M 29 s - i < n9 → R LyC g mX0_take (d + 1) 3 [some (vr 39), some (vr 27), some (vi s), some (vi z), some (vi i)] [] (mset M 46 (tkC (M 46) (M 29) (M 31) s z i.toNat)) (PV (mset M 46 (tkC (M 46) (M 29) (M 31) s z (M 29 s).toNat))) := by
    intro n9
    induction n9 with
    | zero =>
      intro i h0 h1 hm9
      omega
    | succ n9 ih =>
      intro i h0 h1 hm9
      refine r_ld iX0_take_3 rfl ?_
      refine r_aldn iX0_take_5 rfl ?_
      refine r_getr iX0_take_6 flX0_101 rfl rfl ?_
      refine r_ldn iX0_take_9 rfl ?_
      refine r_ial iX0_take_10 rfl (by omega) ?_
      simp only [mset_s, mset_n, ne_eq, Nat.reduceEqDiff, not_false_eq_true]
      refine r_cge iX0_take_11 (by omega) (fun h11 => ?_) (fun h11 => ?_)
      · refine r_vret iX0_take_36 rfl ?_
        rw [show i = M 29 s by omega]
        exact ⟨rfl, rfl⟩
      · have hv3 := v3 i h0 (by omega)
        refine r_aldn iX0_take_14 rfl ?_
        refine r_getr iX0_take_15 flX0_35 rfl rfl ?_
        refine r_aldn iX0_take_18 rfl ?_
        refine r_ldn iX0_take_19 rfl ?_
        refine r_ld iX0_take_20 rfl ?_
        refine call_V2i iX0_take_22 clX0_104 myX6_step rfl rfl rfl rfl (sX6_step (M := (mset M 46 (tkC (M 46) (M 29) (M 31) s z i.toNat))) _ _ _ (by omega)) ?_
        simp only [mset_s, mset_n, ne_eq, Nat.reduceEqDiff, not_false_eq_true]
        refine r_dup2 iX0_take_25 rfl rfl ?_
        refine r_ial iX0_take_26 rfl (by omega) ?_
        refine r_ldn iX0_take_27 rfl ?_
        refine r_sub iX0_take_28 ?_
        refine r_ias iX0_take_29 rfl (by omega) ?_
        refine r_inc iX0_take_30 rfl (by decide) rfl ?_
        refine r_goto iX0_take_33 ?_
        simp only [mset_s, mset_mset, mset_n, ne_eq, Nat.reduceEqDiff, not_false_eq_true]
        rw [← tkC_1 h0]
        exact ih (i + 1) (by omega) (by omega) (by omega)
  refine r_con iX0_take_0 ?_
  refine r_st iX0_take_1 (by decide) rfl ?_
  have L0 := L 9 0 (by omega) (by omega) (by omega)
  rw [show (0 : Int).toNat = 0 from rfl, tkC, mset_eq rfl] at L0
  exact L0
theorem sX4_fillParted (d : Nat) (l : Int) (h0l : 0 ≤ l ∧ l < M 1 2) (hW : WB M) (hA : AV M) (hN : NB M) : Ex LyC g (d + 4) mX4_fillParted [vr 21, vr 1, vr 27, vi l] M (PI (fls (fun am s => frC am (M 30) (M 4) (M 29) (M 31) s) (8 * l) (if 0 < M 10 l - ttC (M 22) l then M 10 l - ttC (M 22) l else 0) (M 22) (M 28 l).toNat).2 (mset M 22 (fls (fun am s => frC am (M 30) (M 4) (M 29) (M 31) s) (8 * l) (if 0 < M 10 l - ttC (M 22) l then M 10 l - ttC (M 22) l else 0) (M 22) (M 28 l).toNat).1)) := by
  refine Ex.in [some (vr 21), some (vr 1), some (vr 27), some (vi l), none, none, none] (by decide +kernel) rfl (Nat.le_of_ble_eq_true rfl) ?_ rfl
  obtain ⟨hp0, hr, hl, hR, hL⟩ := id hN
  have hll := hL l h0l.1 h0l.2
  obtain ⟨w1, w2⟩ := hW l h0l.1 h0l.2
  have htb := tt_bd (am := M 22) (l := l) (fun i h0 h1 => (hA _ (by omega) (by omega)).1)
  have L : ∀ (n9 : Nat) (i a : Int) (f : Int → Int), (0 ≤ i) → (i ≤ M 28 l) → ((fls (fun am s => frC am (M 30) (M 4) (M 29) (M 31) s) (8 * l) (if 0 < M 10 l - ttC (M 22) l then M 10 l - ttC (M 22) l else 0) (M 22) i.toNat) = (f, a)) → (0 ≤ a ∧ a ≤ (if 0 < M 10 l - ttC (M 22) l then M 10 l - ttC (M 22) l else 0)) → (ttC f l = ttC (M 22) l + a) → (∀ j, 0 ≤ j → j < 40 → (0 ≤ f j ∧ f j ≤ 100) ∧ (f j ≠ 0 → VS M j)) → M 28 l - i < n9 → R LyC g mX4_fillParted (d + 4) 14 [some (vr 21), some (vr 1), some (vr 27), some (vi l), some (vi (if 0 < M 10 l - ttC (M 22) l then M 10 l - ttC (M 22) l else 0)), some (vi a), some (vi i)] [] (mset M 22 f) (PI (fls (fun am s => frC am (M 30) (M 4) (M 29) (M 31) s) (8 * l) (if 0 < M 10 l - ttC (M 22) l then M 10 l - ttC (M 22) l else 0) (M 22) (M 28 l).toNat).2 (mset M 22 (fls (fun am s => frC am (M 30) (M 4) (M 29) (M 31) s) (8 * l) (if 0 < M 10 l - ttC (M 22) l then M 10 l - ttC (M 22) l else 0) (M 22) (M 28 l).toNat).1)) := by
    intro n9
    induction n9 with
    | zero =>
      intro i a f h0 h1 he ha ht hf hm9
      omega
    | succ n9 ih =>
      intro i a f h0 h1 he ha ht hf hm9
      refine r_ld iX4_fillParted_14 rfl ?_
      refine r_aldn iX4_fillParted_16 rfl ?_
      refine r_getr iX4_fillParted_17 flX4_111 rfl rfl ?_
      refine r_ldn iX4_fillParted_20 rfl ?_
      refine r_ial iX4_fillParted_21 rfl (by omega) ?_
      simp only [mset_s, mset_n, ne_eq, Nat.reduceEqDiff, not_false_eq_true]
      refine r_cge iX4_fillParted_22 (by omega) (fun h22 => ?_) (fun h22 => ?_)
      · refine r_ld iX4_fillParted_60 rfl ?_
        refine r_iret iX4_fillParted_62 rfl ?_
        have e1 : i = M 28 l := by omega
        rw [e1] at he
        exact ⟨by rw [he], by rw [he]⟩
      · refine r_ld iX4_fillParted_25 rfl ?_
        refine r_ld iX4_fillParted_27 rfl ?_
        refine r_cge iX4_fillParted_29 (by split <;> omega) (fun h29 => ?_) (fun h29 => ?_)
        · refine r_ld iX4_fillParted_60 rfl ?_
          refine r_iret iX4_fillParted_62 rfl ?_
          have e2 := fls_stop (fr := (fun am s => frC am (M 30) (M 4) (M 29) (M 31) s)) (b := 8 * l) (w := (if 0 < M 10 l - ttC (M 22) l then M 10 l - ttC (M 22) l else 0)) (am0 := M 22) (fun f s => (fr_bd s).1) (q := i.toNat) (by rw [he]; show a = _; omega) ((M 28 l).toNat - i.toNat)
          rw [show i.toNat + ((M 28 l).toNat - i.toNat) = (M 28 l).toNat by omega, he] at e2
          exact ⟨by rw [e2], by rw [e2]⟩
        · have hvi := w2 i h0 (by omega)
          have hx := fr_bd (am := f) (mk := M 30) (rm := M 4) (st := M 29) (rd := M 31) (8 * l + i)
          have hAf : AV (mset M 22 f) := fun j h2 h3 => by rw [mset_s]; exact hf j h2 h3
          have hwp : 0 < M 10 l - ttC (M 22) l := by by_cases q : 0 < M 10 l - ttC (M 22) l; exact q; rw [if_neg q] at h29; omega
          refine r_ld iX4_fillParted_32 rfl ?_
          refine r_aldn iX4_fillParted_34 rfl ?_
          refine r_aldn iX4_fillParted_35 rfl ?_
          refine r_aldn iX4_fillParted_36 rfl ?_
          refine r_ldn iX4_fillParted_37 rfl ?_
          refine r_ld iX4_fillParted_38 rfl ?_
          refine call_N2i iX4_fillParted_40 clX4_27 myX7_slot rfl (sX7_slot _ _ _) ?_
          refine r_ld iX4_fillParted_43 rfl ?_
          refine r_ld iX4_fillParted_45 rfl ?_
          refine r_sub iX4_fillParted_47 ?_
          refine call_V4i iX4_fillParted_48 clX4_114 myX4_addFree rfl rfl rfl rfl (sX4_addFree (M := mset M 22 f) _ _ _ (by omega) (by rw [if_pos hwp] at h29 ⊢; omega) hvi hAf hN) ?_
          simp only [mset_s, mset_mset, mset_n, ne_eq, Nat.reduceEqDiff, not_false_eq_true]
          refine r_add iX4_fillParted_51 ?_
          refine r_st iX4_fillParted_52 (by decide) rfl ?_
          refine r_inc iX4_fillParted_54 rfl (by decide) rfl ?_
          refine r_goto iX4_fillParted_57 ?_
          have e1 := fls_1 h0 he
          have hp1 := tt_part (am := f) (l := l) (fun i h0 h1 => (hf _ (by omega) (by omega)).1.1) h0 (by omega)
          have hfi := (hf (8 * l + i) (by omega) (by omega)).1
          refine ih (i + 1) _ _ (by omega) (by omega) e1 ?_ ?_ ?_ (by omega)
          · rw [if_pos hwp] at h29 ⊢
            split <;> omega
          · rw [tt_fset h0 (by omega)]
            omega
          · have hxx : 0 ≤ f (8 * l + i) + (if frC f (M 30) (M 4) (M 29) (M 31) (8 * l + i) < (if 0 < M 10 l - ttC (M 22) l then M 10 l - ttC (M 22) l else 0) - a then frC f (M 30) (M 4) (M 29) (M 31) (8 * l + i) else (if 0 < M 10 l - ttC (M 22) l then M 10 l - ttC (M 22) l else 0) - a) ∧ f (8 * l + i) + (if frC f (M 30) (M 4) (M 29) (M 31) (8 * l + i) < (if 0 < M 10 l - ttC (M 22) l then M 10 l - ttC (M 22) l else 0) - a then frC f (M 30) (M 4) (M 29) (M 31) (8 * l + i) else (if 0 < M 10 l - ttC (M 22) l then M 10 l - ttC (M 22) l else 0) - a) ≤ 100 := by
              rw [if_pos hwp] at h29 ⊢
              split <;> omega
            intro j h2 h3
            have := AV.put hA hvi hf hxx j h2 h3
            rw [mset_s] at this
            exact this
  refine r_aldn iX4_fillParted_0 rfl ?_
  refine r_aldn iX4_fillParted_1 rfl ?_
  refine r_ldn iX4_fillParted_2 rfl ?_
  refine call_V2i iX4_fillParted_3 clX4_108 myX4_missing rfl rfl rfl rfl (sX4_missing _ _ h0l hA hN) ?_
  refine r_st iX4_fillParted_6 (by decide) rfl ?_
  refine r_con iX4_fillParted_8 ?_
  refine r_st iX4_fillParted_9 (by decide) rfl ?_
  refine r_con iX4_fillParted_11 ?_
  refine r_st iX4_fillParted_12 (by decide) rfl ?_
  have L0 := L 9 0 0 (M 22) (by omega) (by omega) rfl (by split <;> omega) (by omega) hA (by omega)
  rw [mset_eq rfl] at L0
  exact L0
theorem sX4_fillHeld_y (d : Nat) (l : Int) (h0l : 0 ≤ l ∧ l < M 1 2) (hh : 0 ≤ M 23 l ∧ M 23 l ≤ 7) (hc : M 23 l < M 28 l) (hW : WB M) (hA : AV M) (hN : NB M) : Ex LyC g (d + 4) mX4_fillHeld [vr 21, vr 1, vr 27, vi l] M (PI (if frC (M 22) (M 30) (M 4) (M 29) (M 31) (8 * l + M 23 l) < (if 0 < M 10 l - ttC (M 22) l then M 10 l - ttC (M 22) l else 0) then frC (M 22) (M 30) (M 4) (M 29) (M 31) (8 * l + M 23 l) else (if 0 < M 10 l - ttC (M 22) l then M 10 l - ttC (M 22) l else 0)) (mset M 22 (fset (M 22) (8 * l + M 23 l) (M 22 (8 * l + M 23 l) + (if frC (M 22) (M 30) (M 4) (M 29) (M 31) (8 * l + M 23 l) < (if 0 < M 10 l - ttC (M 22) l then M 10 l - ttC (M 22) l else 0) then frC (M 22) (M 30) (M 4) (M 29) (M 31) (8 * l + M 23 l) else (if 0 < M 10 l - ttC (M 22) l then M 10 l - ttC (M 22) l else 0)))))) := by
  refine Ex.in [some (vr 21), some (vr 1), some (vr 27), some (vi l)] (by decide +kernel) rfl (Nat.le_of_ble_eq_true rfl) ?_ rfl
  obtain ⟨hp0, hr, hl, hR, hL⟩ := id hN
  have hll := hL l h0l.1 h0l.2
  obtain ⟨w1, w2⟩ := hW l h0l.1 h0l.2
  have htb := tt_bd (am := M 22) (l := l) (fun i h0 h1 => (hA _ (by omega) (by omega)).1)
  refine r_aldn iX4_fillHeld_0 rfl ?_
  refine r_ldn iX4_fillHeld_1 rfl ?_
  refine r_aldn iX4_fillHeld_2 rfl ?_
  refine r_getr iX4_fillHeld_3 flX4_15 rfl rfl ?_
  refine r_ldn iX4_fillHeld_6 rfl ?_
  refine r_ial iX4_fillHeld_7 rfl (by omega) ?_
  refine call_V2i iX4_fillHeld_8 clX4_118 myX6_has rfl rfl rfl rfl (sX6_has _ _ _ (by omega) (by omega) w1) ?_
  refine r_ifne iX4_fillHeld_11 (by split <;> omega) (fun h11 => ?_) (fun h11 => ?_)
  · rw [ne_eq, ite10n] at h11
    refine r_aldn iX4_fillHeld_16 rfl ?_
    refine r_aldn iX4_fillHeld_17 rfl ?_
    refine r_aldn iX4_fillHeld_18 rfl ?_
    refine r_ldn iX4_fillHeld_19 rfl ?_
    refine r_aldn iX4_fillHeld_20 rfl ?_
    refine r_getr iX4_fillHeld_21 flX4_15 rfl rfl ?_
    refine r_ldn iX4_fillHeld_24 rfl ?_
    refine r_ial iX4_fillHeld_25 rfl (by omega) ?_
    refine call_N2i iX4_fillHeld_26 clX4_27 myX7_slot rfl (sX7_slot _ _ _) ?_
    refine r_aldn iX4_fillHeld_29 rfl ?_
    refine r_aldn iX4_fillHeld_30 rfl ?_
    refine r_ldn iX4_fillHeld_31 rfl ?_
    refine call_V2i iX4_fillHeld_32 clX4_108 myX4_missing rfl rfl rfl rfl (sX4_missing _ _ h0l hA hN) ?_
    refine call_V4i iX4_fillHeld_35 clX4_114 myX4_addFree rfl rfl rfl rfl (sX4_addFree _ _ _ (by omega) (by split <;> omega) (w2 _ hh.1 hc) hA hN) ?_
    refine r_iret iX4_fillHeld_38 rfl ?_
    exact ⟨rfl, rfl⟩
  · rw [ite10] at h11
    exact absurd ⟨hh.1, hc⟩ h11
theorem sX4_fillHeld_n (d : Nat) (l : Int) (h0l : 0 ≤ l ∧ l < M 1 2) (hh : 0 ≤ M 23 l ∧ M 23 l ≤ 7) (hc : M 28 l ≤ M 23 l) (hW : WB M) (hA : AV M) (hN : NB M) : Ex LyC g (d + 4) mX4_fillHeld [vr 21, vr 1, vr 27, vi l] M (PI 0 M) := by
  refine Ex.in [some (vr 21), some (vr 1), some (vr 27), some (vi l)] (by decide +kernel) rfl (Nat.le_of_ble_eq_true rfl) ?_ rfl
  obtain ⟨hp0, hr, hl, hR, hL⟩ := id hN
  have hll := hL l h0l.1 h0l.2
  obtain ⟨w1, w2⟩ := hW l h0l.1 h0l.2
  have htb := tt_bd (am := M 22) (l := l) (fun i h0 h1 => (hA _ (by omega) (by omega)).1)
  refine r_aldn iX4_fillHeld_0 rfl ?_
  refine r_ldn iX4_fillHeld_1 rfl ?_
  refine r_aldn iX4_fillHeld_2 rfl ?_
  refine r_getr iX4_fillHeld_3 flX4_15 rfl rfl ?_
  refine r_ldn iX4_fillHeld_6 rfl ?_
  refine r_ial iX4_fillHeld_7 rfl (by omega) ?_
  refine call_V2i iX4_fillHeld_8 clX4_118 myX6_has rfl rfl rfl rfl (sX6_has _ _ _ (by omega) (by omega) w1) ?_
  refine r_ifne iX4_fillHeld_11 (by split <;> omega) (fun h11 => ?_) (fun h11 => ?_)
  · rw [ne_eq, ite10n] at h11
    exact absurd h11.2 (by omega)
  · rw [ite10] at h11
    refine r_con iX4_fillHeld_14 ?_
    refine r_iret iX4_fillHeld_15 rfl ?_
    exact ⟨rfl, rfl⟩
theorem sX4_fillOne_n (d : Nat) (l : Int) (h0l : 0 ≤ l ∧ l < M 1 2) (hc : ptC (M 22) l ≠ 0) (hA : AV M) (hN : NB M) : Ex LyC g (d + 3) mX4_fillOne [vr 21, vr 1, vr 27, vi l] M (PI 0 M) := by
  refine Ex.in [some (vr 21), some (vr 1), some (vr 27), some (vi l), none, none] (by decide +kernel) rfl (Nat.le_of_ble_eq_true rfl) ?_ rfl
  obtain ⟨hp0, hr, hl, hR, hL⟩ := id hN
  have hpb := pt_bd (am := M 22) l
  refine r_aldn iX4_fillOne_0 rfl ?_
  refine r_ldn iX4_fillOne_1 rfl ?_
  refine call_V1i iX4_fillOne_2 clX4_90 myX4_parts rfl rfl rfl rfl (sX4_parts _ _ (by omega) hA) ?_
  refine r_ifeq iX4_fillOne_5 (by omega) (fun h5 => ?_) (fun h5 => ?_)
  · exact absurd h5 hc
  · refine r_con iX4_fillOne_8 ?_
    refine r_iret iX4_fillOne_9 rfl ?_
    exact ⟨rfl, rfl⟩
theorem sX4_fillOne_y (d : Nat) (l : Int) (h0l : 0 ≤ l ∧ l < M 1 2) (hc : ptC (M 22) l = 0) (hW : WB M) (hA : AV M) (hN : NB M) : Ex LyC g (d + 3) mX4_fillOne [vr 21, vr 1, vr 27, vi l] M (PI (if 0 ≤ (fpt (fun i => if M 10 l ≤ frC (M 22) (M 30) (M 4) (M 29) (M 31) (8 * l + i) then (1 : Int) else 0) (M 28 l).toNat) then M 10 l else 0) (if 0 ≤ (fpt (fun i => if M 10 l ≤ frC (M 22) (M 30) (M 4) (M 29) (M 31) (8 * l + i) then (1 : Int) else 0) (M 28 l).toNat) then mset M 22 (fset (M 22) (8 * l + (fpt (fun i => if M 10 l ≤ frC (M 22) (M 30) (M 4) (M 29) (M 31) (8 * l + i) then (1 : Int) else 0) (M 28 l).toNat)) (M 10 l)) else M)) := by
  refine Ex.in [some (vr 21), some (vr 1), some (vr 27), some (vi l), none, none] (by decide +kernel) rfl (Nat.le_of_ble_eq_true rfl) ?_ rfl
  obtain ⟨hp0, hr, hl, hR, hL⟩ := id hN
  have hpb := pt_bd (am := M 22) l
  have hll := hL l h0l.1 h0l.2
  obtain ⟨w1, w2⟩ := hW l h0l.1 h0l.2
  have L : ∀ (n9 : Nat) (i : Int), (0 ≤ i) → (i ≤ M 28 l) → (∀ j : Int, 0 ≤ j → j < i → (fun i => if M 10 l ≤ frC (M 22) (M 30) (M 4) (M 29) (M 31) (8 * l + i) then (1 : Int) else 0) j = 0) → M 28 l - i < n9 → R LyC g mX4_fillOne (d + 3) 21 [some (vr 21), some (vr 1), some (vr 27), some (vi l), some (vi (M 10 l)), some (vi i)] [] M (PI (if 0 ≤ (fpt (fun i => if M 10 l ≤ frC (M 22) (M 30) (M 4) (M 29) (M 31) (8 * l + i) then (1 : Int) else 0) (M 28 l).toNat) then M 10 l else 0) (if 0 ≤ (fpt (fun i => if M 10 l ≤ frC (M 22) (M 30) (M 4) (M 29) (M 31) (8 * l + i) then (1 : Int) else 0) (M 28 l).toNat) then mset M 22 (fset (M 22) (8 * l + (fpt (fun i => if M 10 l ≤ frC (M 22) (M 30) (M 4) (M 29) (M 31) (8 * l + i) then (1 : Int) else 0) (M 28 l).toNat)) (M 10 l)) else M)) := by
    intro n9
    induction n9 with
    | zero =>
      intro i h0 h1 hq hm9
      omega
    | succ n9 ih =>
      intro i h0 h1 hq hm9
      refine r_ld iX4_fillOne_21 rfl ?_
      refine r_aldn iX4_fillOne_23 rfl ?_
      refine r_getr iX4_fillOne_24 flX4_111 rfl rfl ?_
      refine r_ldn iX4_fillOne_27 rfl ?_
      refine r_ial iX4_fillOne_28 rfl (by omega) ?_
      refine r_cge iX4_fillOne_29 (by omega) (fun h29 => ?_) (fun h29 => ?_)
      · refine r_con iX4_fillOne_71 ?_
        refine r_iret iX4_fillOne_72 rfl ?_
        have e1 : (fpt (fun i => if M 10 l ≤ frC (M 22) (M 30) (M 4) (M 29) (M 31) (8 * l + i) then (1 : Int) else 0) (M 28 l).toNat) = -1 := fpt_no (f := (fun i => if M 10 l ≤ frC (M 22) (M 30) (M 4) (M 29) (M 31) (8 * l + i) then (1 : Int) else 0)) (fun j h2 h3 => hq j h2 (by omega))
        exact ⟨by rw [e1, if_neg (by decide)], by rw [e1, if_neg (by decide)]⟩
      · have hx := fr_bd (am := M 22) (mk := M 30) (rm := M 4) (st := M 29) (rd := M 31) (8 * l + i)
        refine r_aldn iX4_fillOne_32 rfl ?_
        refine r_aldn iX4_fillOne_33 rfl ?_
        refine r_aldn iX4_fillOne_34 rfl ?_
        refine r_ldn iX4_fillOne_35 rfl ?_
        refine r_ld iX4_fillOne_36 rfl ?_
        refine call_N2i iX4_fillOne_38 clX4_27 myX7_slot rfl (sX7_slot _ _ _) ?_
        refine call_V3i iX4_fillOne_41 clX4_105 myX4_freeOn rfl rfl rfl rfl (sX4_freeOn _ _ (by omega) (w2 i h0 (by omega)) hA hN) ?_
        refine r_ld iX4_fillOne_44 rfl ?_
        refine r_clt iX4_fillOne_46 (by omega) (fun h46 => ?_) (fun h46 => ?_)
        · refine r_inc iX4_fillOne_65 rfl (by decide) rfl ?_
          refine r_goto iX4_fillOne_68 ?_
          exact ih (i + 1) (by omega) (by omega) (fun j h2 h3 => by by_cases e : j = i; subst e; exact if_neg (by omega); exact hq j h2 (by omega)) (by omega)
        · refine r_aldn iX4_fillOne_49 rfl ?_
          refine r_getr iX4_fillOne_50 flX4_9 rfl rfl ?_
          refine r_ldn iX4_fillOne_53 rfl ?_
          refine r_ld iX4_fillOne_54 rfl ?_
          refine call_N2i iX4_fillOne_56 clX4_27 myX7_slot rfl (sX7_slot _ _ _) ?_
          refine r_ld iX4_fillOne_59 rfl ?_
          refine r_ias iX4_fillOne_61 rfl (by omega) ?_
          refine r_ld iX4_fillOne_62 rfl ?_
          refine r_iret iX4_fillOne_64 rfl ?_
          have e1 : (fpt (fun i => if M 10 l ≤ frC (M 22) (M 30) (M 4) (M 29) (M 31) (8 * l + i) then (1 : Int) else 0) (M 28 l).toNat) = i := fpt_at (f := (fun i => if M 10 l ≤ frC (M 22) (M 30) (M 4) (M 29) (M 31) (8 * l + i) then (1 : Int) else 0)) h0 hq (by show (if _ then _ else _) ≠ _; rw [if_pos h46]; decide) (by omega)
          exact ⟨by rw [e1, if_pos h0], by rw [e1, if_pos h0]⟩
  refine r_aldn iX4_fillOne_0 rfl ?_
  refine r_ldn iX4_fillOne_1 rfl ?_
  refine call_V1i iX4_fillOne_2 clX4_90 myX4_parts rfl rfl rfl rfl (sX4_parts _ _ (by omega) hA) ?_
  refine r_ifeq iX4_fillOne_5 (by omega) (fun h5 => ?_) (fun h5 => ?_)
  · refine r_aldn iX4_fillOne_10 rfl ?_
    refine r_getr iX4_fillOne_11 flX4_84 rfl rfl ?_
    refine r_ldn iX4_fillOne_14 rfl ?_
    refine r_ial iX4_fillOne_15 rfl (by omega) ?_
    refine r_st iX4_fillOne_16 (by decide) rfl ?_
    refine r_con iX4_fillOne_18 ?_
    refine r_st iX4_fillOne_19 (by decide) rfl ?_
    exact L 9 0 (by omega) (by omega) (fun j h2 h3 => by omega) (by omega)
  · exact absurd hc h5
end LJ
