/-! filling, distances, raising -/
/-- filling one behind another: the amounts and how much is added behind i ways -/
def fls (fr : (Int → Int) → Int → Int) (b w : Int) (am0 : Int → Int) : Nat → (Int → Int) × Int
  | 0 => (am0, 0)
  | i + 1 => (fset (fls fr b w am0 i).1 (b + i) ((fls fr b w am0 i).1 (b + i) + if fr (fls fr b w am0 i).1 (b + i) < w - (fls fr b w am0 i).2 then fr (fls fr b w am0 i).1 (b + i) else w - (fls fr b w am0 i).2), (fls fr b w am0 i).2 + if fr (fls fr b w am0 i).1 (b + i) < w - (fls fr b w am0 i).2 then fr (fls fr b w am0 i).1 (b + i) else w - (fls fr b w am0 i).2)
theorem fls_1 {fr : (Int → Int) → Int → Int} {b w : Int} {am0 : Int → Int} {i : Int} (h : 0 ≤ i) {f : Int → Int} {a : Int} (e : fls fr b w am0 i.toNat = (f, a)) : fls fr b w am0 (i + 1).toNat = (fset f (b + i) (f (b + i) + if fr f (b + i) < w - a then fr f (b + i) else w - a), a + if fr f (b + i) < w - a then fr f (b + i) else w - a) := by
  rw [show (i + 1).toNat = i.toNat + 1 by omega]
  simp only [fls, e]
  rw [show ((i.toNat : Nat) : Int) = i by omega]
theorem fset_self {f : Int → Int} {i : Int} : fset f i (f i) = f := by
  funext j
  by_cases hj : j = i
  · subst hj; rw [fset_s]
  · rw [fset_n hj]
theorem fls_stop {fr : (Int → Int) → Int → Int} {b w : Int} {am0 : Int → Int} (h0 : ∀ f s, 0 ≤ fr f s) {q : Nat} (h : (fls fr b w am0 q).2 = w) : ∀ n : Nat, fls fr b w am0 (q + n) = fls fr b w am0 q
  | 0 => rfl
  | n + 1 => by
    have ih := fls_stop h0 h n
    rw [show q + (n + 1) = (q + n) + 1 by omega]
    simp only [fls, ih, h, Int.sub_self]
    rw [if_neg (by have := h0 (fls fr b w am0 q).1 (b + ((q + n : Nat) : Int)); omega), Int.add_zero, Int.add_zero, fset_self]
    exact Prod.ext rfl h.symm
theorem sm_part {f : Int → Int} : ∀ {n : Nat}, (∀ i : Int, 0 ≤ i → i < n → 0 ≤ f i) → ∀ i : Int, 0 ≤ i → i < n → f i ≤ sm f n
  | 0, _, i, h0, h1 => by omega
  | n + 1, h, i, h0, h1 => by
    have hn := sm_bd (f := f) (lo := 0) (hi := 0 ) (n := 0) (fun i h0 h1 => by omega)
    simp only [sm]
    have hp := h n (by omega) (by omega)
    by_cases e : i = n
    · have : 0 ≤ sm f n := by
        clear hn hp e h1 h0 i
        revert h
        induction n with
        | zero => intro _; simp [sm]
        | succ n ih =>
          intro h
          have h1 := ih (fun i h0 h1 => h i h0 (by omega))
          have h2 := h n (by omega) (by omega)
          simp only [sm]
          omega
      rw [e]; omega
    · have := sm_part (n := n) (fun i h0 h1 => h i h0 (by omega)) i h0 (by omega)
      omega
theorem sm_fset {f : Int → Int} {i v : Int} : ∀ {n : Nat}, 0 ≤ i → (i < n → sm (fset f i v) n = sm f n - f i + v) ∧ (n ≤ i → sm (fset f i v) n = sm f n)
  | 0, h => by refine ⟨fun _ => by omega, fun _ => rfl⟩
  | n + 1, h => by
    obtain ⟨h1, h2⟩ := sm_fset (f := f) (i := i) (v := v) (n := n) h
    simp only [sm]
    refine ⟨fun q => ?_, fun q => ?_⟩
    · by_cases e : i = n
      · rw [h2 (by omega), ← e, fset_s]; omega
      · rw [h1 (by omega), fset_n (by omega)]; omega
    · rw [h2 (by omega), fset_n (by omega)]
theorem tt_fset {am : Int → Int} {l i v : Int} (h0 : 0 ≤ i) (h1 : i < 8) : ttC (fset am (8 * l + i) v) l = ttC am l - am (8 * l + i) + v := by
  have e : (fun k => fset am (8 * l + i) v (8 * l + k)) = fset (fun k => am (8 * l + k)) i v := by
    funext k
    by_cases hk : k = i
    · subst hk; rw [fset_s, fset_s]
    · rw [fset_n hk, fset_n (by omega)]
  unfold ttC sg
  rw [e]
  exact (sm_fset (n := (8 : Int).toNat) h0).1 (by simpa using h1)
theorem tt_part {am : Int → Int} {l : Int} (h : ∀ i, 0 ≤ i → i < 8 → 0 ≤ am (8 * l + i)) {i : Int} (h0 : 0 ≤ i) (h1 : i < 8) : am (8 * l + i) ≤ ttC am l :=
  sm_part (f := fun i => am (8 * l + i)) (n := (8 : Int).toNat) (fun i h0 h1 => h i h0 (by simpa using h1)) i h0 (by simpa using h1)
/-! distances -/
def rlx (f : Int → Int) (u v w : Int) : Int → Int := if f u + w < f v then fset f v (f u + w) else f
def rdF (a b ln : Int → Int) (f : Int → Int) : Nat → Int → Int
  | 0 => f
  | n + 1 => rlx (rlx (rdF a b ln f n) (a n) (b n) (ln n)) (b n) (a n) (ln n)
theorem rdF_1 {a b ln f : Int → Int} {i : Int} (h : 0 ≤ i) : rdF a b ln f (i + 1).toNat = rlx (rlx (rdF a b ln f i.toNat) (a i) (b i) (ln i)) (b i) (a i) (ln i) := by
  rw [show (i + 1).toNat = i.toNat + 1 by omega]
  simp only [rdF]
  rw [show ((i.toNat : Nat) : Int) = i by omega]
def itF (a b ln : Int → Int) (rc : Int) (f : Int → Int) : Nat → Int → Int
  | 0 => f
  | k + 1 => rdF a b ln (itF a b ln rc f k) rc.toNat
theorem itF_fix {a b ln : Int → Int} {rc : Int} {f : Int → Int} {q : Nat} (h : rdF a b ln (itF a b ln rc f q) rc.toNat = itF a b ln rc f q) : ∀ n : Nat, itF a b ln rc f (q + n) = itF a b ln rc f q
  | 0 => rfl
  | n + 1 => by
    have ih := itF_fix h n
    show rdF a b ln (itF a b ln rc f (q + n)) rc.toNat = _
    rw [ih, h]
def dsB (f : Int → Int) : Prop := ∀ v, 0 ≤ v → v < 9 → 0 ≤ f v ∧ f v ≤ 1000000
theorem rlx_b {f : Int → Int} {u v w : Int} (hf : dsB f) (hu : 0 ≤ u ∧ u < 9) (hv : 0 ≤ v ∧ v < 9) (hw : 0 ≤ w) : dsB (rlx f u v w) := by
  intro x h0 h1
  have hx := hf x h0 h1
  have h2 := hf u hu.1 hu.2
  have h3 := hf v hv.1 hv.2
  unfold rlx
  split
  · by_cases e : x = v
    · rw [e, fset_s]; omega
    · rw [fset_n e]; exact hx
  · exact hx
def ds0 (s : Int) (f : Int → Int) : Int → Int := fset (fillN f 9 1000000) s 0
theorem ds0_b {s : Int} {f : Int → Int} : dsB (ds0 s f) := by
  intro v h0 h1
  unfold ds0
  by_cases e : v = s
  · rw [e, fset_s]; omega
  · rw [fset_n e]
    simp only [fillN]
    rw [if_pos ⟨h0, h1⟩]
    omega
/-! what has room, what is taken -/
def tkC (lf st rd : Int → Int) (s z : Int) : Nat → Int → Int
  | 0 => lf
  | k + 1 => fset (tkC lf st rd s z k) (rd (8 * s + k)) (tkC lf st rd s z k (rd (8 * s + k)) - z)
theorem tkC_1 {lf st rd : Int → Int} {s z i : Int} (h : 0 ≤ i) : tkC lf st rd s z (i + 1).toNat = fset (tkC lf st rd s z i.toNat) (rd (8 * s + i)) (tkC lf st rd s z i.toNat (rd (8 * s + i)) - z) := by
  rw [show (i + 1).toNat = i.toNat + 1 by omega]
  simp only [tkC]
  rw [show ((i.toNat : Nat) : Int) = i by omega]
section LI
variable {g : Gt} {M : Mem}
theorem sX2_shorten (d : Nat) (u v w : Int) (hu : 0 ≤ u ∧ u < 9) (hv : 0 ≤ v ∧ v < 9) (hw : 0 ≤ w ∧ w ≤ 20) (hf : dsB (M 38)) : Ex LyC g d mX2_shorten [vr 37, vi u, vi v, vi w] M (PI (if M 38 u + w < M 38 v then 1 else 0) (mset M 38 (rlx (M 38) u v w))) := by
  refine Ex.in [some (vr 37), some (vi u), some (vi v), some (vi w)] (by decide +kernel) rfl (Nat.le_of_ble_eq_true rfl) ?_ rfl
  have hfu := hf u hu.1 hu.2
  have hfv := hf v hv.1 hv.2
  refine r_aldn iX2_shorten_0 rfl ?_
  refine r_getr iX2_shorten_1 flX2_9 rfl rfl ?_
  refine r_ldn iX2_shorten_4 rfl ?_
  refine r_ial iX2_shorten_5 rfl (by omega) ?_
  refine r_ldn iX2_shorten_6 rfl ?_
  refine r_add iX2_shorten_7 ?_
  refine r_aldn iX2_shorten_8 rfl ?_
  refine r_getr iX2_shorten_9 flX2_9 rfl rfl ?_
  refine r_ldn iX2_shorten_12 rfl ?_
  refine r_ial iX2_shorten_13 rfl (by omega) ?_
  refine r_clt iX2_shorten_14 (by omega) (fun h14 => ?_) (fun h14 => ?_)
  · refine r_aldn iX2_shorten_19 rfl ?_
    refine r_getr iX2_shorten_20 flX2_9 rfl rfl ?_
    refine r_ldn iX2_shorten_23 rfl ?_
    refine r_aldn iX2_shorten_24 rfl ?_
    refine r_getr iX2_shorten_25 flX2_9 rfl rfl ?_
    refine r_ldn iX2_shorten_28 rfl ?_
    refine r_ial iX2_shorten_29 rfl (by omega) ?_
    refine r_ldn iX2_shorten_30 rfl ?_
    refine r_add iX2_shorten_31 ?_
    refine r_ias iX2_shorten_32 rfl (by omega) ?_
    refine r_con iX2_shorten_33 ?_
    refine r_zret iX2_shorten_34 rfl (by omega) ?_
    exact ⟨by rw [if_pos h14], by unfold rlx; rw [if_pos h14]⟩
  · refine r_con iX2_shorten_17 ?_
    refine r_zret iX2_shorten_18 rfl (by omega) ?_
    exact ⟨by rw [if_neg (by omega)], by unfold rlx; rw [if_neg (by omega), mset_eq rfl]⟩
theorem sX2_spread (d : Nat) (s : Int) (hs : 0 ≤ s ∧ s < 9) (hln : ∀ r, 0 ≤ r → r < M 1 1 → 0 ≤ M 6 r ∧ M 6 r ≤ 20) (hN : NB M) : Ex LyC g (d + 1) mX2_spread [vr 37, vr 1, vi s, vr 6] M (PV (mset M 38 (itF (M 2) (M 3) (M 6) (M 1 1) (ds0 s (M 38)) (M 1 0 - 1).toNat))) := by
  refine Ex.in [some (vr 37), some (vr 1), some (vi s), some (vr 6), none, none, none, none, none] (by decide +kernel) rfl (Nat.le_of_ble_eq_true rfl) ?_ rfl
  obtain ⟨hp0, hr, hl, hR, hL⟩ := id hN
  have hit : ∀ k : Nat, dsB (itF (M 2) (M 3) (M 6) (M 1 1) (ds0 s (M 38)) k) ∧ ∀ n : Nat, n ≤ (M 1 1).toNat → dsB (rdF (M 2) (M 3) (M 6) (itF (M 2) (M 3) (M 6) (M 1 1) (ds0 s (M 38)) k) n) := by
    intro k
    have key : ∀ f : Int → Int, dsB f → ∀ n : Nat, n ≤ (M 1 1).toNat → dsB (rdF (M 2) (M 3) (M 6) f n) := by
      intro f hf n
      induction n with
      | zero => intro _; exact hf
      | succ n ih =>
        intro hn
        have h1 := hR n (by omega) (by omega)
        have h2 := hln n (by omega) (by omega)
        exact rlx_b (rlx_b (ih (by omega)) (by omega) (by omega) h2.1) (by omega) (by omega) h2.1
    induction k with
    | zero => exact ⟨ds0_b, key _ ds0_b⟩
    | succ k ih => exact ⟨ih.2 _ (Nat.le_refl _), key _ (ih.2 _ (Nat.le_refl _))⟩
  have O : ∀ (n9 : Nat) (k c : Int) (q : Nat) (w6 w7 w8 : Option MV), k = q + 1 → k ≤ M 1 0 → (c = 0 ∨ c = 1) → (c = 0 → rdF (M 2) (M 3) (M 6) (itF (M 2) (M 3) (M 6) (M 1 1) (ds0 s (M 38)) q) (M 1 1).toNat = (itF (M 2) (M 3) (M 6) (M 1 1) (ds0 s (M 38)) q)) → M 1 0 - k < n9 → R LyC g mX2_spread (d + 1) 22 [some (vr 37), some (vr 1), some (vi s), some (vr 6), some (vi c), some (vi k), w6, w7, w8] [] (mset M 38 (itF (M 2) (M 3) (M 6) (M 1 1) (ds0 s (M 38)) q)) (PV (mset M 38 (itF (M 2) (M 3) (M 6) (M 1 1) (ds0 s (M 38)) (M 1 0 - 1).toNat))) := by
    intro n9
    induction n9 with
    | zero =>
      intro k c q w6 w7 w8 h0 h1 hc hcf hm9
      omega
    | succ n9 ih =>
      intro k c q w6 w7 w8 h0 h1 hc hcf hm9
      have I : ∀ (n8 : Nat) (i c : Int) (w7 w8 : Option MV), (k < M 1 0) → (0 ≤ i) → (i ≤ M 1 1) → (c = 0 ∨ c = 1) → (c = 0 → (rdF (M 2) (M 3) (M 6) (itF (M 2) (M 3) (M 6) (M 1 1) (ds0 s (M 38)) q) i.toNat) = (itF (M 2) (M 3) (M 6) (M 1 1) (ds0 s (M 38)) q)) → M 1 1 - i < n8 → R LyC g mX2_spread (d + 1) 42 [some (vr 37), some (vr 1), some (vi s), some (vr 6), some (vi c), some (vi k), some (vi i), w7, w8] [] (mset M 38 (rdF (M 2) (M 3) (M 6) (itF (M 2) (M 3) (M 6) (M 1 1) (ds0 s (M 38)) q) i.toNat)) (PV (mset M 38 (itF (M 2) (M 3) (M 6) (M 1 1) (ds0 s (M 38)) (M 1 0 - 1).toNat))) := by
        intro n8
        induction n8 with
        | zero =>
          intro i c w7 w8 hk h0i h1i hci hcfi hm9
          omega
        | succ n8 ih2 =>
          intro i c w7 w8 hk h0i h1i hci hcfi hm9
          refine r_ld iX2_spread_42 rfl ?_
          refine r_aldn iX2_spread_44 rfl ?_
          refine r_geti 1 iX2_spread_45 flX2_39 rfl rfl rfl rfl ?_
          simp only [mset_s, mset_n, ne_eq, Nat.reduceEqDiff, not_false_eq_true]
          refine r_cge iX2_spread_48 (by omega) (fun h48 => ?_) (fun h48 => ?_)
          · refine r_inc iX2_spread_127 rfl (by decide) rfl ?_
            refine r_goto iX2_spread_130 ?_
            have e3 : i = M 1 1 := by omega
            rw [e3]
            exact ih (k + 1) c (q + 1) _ _ _ (by omega) (by omega) hci (fun z => by rw [e3] at hcfi; have e4 := hcfi z; show rdF (M 2) (M 3) (M 6) (rdF (M 2) (M 3) (M 6) (itF (M 2) (M 3) (M 6) (M 1 1) (ds0 s (M 38)) q) (M 1 1).toNat) (M 1 1).toNat = rdF (M 2) (M 3) (M 6) (itF (M 2) (M 3) (M 6) (M 1 1) (ds0 s (M 38)) q) (M 1 1).toNat; rw [e4, e4]) (by omega)
          · have hri := hR i h0i (by omega)
            have hli := hln i h0i (by omega)
            have hd1 : dsB (rdF (M 2) (M 3) (M 6) (itF (M 2) (M 3) (M 6) (M 1 1) (ds0 s (M 38)) q) i.toNat) := (hit q).2 _ (by omega)
            have hd2 : dsB (rlx (rdF (M 2) (M 3) (M 6) (itF (M 2) (M 3) (M 6) (M 1 1) (ds0 s (M 38)) q) i.toNat) (M 2 i) (M 3 i) (M 6 i)) := rlx_b hd1 (by omega) (by omega) hli.1
            have e1 := rdF_1 (a := M 2) (b := M 3) (ln := M 6) (f := (itF (M 2) (M 3) (M 6) (M 1 1) (ds0 s (M 38)) q)) h0i
            refine r_aldn iX2_spread_51 rfl ?_
            refine r_aldn iX2_spread_52 rfl ?_
            refine r_getr iX2_spread_53 flX2_42 rfl rfl ?_
            refine r_ld iX2_spread_56 rfl ?_
            refine r_ial iX2_spread_58 rfl (by omega) ?_
            refine r_aldn iX2_spread_59 rfl ?_
            refine r_getr iX2_spread_60 flX2_45 rfl rfl ?_
            refine r_ld iX2_spread_63 rfl ?_
            refine r_ial iX2_spread_65 rfl (by omega) ?_
            refine r_aldn iX2_spread_66 rfl ?_
            refine r_ld iX2_spread_67 rfl ?_
            refine r_ial iX2_spread_69 rfl (by omega) ?_
            refine call_V3i iX2_spread_70 clX2_48 myX2_shorten rfl rfl rfl rfl (sX2_shorten (M := (mset M 38 (rdF (M 2) (M 3) (M 6) (itF (M 2) (M 3) (M 6) (M 1 1) (ds0 s (M 38)) q) i.toNat))) _ _ _ _ (by exact ⟨hri.1.1, by show M 2 i < 9; omega⟩) (by exact ⟨by show 0 ≤ M 3 i; omega, by show M 3 i < 9; omega⟩) (by exact hli) (by rw [mset_s]; exact hd1)) ?_
            simp only [mset_s, mset_mset, mset_n, ne_eq, Nat.reduceEqDiff, not_false_eq_true]
            refine r_st iX2_spread_73 (by decide) rfl ?_
            refine r_aldn iX2_spread_75 rfl ?_
            refine r_aldn iX2_spread_76 rfl ?_
            refine r_getr iX2_spread_77 flX2_45 rfl rfl ?_
            refine r_ld iX2_spread_80 rfl ?_
            refine r_ial iX2_spread_82 rfl (by omega) ?_
            refine r_aldn iX2_spread_83 rfl ?_
            refine r_getr iX2_spread_84 flX2_42 rfl rfl ?_
            refine r_ld iX2_spread_87 rfl ?_
            refine r_ial iX2_spread_89 rfl (by omega) ?_
            refine r_aldn iX2_spread_90 rfl ?_
            refine r_ld iX2_spread_91 rfl ?_
            refine r_ial iX2_spread_93 rfl (by omega) ?_
            refine call_V3i iX2_spread_94 clX2_48 myX2_shorten rfl rfl rfl rfl (sX2_shorten (M := mset M 38 (rlx (rdF (M 2) (M 3) (M 6) (itF (M 2) (M 3) (M 6) (M 1 1) (ds0 s (M 38)) q) i.toNat) (M 2 i) (M 3 i) (M 6 i))) _ _ _ _ (by exact ⟨by show 0 ≤ M 3 i; omega, by show M 3 i < 9; omega⟩) (by exact ⟨hri.1.1, by show M 2 i < 9; omega⟩) (by exact hli) (by rw [mset_s]; exact hd2)) ?_
            simp only [mset_s, mset_mset, mset_n, ne_eq, Nat.reduceEqDiff, not_false_eq_true]
            rw [← e1]
            refine r_st iX2_spread_97 (by decide) rfl ?_
            refine r_ld iX2_spread_99 rfl ?_
            refine r_ifne iX2_spread_101 (by omega) (fun h101 => ?_) (fun h101 => ?_)
            · refine r_con iX2_spread_114 ?_
              refine r_goto iX2_spread_115 ?_
              refine r_st iX2_spread_119 (by decide) rfl ?_
              refine r_inc iX2_spread_121 rfl (by decide) rfl ?_
              refine r_goto iX2_spread_124 ?_
              exact ih2 (i + 1) 1 _ _ (by omega) (by omega) (by omega) (by omega) (fun z => by omega) (by omega)
            · refine r_ld iX2_spread_104 rfl ?_
              refine r_ifne iX2_spread_106 (by split <;> omega) (fun h106 => ?_) (fun h106 => ?_)
              · rw [ne_eq, ite10n] at h106
                refine r_con iX2_spread_114 ?_
                refine r_goto iX2_spread_115 ?_
                refine r_st iX2_spread_119 (by decide) rfl ?_
                refine r_inc iX2_spread_121 rfl (by decide) rfl ?_
                refine r_goto iX2_spread_124 ?_
                exact ih2 (i + 1) 1 _ _ (by omega) (by omega) (by omega) (by omega) (fun z => by omega) (by omega)
              · rw [ite10] at h106
                refine r_ld iX2_spread_109 rfl ?_
                refine r_ifeq iX2_spread_111 (by split <;> omega) (fun h111 => ?_) (fun h111 => ?_)
                · rw [ite10] at h111
                  refine r_con iX2_spread_118 ?_
                  refine r_st iX2_spread_119 (by decide) rfl ?_
                  refine r_inc iX2_spread_121 rfl (by decide) rfl ?_
                  refine r_goto iX2_spread_124 ?_
                  have e2 : rlx (rdF (M 2) (M 3) (M 6) (itF (M 2) (M 3) (M 6) (M 1 1) (ds0 s (M 38)) q) i.toNat) (M 2 i) (M 3 i) (M 6 i) = (rdF (M 2) (M 3) (M 6) (itF (M 2) (M 3) (M 6) (M 1 1) (ds0 s (M 38)) q) i.toNat) := by unfold rlx; rw [if_neg h106]
                  have e5 : rdF (M 2) (M 3) (M 6) (itF (M 2) (M 3) (M 6) (M 1 1) (ds0 s (M 38)) q) (i + 1).toNat = (itF (M 2) (M 3) (M 6) (M 1 1) (ds0 s (M 38)) q) := by
                    rw [e2] at h111
                    rw [e1, e2]
                    unfold rlx
                    rw [if_neg h111]
                    exact hcfi h101
                  exact ih2 (i + 1) 0 _ _ (by omega) (by omega) (by omega) (by omega) (fun _ => e5) (by omega)
                · rw [ne_eq, ite10n] at h111
                  refine r_con iX2_spread_114 ?_
                  refine r_goto iX2_spread_115 ?_
                  refine r_st iX2_spread_119 (by decide) rfl ?_
                  refine r_inc iX2_spread_121 rfl (by decide) rfl ?_
                  refine r_goto iX2_spread_124 ?_
                  exact ih2 (i + 1) 1 _ _ (by omega) (by omega) (by omega) (by omega) (fun z => by omega) (by omega)
      refine r_ld iX2_spread_22 rfl ?_
      refine r_aldn iX2_spread_24 rfl ?_
      refine r_geti 0 iX2_spread_25 flX2_35 rfl rfl rfl rfl ?_
      simp only [mset_s, mset_n, ne_eq, Nat.reduceEqDiff, not_false_eq_true]
      refine r_cge iX2_spread_28 (by omega) (fun h28 => ?_) (fun h28 => ?_)
      · refine r_vret iX2_spread_133 rfl ?_
        have e1 : (M 1 0 - 1).toNat = q := by omega
        rw [e1]
        exact ⟨rfl, rfl⟩
      · refine r_ld iX2_spread_31 rfl ?_
        refine r_ifeq iX2_spread_33 (by omega) (fun h33 => ?_) (fun h33 => ?_)
        · refine r_vret iX2_spread_133 rfl ?_
          have e2 := itF_fix (hcf h33) ((M 1 0 - 1).toNat - q)
          rw [show q + ((M 1 0 - 1).toNat - q) = (M 1 0 - 1).toNat by omega] at e2
          rw [e2]
          exact ⟨rfl, rfl⟩
        · refine r_con iX2_spread_36 ?_
          refine r_st iX2_spread_37 (by decide) rfl ?_
          refine r_con iX2_spread_39 ?_
          refine r_st iX2_spread_40 (by decide) rfl ?_
          exact I 21 0 0 _ _ h28 (by omega) (by omega) (by omega) (fun _ => rfl) (by omega)
  refine r_aldn iX2_spread_0 rfl ?_
  refine r_getr iX2_spread_1 flX2_9 rfl rfl ?_
  refine r_ldc (n := 1000000) iX2_spread_4 cnX2_28 (by decide) ?_
  refine call_S2v iX2_spread_6 clX2_29 myJ_fill rfl (sJ_fill _ _ 9 _ rfl (by decide)) ?_
  refine r_aldn iX2_spread_9 rfl ?_
  refine r_getr iX2_spread_10 flX2_9 rfl rfl ?_
  refine r_ldn iX2_spread_13 rfl ?_
  refine r_con iX2_spread_14 ?_
  refine r_ias iX2_spread_15 rfl (by omega) ?_
  refine r_con iX2_spread_16 ?_
  refine r_st iX2_spread_17 (by decide) rfl ?_
  refine r_con iX2_spread_19 ?_
  refine r_st iX2_spread_20 (by decide) rfl ?_
  simp only [mset_s, mset_mset]
  exact O 10 1 1 0 _ _ _ (by omega) (by omega) (by omega) (fun z => by omega) (by omega)
theorem sX2_shortenL (d : Nat) (u v w : Int) (hu : 0 ≤ u ∧ u < 9) (hv : 0 ≤ v ∧ v < 9) (hw : 0 ≤ w ∧ w ≤ 20) (hf : dsB (M 34)) : Ex LyC g d mX2_shorten [vr 33, vi u, vi v, vi w] M (PI (if M 34 u + w < M 34 v then 1 else 0) (mset M 34 (rlx (M 34) u v w))) := by
  refine Ex.in [some (vr 33), some (vi u), some (vi v), some (vi w)] (by decide +kernel) rfl (Nat.le_of_ble_eq_true rfl) ?_ rfl
  have hfu := hf u hu.1 hu.2
  have hfv := hf v hv.1 hv.2
  refine r_aldn iX2_shorten_0 rfl ?_
  refine r_getr iX2_shorten_1 flX2_9 rfl rfl ?_
  refine r_ldn iX2_shorten_4 rfl ?_
  refine r_ial iX2_shorten_5 rfl (by omega) ?_
  refine r_ldn iX2_shorten_6 rfl ?_
  refine r_add iX2_shorten_7 ?_
  refine r_aldn iX2_shorten_8 rfl ?_
  refine r_getr iX2_shorten_9 flX2_9 rfl rfl ?_
  refine r_ldn iX2_shorten_12 rfl ?_
  refine r_ial iX2_shorten_13 rfl (by omega) ?_
  refine r_clt iX2_shorten_14 (by omega) (fun h14 => ?_) (fun h14 => ?_)
  · refine r_aldn iX2_shorten_19 rfl ?_
    refine r_getr iX2_shorten_20 flX2_9 rfl rfl ?_
    refine r_ldn iX2_shorten_23 rfl ?_
    refine r_aldn iX2_shorten_24 rfl ?_
    refine r_getr iX2_shorten_25 flX2_9 rfl rfl ?_
    refine r_ldn iX2_shorten_28 rfl ?_
    refine r_ial iX2_shorten_29 rfl (by omega) ?_
    refine r_ldn iX2_shorten_30 rfl ?_
    refine r_add iX2_shorten_31 ?_
    refine r_ias iX2_shorten_32 rfl (by omega) ?_
    refine r_con iX2_shorten_33 ?_
    refine r_zret iX2_shorten_34 rfl (by omega) ?_
    exact ⟨by rw [if_pos h14], by unfold rlx; rw [if_pos h14]⟩
  · refine r_con iX2_shorten_17 ?_
    refine r_zret iX2_shorten_18 rfl (by omega) ?_
    exact ⟨by rw [if_neg (by omega)], by unfold rlx; rw [if_neg (by omega), mset_eq rfl]⟩
theorem sX2_spreadL (d : Nat) (s : Int) (hs : 0 ≤ s ∧ s < 9) (hln : ∀ r, 0 ≤ r → r < M 1 1 → 0 ≤ M 35 r ∧ M 35 r ≤ 20) (hN : NB M) : Ex LyC g (d + 1) mX2_spread [vr 33, vr 1, vi s, vr 35] M (PV (mset M 34 (itF (M 2) (M 3) (M 35) (M 1 1) (ds0 s (M 34)) (M 1 0 - 1).toNat))) := by
  refine Ex.in [some (vr 33), some (vr 1), some (vi s), some (vr 35), none, none, none, none, none] (by decide +kernel) rfl (Nat.le_of_ble_eq_true rfl) ?_ rfl
  obtain ⟨hp0, hr, hl, hR, hL⟩ := id hN
  have hit : ∀ k : Nat, dsB (itF (M 2) (M 3) (M 35) (M 1 1) (ds0 s (M 34)) k) ∧ ∀ n : Nat, n ≤ (M 1 1).toNat → dsB (rdF (M 2) (M 3) (M 35) (itF (M 2) (M 3) (M 35) (M 1 1) (ds0 s (M 34)) k) n) := by
    intro k
    have key : ∀ f : Int → Int, dsB f → ∀ n : Nat, n ≤ (M 1 1).toNat → dsB (rdF (M 2) (M 3) (M 35) f n) := by
      intro f hf n
      induction n with
      | zero => intro _; exact hf
      | succ n ih =>
        intro hn
        have h1 := hR n (by omega) (by omega)
        have h2 := hln n (by omega) (by omega)
        exact rlx_b (rlx_b (ih (by omega)) (by omega) (by omega) h2.1) (by omega) (by omega) h2.1
    induction k with
    | zero => exact ⟨ds0_b, key _ ds0_b⟩
    | succ k ih => exact ⟨ih.2 _ (Nat.le_refl _), key _ (ih.2 _ (Nat.le_refl _))⟩
  have O : ∀ (n9 : Nat) (k c : Int) (q : Nat) (w6 w7 w8 : Option MV), k = q + 1 → k ≤ M 1 0 → (c = 0 ∨ c = 1) → (c = 0 → rdF (M 2) (M 3) (M 35) (itF (M 2) (M 3) (M 35) (M 1 1) (ds0 s (M 34)) q) (M 1 1).toNat = (itF (M 2) (M 3) (M 35) (M 1 1) (ds0 s (M 34)) q)) → M 1 0 - k < n9 → R LyC g mX2_spread (d + 1) 22 [some (vr 33), some (vr 1), some (vi s), some (vr 35), some (vi c), some (vi k), w6, w7, w8] [] (mset M 34 (itF (M 2) (M 3) (M 35) (M 1 1) (ds0 s (M 34)) q)) (PV (mset M 34 (itF (M 2) (M 3) (M 35) (M 1 1) (ds0 s (M 34)) (M 1 0 - 1).toNat))) := by
    intro n9
    induction n9 with
    | zero =>
      intro k c q w6 w7 w8 h0 h1 hc hcf hm9
      omega
    | succ n9 ih =>
      intro k c q w6 w7 w8 h0 h1 hc hcf hm9
      have I : ∀ (n8 : Nat) (i c : Int) (w7 w8 : Option MV), (k < M 1 0) → (0 ≤ i) → (i ≤ M 1 1) → (c = 0 ∨ c = 1) → (c = 0 → (rdF (M 2) (M 3) (M 35) (itF (M 2) (M 3) (M 35) (M 1 1) (ds0 s (M 34)) q) i.toNat) = (itF (M 2) (M 3) (M 35) (M 1 1) (ds0 s (M 34)) q)) → M 1 1 - i < n8 → R LyC g mX2_spread (d + 1) 42 [some (vr 33), some (vr 1), some (vi s), some (vr 35), some (vi c), some (vi k), some (vi i), w7, w8] [] (mset M 34 (rdF (M 2) (M 3) (M 35) (itF (M 2) (M 3) (M 35) (M 1 1) (ds0 s (M 34)) q) i.toNat)) (PV (mset M 34 (itF (M 2) (M 3) (M 35) (M 1 1) (ds0 s (M 34)) (M 1 0 - 1).toNat))) := by
        intro n8
        induction n8 with
        | zero =>
          intro i c w7 w8 hk h0i h1i hci hcfi hm9
          omega
        | succ n8 ih2 =>
          intro i c w7 w8 hk h0i h1i hci hcfi hm9
          refine r_ld iX2_spread_42 rfl ?_
          refine r_aldn iX2_spread_44 rfl ?_
          refine r_geti 1 iX2_spread_45 flX2_39 rfl rfl rfl rfl ?_
          simp only [mset_s, mset_n, ne_eq, Nat.reduceEqDiff, not_false_eq_true]
          refine r_cge iX2_spread_48 (by omega) (fun h48 => ?_) (fun h48 => ?_)
          · refine r_inc iX2_spread_127 rfl (by decide) rfl ?_
            refine r_goto iX2_spread_130 ?_
            have e3 : i = M 1 1 := by omega
            rw [e3]
            exact ih (k + 1) c (q + 1) _ _ _ (by omega) (by omega) hci (fun z => by rw [e3] at hcfi; have e4 := hcfi z; show rdF (M 2) (M 3) (M 35) (rdF (M 2) (M 3) (M 35) (itF (M 2) (M 3) (M 35) (M 1 1) (ds0 s (M 34)) q) (M 1 1).toNat) (M 1 1).toNat = rdF (M 2) (M 3) (M 35) (itF (M 2) (M 3) (M 35) (M 1 1) (ds0 s (M 34)) q) (M 1 1).toNat; rw [e4, e4]) (by omega)
          · have hri := hR i h0i (by omega)
            have hli := hln i h0i (by omega)
            have hd1 : dsB (rdF (M 2) (M 3) (M 35) (itF (M 2) (M 3) (M 35) (M 1 1) (ds0 s (M 34)) q) i.toNat) := (hit q).2 _ (by omega)
            have hd2 : dsB (rlx (rdF (M 2) (M 3) (M 35) (itF (M 2) (M 3) (M 35) (M 1 1) (ds0 s (M 34)) q) i.toNat) (M 2 i) (M 3 i) (M 35 i)) := rlx_b hd1 (by omega) (by omega) hli.1
            have e1 := rdF_1 (a := M 2) (b := M 3) (ln := M 35) (f := (itF (M 2) (M 3) (M 35) (M 1 1) (ds0 s (M 34)) q)) h0i
            refine r_aldn iX2_spread_51 rfl ?_
            refine r_aldn iX2_spread_52 rfl ?_
            refine r_getr iX2_spread_53 flX2_42 rfl rfl ?_
            refine r_ld iX2_spread_56 rfl ?_
            refine r_ial iX2_spread_58 rfl (by omega) ?_
            refine r_aldn iX2_spread_59 rfl ?_
            refine r_getr iX2_spread_60 flX2_45 rfl rfl ?_
            refine r_ld iX2_spread_63 rfl ?_
            refine r_ial iX2_spread_65 rfl (by omega) ?_
            refine r_aldn iX2_spread_66 rfl ?_
            refine r_ld iX2_spread_67 rfl ?_
            refine r_ial iX2_spread_69 rfl (by omega) ?_
            refine call_V3i iX2_spread_70 clX2_48 myX2_shorten rfl rfl rfl rfl (sX2_shortenL (M := (mset M 34 (rdF (M 2) (M 3) (M 35) (itF (M 2) (M 3) (M 35) (M 1 1) (ds0 s (M 34)) q) i.toNat))) _ _ _ _ (by exact ⟨hri.1.1, by show M 2 i < 9; omega⟩) (by exact ⟨by show 0 ≤ M 3 i; omega, by show M 3 i < 9; omega⟩) (by exact hli) (by rw [mset_s]; exact hd1)) ?_
            simp only [mset_s, mset_mset, mset_n, ne_eq, Nat.reduceEqDiff, not_false_eq_true]
            refine r_st iX2_spread_73 (by decide) rfl ?_
            refine r_aldn iX2_spread_75 rfl ?_
            refine r_aldn iX2_spread_76 rfl ?_
            refine r_getr iX2_spread_77 flX2_45 rfl rfl ?_
            refine r_ld iX2_spread_80 rfl ?_
            refine r_ial iX2_spread_82 rfl (by omega) ?_
            refine r_aldn iX2_spread_83 rfl ?_
            refine r_getr iX2_spread_84 flX2_42 rfl rfl ?_
            refine r_ld iX2_spread_87 rfl ?_
            refine r_ial iX2_spread_89 rfl (by omega) ?_
            refine r_aldn iX2_spread_90 rfl ?_
            refine r_ld iX2_spread_91 rfl ?_
            refine r_ial iX2_spread_93 rfl (by omega) ?_
            refine call_V3i iX2_spread_94 clX2_48 myX2_shorten rfl rfl rfl rfl (sX2_shortenL (M := mset M 34 (rlx (rdF (M 2) (M 3) (M 35) (itF (M 2) (M 3) (M 35) (M 1 1) (ds0 s (M 34)) q) i.toNat) (M 2 i) (M 3 i) (M 35 i))) _ _ _ _ (by exact ⟨by show 0 ≤ M 3 i; omega, by show M 3 i < 9; omega⟩) (by exact ⟨hri.1.1, by show M 2 i < 9; omega⟩) (by exact hli) (by rw [mset_s]; exact hd2)) ?_
            simp only [mset_s, mset_mset, mset_n, ne_eq, Nat.reduceEqDiff, not_false_eq_true]
            rw [← e1]
            refine r_st iX2_spread_97 (by decide) rfl ?_
            refine r_ld iX2_spread_99 rfl ?_
            refine r_ifne iX2_spread_101 (by omega) (fun h101 => ?_) (fun h101 => ?_)
            · refine r_con iX2_spread_114 ?_
              refine r_goto iX2_spread_115 ?_
              refine r_st iX2_spread_119 (by decide) rfl ?_
              refine r_inc iX2_spread_121 rfl (by decide) rfl ?_
              refine r_goto iX2_spread_124 ?_
              exact ih2 (i + 1) 1 _ _ (by omega) (by omega) (by omega) (by omega) (fun z => by omega) (by omega)
            · refine r_ld iX2_spread_104 rfl ?_
              refine r_ifne iX2_spread_106 (by split <;> omega) (fun h106 => ?_) (fun h106 => ?_)
              · rw [ne_eq, ite10n] at h106
                refine r_con iX2_spread_114 ?_
                refine r_goto iX2_spread_115 ?_
                refine r_st iX2_spread_119 (by decide) rfl ?_
                refine r_inc iX2_spread_121 rfl (by decide) rfl ?_
                refine r_goto iX2_spread_124 ?_
                exact ih2 (i + 1) 1 _ _ (by omega) (by omega) (by omega) (by omega) (fun z => by omega) (by omega)
              · rw [ite10] at h106
                refine r_ld iX2_spread_109 rfl ?_
                refine r_ifeq iX2_spread_111 (by split <;> omega) (fun h111 => ?_) (fun h111 => ?_)
                · rw [ite10] at h111
                  refine r_con iX2_spread_118 ?_
                  refine r_st iX2_spread_119 (by decide) rfl ?_
                  refine r_inc iX2_spread_121 rfl (by decide) rfl ?_
                  refine r_goto iX2_spread_124 ?_
                  have e2 : rlx (rdF (M 2) (M 3) (M 35) (itF (M 2) (M 3) (M 35) (M 1 1) (ds0 s (M 34)) q) i.toNat) (M 2 i) (M 3 i) (M 35 i) = (rdF (M 2) (M 3) (M 35) (itF (M 2) (M 3) (M 35) (M 1 1) (ds0 s (M 34)) q) i.toNat) := by unfold rlx; rw [if_neg h106]
                  have e5 : rdF (M 2) (M 3) (M 35) (itF (M 2) (M 3) (M 35) (M 1 1) (ds0 s (M 34)) q) (i + 1).toNat = (itF (M 2) (M 3) (M 35) (M 1 1) (ds0 s (M 34)) q) := by
                    rw [e2] at h111
                    rw [e1, e2]
                    unfold rlx
                    rw [if_neg h111]
                    exact hcfi h101
                  exact ih2 (i + 1) 0 _ _ (by omega) (by omega) (by omega) (by omega) (fun _ => e5) (by omega)
                · rw [ne_eq, ite10n] at h111
                  refine r_con iX2_spread_114 ?_
                  refine r_goto iX2_spread_115 ?_
                  refine r_st iX2_spread_119 (by decide) rfl ?_
                  refine r_inc iX2_spread_121 rfl (by decide) rfl ?_
                  refine r_goto iX2_spread_124 ?_
                  exact ih2 (i + 1) 1 _ _ (by omega) (by omega) (by omega) (by omega) (fun z => by omega) (by omega)
      refine r_ld iX2_spread_22 rfl ?_
      refine r_aldn iX2_spread_24 rfl ?_
      refine r_geti 0 iX2_spread_25 flX2_35 rfl rfl rfl rfl ?_
      simp only [mset_s, mset_n, ne_eq, Nat.reduceEqDiff, not_false_eq_true]
      refine r_cge iX2_spread_28 (by omega) (fun h28 => ?_) (fun h28 => ?_)
      · refine r_vret iX2_spread_133 rfl ?_
        have e1 : (M 1 0 - 1).toNat = q := by omega
        rw [e1]
        exact ⟨rfl, rfl⟩
      · refine r_ld iX2_spread_31 rfl ?_
        refine r_ifeq iX2_spread_33 (by omega) (fun h33 => ?_) (fun h33 => ?_)
        · refine r_vret iX2_spread_133 rfl ?_
          have e2 := itF_fix (hcf h33) ((M 1 0 - 1).toNat - q)
          rw [show q + ((M 1 0 - 1).toNat - q) = (M 1 0 - 1).toNat by omega] at e2
          rw [e2]
          exact ⟨rfl, rfl⟩
        · refine r_con iX2_spread_36 ?_
          refine r_st iX2_spread_37 (by decide) rfl ?_
          refine r_con iX2_spread_39 ?_
          refine r_st iX2_spread_40 (by decide) rfl ?_
          exact I 21 0 0 _ _ h28 (by omega) (by omega) (by omega) (fun _ => rfl) (by omega)
  refine r_aldn iX2_spread_0 rfl ?_
  refine r_getr iX2_spread_1 flX2_9 rfl rfl ?_
  refine r_ldc (n := 1000000) iX2_spread_4 cnX2_28 (by decide) ?_
  refine call_S2v iX2_spread_6 clX2_29 myJ_fill rfl (sJ_fill _ _ 9 _ rfl (by decide)) ?_
  refine r_aldn iX2_spread_9 rfl ?_
  refine r_getr iX2_spread_10 flX2_9 rfl rfl ?_
  refine r_ldn iX2_spread_13 rfl ?_
  refine r_con iX2_spread_14 ?_
  refine r_ias iX2_spread_15 rfl (by omega) ?_
  refine r_con iX2_spread_16 ?_
  refine r_st iX2_spread_17 (by decide) rfl ?_
  refine r_con iX2_spread_19 ?_
  refine r_st iX2_spread_20 (by decide) rfl ?_
  simp only [mset_s, mset_mset]
  exact O 10 1 1 0 _ _ _ (by omega) (by omega) (by omega) (fun z => by omega) (by omega)
end LI
