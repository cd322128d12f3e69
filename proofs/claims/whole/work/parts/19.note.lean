/-! ways: all rows of roads of a length, in order -/
def pth (rc : Nat) (a b : Int → Int) (t : Int) : Nat → Int → List Int → List (List Int)
  | 0, p, _ => if p = t then [[]] else []
  | k + 1, p, seen => if p = t then [] else (List.range rc).flatMap (fun r : Nat => if nxt a b r p < 0 ∨ nxt a b r p ∈ seen then [] else (pth rc a b t k (nxt a b r p) (nxt a b r p :: seen)).map (fun w => (r : Int) :: w))
def stp (rc : Nat) (a b : Int → Int) (t : Int) (k : Nat) (p : Int) (seen : List Int) (r : Int) : List (List Int) := if nxt a b r p < 0 ∨ nxt a b r p ∈ seen then [] else (pth rc a b t k (nxt a b r p) (nxt a b r p :: seen)).map (fun w => r :: w)
def fl (rc : Nat) (a b : Int → Int) (t : Int) (k : Nat) (p : Int) (seen : List Int) (n : Nat) : List (List Int) := (List.range n).flatMap (fun r : Nat => stp rc a b t k p seen r)
theorem pth_1 {rc : Nat} {a b : Int → Int} {t : Int} {k : Nat} {p : Int} {seen : List Int} (h : p ≠ t) : pth rc a b t (k + 1) p seen = fl rc a b t k p seen rc := by
  simp only [pth, fl, stp]
  rw [if_neg h]
theorem pth_t {rc : Nat} {a b : Int → Int} {t : Int} {k : Nat} {seen : List Int} : pth rc a b t (k + 1) t seen = [] := by
  simp [pth]
theorem fl_1 {rc : Nat} {a b : Int → Int} {t : Int} {k : Nat} {p : Int} {seen : List Int} {n : Nat} : fl rc a b t k p seen (n + 1) = fl rc a b t k p seen n ++ stp rc a b t k p seen n := by
  simp [fl, List.range_succ, List.flatMap_append]
theorem fl_le {rc : Nat} {a b : Int → Int} {t : Int} {k : Nat} {p : Int} {seen : List Int} {n : Nat} : ∀ {m : Nat}, n ≤ m → ∃ B, fl rc a b t k p seen m = fl rc a b t k p seen n ++ B
  | 0, h => ⟨[], by rw [show n = 0 by omega, List.append_nil]⟩
  | m + 1, h => by
    by_cases e : n = m + 1
    · exact ⟨[], by rw [e, List.append_nil]⟩
    · obtain ⟨B, hB⟩ := fl_le (rc := rc) (a := a) (b := b) (t := t) (k := k) (p := p) (seen := seen) (n := n) (m := m) (by omega)
      exact ⟨B ++ stp rc a b t k p seen m, by rw [fl_1, hB, List.append_assoc]⟩
theorem take_full {α : Type} {A B : List α} {n : Nat} (h : (A.take n).length = n) : (A ++ B).take n = A.take n := by
  rw [List.length_take] at h
  rw [List.take_append, show n - A.length = 0 by omega, List.take_zero, List.append_nil]
theorem take_all {α : Type} {A : List α} {n : Nat} (h : (A.take n).length < n) : A.take n = A := by
  rw [List.length_take] at h
  exact List.take_of_length_le (by omega)
/-! roads as a set in one number -/
theorem bt_tb {c : Int} (hc : 0 ≤ c) (p : Int) : bt c p = if c.toNat.testBit p.toNat then 1 else 0 := by
  obtain ⟨n, rfl⟩ : ∃ n : Nat, c = n := ⟨c.toNat, by omega⟩
  unfold bt
  rw [Int.toNat_natCast]
  have e : ((n : Int) / 2 ^ p.toNat % 2) = ((n / 2 ^ p.toNat % 2 : Nat) : Int) := by simp
  rw [e, Nat.testBit_eq_decide_div_mod_eq]
  by_cases h : n / 2 ^ p.toNat % 2 = 1
  · simp [h]
  · have : n / 2 ^ p.toNat % 2 = 0 := by omega
    simp [this]
theorem or_bt {m r : Int} (hm : 0 ≤ m) (hr : 0 ≤ r) (q : Int) (hq : 0 ≤ q) : bt (((m.toNat ||| (2 ^ r.toNat : Int).toNat : Nat)) : Int) q = if q = r then 1 else bt m q := by
  have e : ((2 : Int) ^ r.toNat).toNat = 2 ^ r.toNat := by
    have : ((2 : Int) ^ r.toNat) = ((2 ^ r.toNat : Nat) : Int) := by simp
    rw [this, Int.toNat_natCast]
  rw [bt_tb (Int.natCast_nonneg _), bt_tb hm, Int.toNat_natCast, e, Nat.testBit_or, Nat.testBit_two_pow]
  by_cases h : q = r
  · subst h; simp
  · have h2 : ¬ r.toNat = q.toNat := by omega
    simp [h, h2]
theorem or_lt {m r : Int} {n : Nat} (hm : 0 ≤ m ∧ m < 2 ^ n) (hr : 0 ≤ r ∧ r < n) : 0 ≤ (((m.toNat ||| (2 ^ r.toNat : Int).toNat : Nat)) : Int) ∧ (((m.toNat ||| (2 ^ r.toNat : Int).toNat : Nat)) : Int) < 2 ^ n := by
  have e : ((2 : Int) ^ r.toNat).toNat = 2 ^ r.toNat := by
    have : ((2 : Int) ^ r.toNat) = ((2 ^ r.toNat : Nat) : Int) := by simp
    rw [this, Int.toNat_natCast]
  rw [e]
  refine ⟨Int.natCast_nonneg _, ?_⟩
  have h1 : m.toNat < 2 ^ n := by
    have : ((2 : Int) ^ n) = ((2 ^ n : Nat) : Int) := by simp
    omega
  have h2 : 2 ^ r.toNat < 2 ^ n := Nat.pow_lt_pow_right (by decide) (by omega)
  have h3 := Nat.or_lt_two_pow h1 h2
  have : ((2 : Int) ^ n) = ((2 ^ n : Nat) : Int) := by simp
  omega
def mkO (f : Int → Int) : Nat → Int
  | 0 => 0
  | k + 1 => (((mkO f k).toNat ||| (2 ^ (f k).toNat : Int).toNat : Nat) : Int)
theorem mkO_rng {f : Int → Int} : ∀ {n : Nat}, (∀ k : Int, 0 ≤ k → k < n → 0 ≤ f k ∧ f k < 20) → 0 ≤ mkO f n ∧ mkO f n < 1048576
  | 0, _ => by simp [mkO]
  | n + 1, h => by
    have ih := mkO_rng (f := f) (n := n) (fun k h0 h1 => h k h0 (by omega))
    have := or_lt (m := mkO f n) (r := f n) (n := 20) (by simpa using ih) (h n (by omega) (by omega))
    simpa [mkO] using this
theorem mkO_bt {f : Int → Int} {r : Int} (hr : 0 ≤ r) : ∀ {n : Nat}, (∀ k : Int, 0 ≤ k → k < n → 0 ≤ f k ∧ f k < 20) → (bt (mkO f n) r = 0 ↔ ∀ k : Int, 0 ≤ k → k < n → f k ≠ r)
  | 0, _ => by simp [mkO, bt]; omega
  | n + 1, h => by
    have ih := mkO_bt (f := f) (r := r) hr (n := n) (fun k h0 h1 => h k h0 (by omega))
    have h1 := mkO_rng (f := f) (n := n) (fun k h0 h1 => h k h0 (by omega))
    have h2 := h n (by omega) (by omega)
    simp only [mkO]
    rw [or_bt h1.1 h2.1 r hr]
    by_cases e : r = f n
    · rw [if_pos e]
      refine ⟨fun z => by omega, fun z => absurd e.symm (z n (by omega) (by omega))⟩
    · rw [if_neg e, ih]
      refine ⟨fun z k h0 h1 => ?_, fun z k h0 h1 => z k h0 (by omega)⟩
      by_cases e2 : k = n
      · rw [e2]; exact fun q => e q.symm
      · exact z k h0 (by omega)
theorem mkO_congr {f h : Int → Int} : ∀ {n : Nat}, (∀ k : Int, 0 ≤ k → k < n → f k = h k) → mkO f n = mkO h n
  | 0, _ => rfl
  | n + 1, e => by
    simp only [mkO]
    rw [mkO_congr (fun k h0 h1 => e k h0 (by omega)), e n (by omega) (by omega)]
/-! the ways' rows in memory -/
def m4 (M : Mem) (A B C D : Int → Int) : Mem := fun k => if k = 28 then A else if k = 29 then B else if k = 30 then C else if k = 31 then D else M k
theorem m4_28 (M : Mem) (A B C D : Int → Int) : m4 M A B C D 28 = A := rfl
theorem m4_29 (M : Mem) (A B C D : Int → Int) : m4 M A B C D 29 = B := rfl
theorem m4_30 (M : Mem) (A B C D : Int → Int) : m4 M A B C D 30 = C := rfl
theorem m4_31 (M : Mem) (A B C D : Int → Int) : m4 M A B C D 31 = D := rfl
theorem m4_o {M : Mem} {A B C D : Int → Int} {k : Nat} (h : ¬ k = 28 ∧ ¬ k = 29 ∧ ¬ k = 30 ∧ ¬ k = 31) : m4 M A B C D k = M k := by simp [m4, h.1, h.2.1, h.2.2.1, h.2.2.2]
theorem m4_s28 (M : Mem) (A B C D X : Int → Int) : mset (m4 M A B C D) 28 X = m4 M X B C D := by
  funext k
  simp only [mset, m4]
  by_cases h : k = 28
  · rw [if_pos h, if_pos h]
  · rw [if_neg h, if_neg h, if_neg h]
theorem m4_s29 (M : Mem) (A B C D X : Int → Int) : mset (m4 M A B C D) 29 X = m4 M A X C D := by
  funext k
  simp only [mset, m4]
  by_cases h : k = 29
  · subst h; rfl
  · rw [if_neg h, if_neg h, if_neg h]
theorem m4_s30 (M : Mem) (A B C D X : Int → Int) : mset (m4 M A B C D) 30 X = m4 M A B X D := by
  funext k
  simp only [mset, m4]
  by_cases h : k = 30
  · subst h; rfl
  · rw [if_neg h, if_neg h, if_neg h]
theorem m4_s31 (M : Mem) (A B C D X : Int → Int) : mset (m4 M A B C D) 31 X = m4 M A B C X := by
  funext k
  simp only [mset, m4]
  by_cases h : k = 31
  · subst h; rfl
  · rw [if_neg h, if_neg h, if_neg h]
theorem m4_id (M : Mem) : m4 M (M 28) (M 29) (M 30) (M 31) = M := by
  funext k
  simp only [m4]
  by_cases h : k = 28
  · rw [if_pos h, h]
  · rw [if_neg h]
    by_cases h2 : k = 29
    · rw [if_pos h2, h2]
    · rw [if_neg h2]
      by_cases h3 : k = 30
      · rw [if_pos h3, h3]
      · rw [if_neg h3]
        by_cases h4 : k = 31
        · rw [if_pos h4, h4]
        · rw [if_neg h4]
def cpy (f : Int → Int) (b : Int) (h : Int → Int) (n : Int) : Int → Int := fun j => if b ≤ j ∧ j < b + n then h (j - b) else f j
theorem cpy_0 (f : Int → Int) (b : Int) (h : Int → Int) : cpy f b h 0 = f := by funext j; simp only [cpy]; rw [if_neg (by omega)]
theorem cpy_1 {f h : Int → Int} {b i : Int} (h0 : 0 ≤ i) : fset (cpy f b h i) (b + i) (h i) = cpy f b h (i + 1) := by
  funext j
  simp only [cpy, fset]
  by_cases hj : j = b + i
  · rw [if_pos hj, if_pos (by omega), show j - b = i by omega]
  · rw [if_neg hj]
    by_cases h2 : b ≤ j ∧ j < b + i
    · rw [if_pos h2, if_pos (by omega)]
    · rw [if_neg h2, if_neg (by omega)]
def ntM (M : Mem) (l n : Int) : Mem := m4 M (fset (M 28) l (M 28 l + 1)) (fset (M 29) (8 * l + M 28 l) n) (fset (M 30) (8 * l + M 28 l) (mkO (M 36) n.toNat)) (cpy (M 31) (8 * (8 * l + M 28 l)) (M 36) n)
/-- the ways of load l that stand in memory are L -/
def Wst (M : Mem) (l : Int) (L : List (List Int)) : Prop := M 28 l = L.length ∧ ∀ (i : Nat) (w : List Int), L[i]? = some w → w.length ≤ 8 ∧ M 29 (8 * l + i) = w.length ∧ M 30 (8 * l + i) = mkO (fun k => w.getD k.toNat 0) w.length ∧ ∀ (k : Nat) (r : Int), w[k]? = some r → M 31 (8 * (8 * l + i) + k) = r
/-- only load l's ways, and the trail from e on, have changed -/
def Fr (l e : Int) (M M' : Mem) : Prop := (∀ k, k ≠ 28 → k ≠ 29 → k ≠ 30 → k ≠ 31 → k ≠ 36 → M' k = M k) ∧ (∀ j, j ≠ l → M' 28 j = M 28 j) ∧ (∀ s, (s < 8 * l ∨ 8 * l + 8 ≤ s) → M' 29 s = M 29 s ∧ M' 30 s = M 30 s) ∧ (∀ j, (j < 64 * l ∨ 64 * l + 64 ≤ j) → M' 31 j = M 31 j) ∧ ∀ j, j < e → M' 36 j = M 36 j
theorem Fr.rf (l e : Int) (M : Mem) : Fr l e M M := ⟨fun _ _ _ _ _ _ => rfl, fun _ _ => rfl, fun _ _ => ⟨rfl, rfl⟩, fun _ _ => rfl, fun _ _ => rfl⟩
theorem Fr.tr {l e e' : Int} {M M1 M2 : Mem} (h1 : Fr l e M M1) (h2 : Fr l e' M1 M2) (he : e ≤ e') : Fr l e M M2 :=
  ⟨fun k a b c d f => (h2.1 k a b c d f).trans (h1.1 k a b c d f), fun j h => (h2.2.1 j h).trans (h1.2.1 j h), fun s h => ⟨(h2.2.2.1 s h).1.trans (h1.2.2.1 s h).1, (h2.2.2.1 s h).2.trans (h1.2.2.1 s h).2⟩, fun j h => (h2.2.2.2.1 j h).trans (h1.2.2.2.1 j h), fun j h => (h2.2.2.2.2 j (by omega)).trans (h1.2.2.2.2 j h)⟩
theorem Fr.trail {l e v : Int} (M : Mem) : Fr l e M (mset M 36 (fset (M 36) e v)) :=
  ⟨fun k _ _ _ _ h => mset_n h, fun _ _ => rfl, fun _ _ => ⟨rfl, rfl⟩, fun _ _ => rfl, fun j h => by rw [mset_s, fset_n (by omega)]⟩
theorem Wst.note {M : Mem} {l : Int} {L : List (List Int)} (h : Wst M l L) (hL : L.length < 8) {w : List Int} (hw : ∀ (k : Nat) (r : Int), w[k]? = some r → M 36 k = r) (hn : w.length ≤ 8) : Wst (ntM M l w.length) l (L ++ [w]) ∧ Fr l 9 M (ntM M l w.length) := by
  obtain ⟨h1, h2⟩ := h
  refine ⟨⟨?_, fun i u hu => ?_⟩, fun k a b c d _ => m4_o ⟨a, b, c, d⟩, fun j hj => ?_, fun s hs => ⟨?_, ?_⟩, fun j hj => ?_, fun _ _ => rfl⟩
  · show fset _ _ _ l = _
    rw [fset_s, h1]
    simp
  · by_cases hi : i < L.length
    · rw [List.getElem?_append_left hi] at hu
      obtain ⟨a0, a1, a2, a3⟩ := h2 i u hu
      refine ⟨a0, ?_, ?_, fun k r hk => ?_⟩
      · show fset _ _ _ _ = _
        rw [fset_n (by omega)]; exact a1
      · show fset _ _ _ _ = _
        rw [fset_n (by omega)]; exact a2
      · show cpy _ _ _ _ _ = _
        have := a3 k r hk
        simp only [cpy]
        by_cases hb : 8 * (8 * l + M 28 l) ≤ 8 * (8 * l + (i : Int)) + k ∧ 8 * (8 * l + (i : Int)) + k < 8 * (8 * l + M 28 l) + w.length
        · exfalso
          have := (List.getElem?_eq_some_iff.mp hk).1
          omega
        · rw [if_neg hb]; exact this
    · rw [List.getElem?_append_right (by omega)] at hu
      have hi2 : i - L.length = 0 := by
        have := (List.getElem?_eq_some_iff.mp hu).1
        simp at this; omega
      rw [hi2] at hu
      cases hu
      have hil : (i : Int) = M 28 l := by omega
      rw [hil]
      refine ⟨hn, ?_, ?_, fun k r hk => ?_⟩
      · show fset _ _ _ _ = _
        rw [fset_s]
      · show fset _ _ _ _ = _
        rw [fset_s, Int.toNat_natCast]
        refine mkO_congr (fun k h0 h1 => ?_)
        have hk : w[k.toNat]? = some (w.getD k.toNat 0) := by
          rw [List.getD_eq_getElem?_getD, List.getElem?_eq_getElem (by omega)]
          rfl
        have := hw _ _ hk
        rw [show ((k.toNat : Nat) : Int) = k by omega] at this
        exact this
      · show cpy _ _ _ _ _ = _
        have hk2 := (List.getElem?_eq_some_iff.mp hk).1
        simp only [cpy]
        rw [if_pos (by omega), show 8 * (8 * l + M 28 l) + (k : Int) - 8 * (8 * l + M 28 l) = k by omega]
        exact hw k r hk
  · show fset _ _ _ j = _
    rw [fset_n hj]
  · show fset _ _ _ s = _
    rw [fset_n (by omega)]
  · show fset _ _ _ s = _
    rw [fset_n (by omega)]
  · show cpy _ _ _ _ j = _
    simp only [cpy]
    rw [if_neg (by omega)]
section LL
variable {g : Gt} {M : Mem}
theorem R_mem {Ly : List Ent} {g : Gt} {y : Mth} {d pc : Nat} {lv : List (Option MV)} {st : List MV} {M M' : Mem} {Post : Option MV → Mem → Prop} (h : M' = M) (k : R Ly g y d pc lv st M' Post) : R Ly g y d pc lv st M Post := h ▸ k
theorem mkO_1 {f : Int → Int} {i : Int} (h : 0 ≤ i) : mkO f (i + 1).toNat = (((mkO f i.toNat).toNat ||| (2 ^ (f i).toNat : Int).toNat : Nat) : Int) := by
  rw [show (i + 1).toNat = i.toNat + 1 by omega]
  simp only [mkO]
  rw [show ((i.toNat : Nat) : Int) = i by omega]
theorem sX6_note (d : Nat) (l n : Int) (hl0 : 0 ≤ l ∧ l < 5) (hc : 0 ≤ M 28 l ∧ M 28 l < 8) (hn : 0 ≤ n ∧ n ≤ 8) (ht : ∀ k, 0 ≤ k → k < n → 0 ≤ M 36 k ∧ M 36 k < 20) : Ex LyC g (d + 1) mX6_note [vr 27, vi l, vi n] M (PV (ntM M l n)) := by
  refine Ex.in [some (vr 27), some (vi l), some (vi n), none, none] (by decide +kernel) rfl (Nat.le_of_ble_eq_true rfl) ?_ rfl
  have L : ∀ (n9 : Nat) (i : Int), (0 ≤ i) → (i ≤ n) → n - i < n9 → R LyC g mX6_note (d + 1) 56 [some (vr 27), some (vi l), some (vi n), some (vi (8 * l + M 28 l)), some (vi i)] [] (m4 M (fset (M 28) l (M 28 l + 1)) (fset (M 29) (8 * l + M 28 l) n) (fset (M 30) (8 * l + M 28 l) (mkO (M 36) i.toNat)) (cpy (M 31) (8 * (8 * l + M 28 l)) (M 36) i)) (PV (ntM M l n)) := by
    intro n9
    induction n9 with
    | zero =>
      intro i h0 h1 hm9
      omega
    | succ n9 ih =>
      intro i h0 h1 hm9
      refine r_ld iX6_note_56 rfl ?_
      refine r_ldn iX6_note_58 rfl ?_
      refine r_cge iX6_note_59 (by omega) (fun h59 => ?_) (fun h59 => ?_)
      · refine r_vret iX6_note_105 rfl ?_
        rw [show i = n by omega]
        exact ⟨rfl, rfl⟩
      · have hti := ht i h0 (by omega)
        have hmr := mkO_rng (f := M 36) (n := i.toNat) (fun k h2 h3 => ht k h2 (by omega))
        refine r_aldn iX6_note_62 rfl ?_
        refine r_getr iX6_note_63 flX6_21 rfl rfl ?_
        refine r_ldn iX6_note_66 rfl ?_
        refine r_bip iX6_note_67 (by decide) ?_
        refine r_mul iX6_note_69 ?_
        refine r_ld iX6_note_70 rfl ?_
        refine r_add iX6_note_72 ?_
        refine r_aldn iX6_note_73 rfl ?_
        refine r_getr iX6_note_74 flX6_38 rfl rfl ?_
        refine r_ld iX6_note_77 rfl ?_
        refine r_ial iX6_note_79 rfl (by omega) ?_
        refine r_ias iX6_note_80 rfl (by omega) ?_
        refine r_aldn iX6_note_81 rfl ?_
        refine r_getr iX6_note_82 flX6_18 rfl rfl ?_
        refine r_ldn iX6_note_85 rfl ?_
        refine r_dup2 iX6_note_86 rfl rfl ?_
        refine r_ial iX6_note_87 rfl (by omega) ?_
        try simp only [m4_28, m4_29, m4_30, m4_31, m4_o, m4_s28, m4_s29, m4_s30, m4_s31, fset_s, fset_fset, Nat.reduceEqDiff, not_false_eq_true, and_self]
        refine r_con iX6_note_88 ?_
        refine r_aldn iX6_note_89 rfl ?_
        refine r_getr iX6_note_90 flX6_38 rfl rfl ?_
        refine r_ld iX6_note_93 rfl ?_
        refine r_ial iX6_note_95 rfl (by omega) ?_
        try simp only [m4_28, m4_29, m4_30, m4_31, m4_o, m4_s28, m4_s29, m4_s30, m4_s31, fset_s, fset_fset, Nat.reduceEqDiff, not_false_eq_true, and_self]
        refine r_shl iX6_note_96 (by omega) ?_
        try simp only [m4_28, m4_29, m4_30, m4_31, m4_o, m4_s28, m4_s29, m4_s30, m4_s31, fset_s, fset_fset, Nat.reduceEqDiff, not_false_eq_true, and_self]
        refine r_or iX6_note_97 (by omega) (by have := Int.pow_pos (n := 2) (m := (M 36 i).toNat) (by decide); omega) ?_
        try simp only [m4_28, m4_29, m4_30, m4_31, m4_o, m4_s28, m4_s29, m4_s30, m4_s31, fset_s, fset_fset, Nat.reduceEqDiff, not_false_eq_true, and_self]
        refine r_ias iX6_note_98 rfl (by omega) ?_
        refine r_inc iX6_note_99 rfl (by decide) rfl ?_
        refine r_goto iX6_note_102 ?_
        try simp only [m4_28, m4_29, m4_30, m4_31, m4_o, m4_s28, m4_s29, m4_s30, m4_s31, fset_s, fset_fset, Nat.reduceEqDiff, not_false_eq_true, and_self]
        rw [← mkO_1 h0, show (8 * l + M 28 l) * 8 + i = 8 * (8 * l + M 28 l) + i by omega, cpy_1 h0]
        exact ih (i + 1) (by omega) (by omega) (by omega)
  refine r_aldn iX6_note_0 rfl ?_
  refine r_getr iX6_note_1 flX6_9 rfl rfl ?_
  refine r_ldn iX6_note_4 rfl ?_
  refine r_ial iX6_note_5 rfl (by omega) ?_
  refine r_bip iX6_note_6 (by decide) ?_
  refine r_cge iX6_note_8 (by omega) (fun h8 => ?_) (fun h8 => ?_)
  · omega
  · refine r_ldn iX6_note_11 rfl ?_
    refine r_bip iX6_note_12 (by decide) ?_
    refine r_cle iX6_note_14 (by omega) (fun h14 => ?_) (fun h14 => ?_)
    · refine r_ldn iX6_note_18 rfl ?_
      refine r_aldn iX6_note_19 rfl ?_
      refine r_getr iX6_note_20 flX6_9 rfl rfl ?_
      refine r_ldn iX6_note_23 rfl ?_
      refine r_ial iX6_note_24 rfl (by omega) ?_
      refine call_N2i iX6_note_25 clX6_54 myX7_slot rfl (sX7_slot _ _ _) ?_
      refine r_stn iX6_note_28 (by decide) rfl ?_
      refine R_mem (m4_id M) ?_
      refine r_aldn iX6_note_29 rfl ?_
      refine r_getr iX6_note_30 flX6_9 rfl rfl ?_
      try simp only [m4_28, m4_29, m4_30, m4_31, m4_o, m4_s28, m4_s29, m4_s30, m4_s31, fset_s, fset_fset, Nat.reduceEqDiff, not_false_eq_true, and_self]
      refine r_ldn iX6_note_33 rfl ?_
      refine r_dup2 iX6_note_34 rfl rfl ?_
      refine r_ial iX6_note_35 rfl (by omega) ?_
      refine r_con iX6_note_36 ?_
      refine r_add iX6_note_37 ?_
      try simp only [m4_28, m4_29, m4_30, m4_31, m4_o, m4_s28, m4_s29, m4_s30, m4_s31, fset_s, fset_fset, Nat.reduceEqDiff, not_false_eq_true, and_self]
      refine r_ias iX6_note_38 rfl (by omega) ?_
      refine r_aldn iX6_note_39 rfl ?_
      refine r_getr iX6_note_40 flX6_15 rfl rfl ?_
      refine r_ldn iX6_note_43 rfl ?_
      refine r_ldn iX6_note_44 rfl ?_
      refine r_ias iX6_note_45 rfl (by omega) ?_
      refine r_aldn iX6_note_46 rfl ?_
      refine r_getr iX6_note_47 flX6_18 rfl rfl ?_
      refine r_ldn iX6_note_50 rfl ?_
      refine r_con iX6_note_51 ?_
      refine r_ias iX6_note_52 rfl (by omega) ?_
      refine r_con iX6_note_53 ?_
      refine r_st iX6_note_54 (by decide) rfl ?_
      try simp only [m4_28, m4_29, m4_30, m4_31, m4_o, m4_s28, m4_s29, m4_s30, m4_s31, fset_s, fset_fset, Nat.reduceEqDiff, not_false_eq_true, and_self]
      have L0 := L 9 0 (by omega) (by omega) (by omega)
      rw [cpy_0] at L0
      exact L0
    · omega
end LL
