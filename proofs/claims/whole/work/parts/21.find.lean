/-! all ways of a load; how far at most -/
def acc (sc a b : Int → Int) (s t : Int) (n : Nat) : List (List Int) := (List.range n).flatMap (fun k => pth (sc 1).toNat a b t k s [s])
def wsL (sc a b : Int → Int) (s t : Int) : List (List Int) := (acc sc a b s t (sc 0).toNat).take 8
theorem acc_1 {sc a b : Int → Int} {s t : Int} {n : Nat} : acc sc a b s t (n + 1) = acc sc a b s t n ++ pth (sc 1).toNat a b t n s [s] := by
  simp [acc, List.range_succ, List.flatMap_append]
theorem acc_le {sc a b : Int → Int} {s t : Int} {n : Nat} : ∀ {m : Nat}, n ≤ m → ∃ B, acc sc a b s t m = acc sc a b s t n ++ B
  | 0, h => ⟨[], by rw [show n = 0 by omega, List.append_nil]⟩
  | m + 1, h => by
    by_cases e : n = m + 1
    · exact ⟨[], by rw [e, List.append_nil]⟩
    · obtain ⟨B, hB⟩ := acc_le (sc := sc) (a := a) (b := b) (s := s) (t := t) (n := n) (m := m) (by omega)
      exact ⟨B ++ pth (sc 1).toNat a b t m s [s], by rw [acc_1, hB, List.append_assoc]⟩
theorem acc_nil {sc a b : Int → Int} {s t : Int} : ∀ {n : Nat}, (∀ k : Nat, k < n → pth (sc 1).toNat a b t k s [s] = []) → acc sc a b s t n = []
  | 0, _ => rfl
  | n + 1, h => by rw [acc_1, acc_nil (fun k hk => h k (by omega)), h n (by omega)]; rfl
theorem rlx_le (f : Int → Int) (u v w x : Int) : rlx f u v w x ≤ f x := by
  unfold rlx
  split
  · by_cases e : x = v
    · rw [e, fset_s]; omega
    · rw [fset_n e]; omega
  · omega
theorem rlx_at (f : Int → Int) (u v w : Int) : rlx f u v w v ≤ f u + w := by
  unfold rlx
  split
  · rw [fset_s]; omega
  · omega
theorem rdF_le (a b ln f : Int → Int) (x : Int) : ∀ n : Nat, rdF a b ln f n x ≤ f x
  | 0 => Int.le_refl _
  | n + 1 => by
    have h1 := rdF_le a b ln f x n
    have h2 := rlx_le (rdF a b ln f n) (a n) (b n) (ln n) x
    have h3 := rlx_le (rlx (rdF a b ln f n) (a n) (b n) (ln n)) (b n) (a n) (ln n) x
    simp only [rdF]
    omega
theorem rdF_at {a b ln f : Int → Int} {r : Nat} : ∀ {n : Nat}, r < n → rdF a b ln f n (b r) ≤ f (a r) + ln r ∧ rdF a b ln f n (a r) ≤ f (b r) + ln r
  | 0, h => by omega
  | n + 1, h => by
    simp only [rdF]
    have h2 := fun x => rlx_le (rdF a b ln f n) (a n) (b n) (ln n) x
    have h3 := fun x => rlx_le (rlx (rdF a b ln f n) (a n) (b n) (ln n)) (b n) (a n) (ln n) x
    by_cases e : r = n
    · subst e
      have h4 := rlx_at (rdF a b ln f r) (a r) (b r) (ln r)
      have h5 := rlx_at (rlx (rdF a b ln f r) (a r) (b r) (ln r)) (b r) (a r) (ln r)
      have h6 := rdF_le a b ln f (a r) r
      have h7 := rdF_le a b ln f (b r) r
      have := h2 (b r)
      have := h3 (b r)
      omega
    · have ih := rdF_at (a := a) (b := b) (ln := ln) (f := f) (r := r) (n := n) (by omega)
      have := h2 (b r)
      have := h3 (b r)
      have := h2 (a r)
      have := h3 (a r)
      omega
theorem itF_path {rc : Int} {a b ln f0 : Int → Int} {t : Int} (h0 : f0 t = 0) (hl : ∀ r : Nat, r < rc.toNat → ln r = 1) : ∀ (K k : Nat), k ≤ K → ∀ (v : Int) (s : List Int), pth rc.toNat a b t k v s ≠ [] → itF a b ln rc f0 K v ≤ k
  | 0, k, hk, v, s, h => by
    rw [show k = 0 by omega] at h ⊢
    unfold pth at h
    by_cases e : v = t
    · rw [e]; show f0 t ≤ _; omega
    · rw [if_neg e] at h; exact absurd rfl h
  | K + 1, k, hk, v, s, h => by
    have hmono : itF a b ln rc f0 (K + 1) v ≤ itF a b ln rc f0 K v := rdF_le _ _ _ _ _ _
    by_cases e : k ≤ K
    · have := itF_path h0 hl K k e v s h
      omega
    · obtain ⟨j, rfl⟩ : ∃ j, k = j + 1 := ⟨k - 1, by omega⟩
      by_cases et : v = t
      · rw [et, pth_t] at h; exact absurd rfl h
      · rw [pth_1 et] at h
        have : ∃ r : Nat, r < rc.toNat ∧ stp rc.toNat a b t j v s r ≠ [] := by
          refine Classical.byContradiction (fun z => h ?_)
          unfold fl
          rw [List.flatMap_eq_nil_iff]
          intro r hr
          exact Classical.byContradiction (fun y => z ⟨r, List.mem_range.mp hr, y⟩)
        obtain ⟨r, hr, hst⟩ := this
        unfold stp at hst
        by_cases hc : nxt a b r v < 0 ∨ nxt a b r v ∈ s
        · rw [if_pos hc] at hst; exact absurd rfl hst
        · rw [if_neg hc] at hst
          have hp : pth rc.toNat a b t j (nxt a b r v) (nxt a b r v :: s) ≠ [] := fun z => hst (by rw [z]; rfl)
          have ih := itF_path h0 hl K j (by omega) _ _ hp
          have hat := rdF_at (a := a) (b := b) (ln := ln) (f := itF a b ln rc f0 K) (r := r) hr
          have h1 := hl r hr
          have hnx : (v = a r ∧ nxt a b r v = b r) ∨ (v = b r ∧ nxt a b r v = a r) := by
            unfold nxt at hc ⊢
            by_cases e1 : a r = v
            · rw [if_pos e1]; exact Or.inl ⟨e1.symm, rfl⟩
            · rw [if_neg e1] at hc ⊢
              by_cases e2 : b r = v
              · rw [if_pos e2]; exact Or.inr ⟨e2.symm, rfl⟩
              · rw [if_neg e2] at hc
                exact absurd (Or.inl (by decide)) hc
          show rdF a b ln (itF a b ln rc f0 K) rc.toNat v ≤ _
          rcases hnx with ⟨e1, e2⟩ | ⟨e1, e2⟩
          · rw [e2] at ih; rw [e1]; omega
          · rw [e2] at ih; rw [e1]; omega
/-- what stays when ways are found: all but the ways' own rows -/
def Fw (M M' : Mem) : Prop := ∀ k, k ≠ 28 → k ≠ 29 → k ≠ 30 → k ≠ 31 → k ≠ 32 → k ≠ 34 → k ≠ 36 → M' k = M k
/-- load l's ways stand as they must -/
def WL (M : Mem) (l : Int) : Prop := Wst M l (wsL (M 1) (M 2) (M 3) (M 8 l) (M 9 l))
theorem Wst.fr {l l2 e : Int} {M M' : Mem} {L : List (List Int)} (h : Wst M l2 L) (hF : Fr l e M M') (hL : L.length ≤ 8) (hl : l2 ≠ l) : Wst M' l2 L := by
  refine ⟨by rw [hF.2.1 l2 hl]; exact h.1, fun i w hw => ?_⟩
  obtain ⟨a0, a1, a2, a3⟩ := h.2 i w hw
  have hi := (List.getElem?_eq_some_iff.mp hw).1
  have hs := hF.2.2.1 (8 * l2 + i) (by omega)
  refine ⟨a0, by rw [hs.1]; exact a1, by rw [hs.2]; exact a2, fun k r hk => ?_⟩
  have hk2 := (List.getElem?_eq_some_iff.mp hk).1
  rw [hF.2.2.2.1 _ (by omega)]
  exact a3 k r hk
section LN
variable {g : Gt}
theorem sX6_findOf (d : Nat) (M : Mem) (l : Int) (h0l : 0 ≤ l ∧ l < M 1 2) (hO : ∀ r, 0 ≤ r → r < 20 → M 35 r = 1) (hN : NB M) : Ex LyC g (d + 11) mX6_findOf [vr 27, vr 1, vi l] M (fun r M' => r = none ∧ WL M' l ∧ Fr l 0 (mset (mset M 28 (fset (M 28) l 0)) 34 (itF (M 2) (M 3) (M 35) (M 1 1) (ds0 (M 9 l) (M 34)) (M 1 0 - 1).toNat)) M') := by
  refine Ex.in [some (vr 27), some (vr 1), some (vi l), none, none] (by decide +kernel) rfl (Nat.le_of_ble_eq_true rfl) ?_ rfl
  obtain ⟨hp0, hr, hl, hR, hL⟩ := id hN
  have hll := hL l h0l.1 h0l.2
  have hib : dsB (itF (M 2) (M 3) (M 35) (M 1 1) (ds0 (M 9 l) (M 34)) (M 1 0 - 1).toNat) := by
    have key : ∀ f : Int → Int, dsB f → ∀ n : Nat, n ≤ (M 1 1).toNat → dsB (rdF (M 2) (M 3) (M 35) f n) := by
      intro f hf n
      induction n with
      | zero => intro _; exact hf
      | succ n ih =>
        intro hn
        have h1 := hR n (by omega) (by omega)
        have h2 := hO n (by omega) (by omega)
        exact rlx_b (rlx_b (ih (by omega)) (by omega) (by omega) (by omega)) (by omega) (by omega) (by omega)
    generalize (M 1 0 - 1).toNat = K
    induction K with
    | zero => exact ds0_b
    | succ k ih => exact key _ ih _ (Nat.le_refl _)
  have hD : ∀ (v : Int) (k : Nat) (s : List Int), 0 ≤ v → v < M 1 0 → (k : Int) < M 1 0 → pth (M 1 1).toNat (M 2) (M 3) (M 9 l) k v s ≠ [] → (itF (M 2) (M 3) (M 35) (M 1 1) (ds0 (M 9 l) (M 34)) (M 1 0 - 1).toNat) v ≤ k := by
    intro v k s _ _ hk h
    exact itF_path (by unfold ds0; rw [fset_s]) (fun r hr => hO r (by omega) (by omega)) _ k (by omega) v s h
  have hsb := hib (M 8 l) (by omega) (by omega)
  have L : ∀ (n9 : Nat) (i : Int) (M1 : Mem), (0 ≤ i) → (i ≤ 1000000) → (Fr l 0 (mset (mset M 28 (fset (M 28) l 0)) 34 (itF (M 2) (M 3) (M 35) (M 1 1) (ds0 (M 9 l) (M 34)) (M 1 0 - 1).toNat)) M1) → (Wst M1 l ((acc (M 1) (M 2) (M 3) (M 8 l) (M 9 l) (min i.toNat (M 1 0).toNat)).take 8)) → (M 1 0 - i).toNat < n9 → R LyC g mX6_findOf (d + 11) 43 [some (vr 27), some (vr 1), some (vi l), some (vi (M 8 l)), some (vi i)] [] M1 (fun r M' => r = none ∧ WL M' l ∧ Fr l 0 (mset (mset M 28 (fset (M 28) l 0)) 34 (itF (M 2) (M 3) (M 35) (M 1 1) (ds0 (M 9 l) (M 34)) (M 1 0 - 1).toNat)) M') := by
    intro n9
    induction n9 with
    | zero =>
      intro i M1 h0 h1 hF hW1 hm9
      omega
    | succ n9 ih =>
      intro i M1 h0 h1 hF hW1 hm9
      have key : ∀ k : Nat, k < 28 → M1 k = M k := fun k hk => (hF.1 k (by omega) (by omega) (by omega) (by omega) (by omega)).trans ((mset_n (by omega)).trans (mset_n (by omega)))
      have f34 : M1 34 = (itF (M 2) (M 3) (M 35) (M 1 1) (ds0 (M 9 l) (M 34)) (M 1 0 - 1).toNat) := hF.1 34 (by decide) (by decide) (by decide) (by decide) (by decide)
      have f1 := key 1 (by decide)
      have f2 := key 2 (by decide)
      have f3 := key 3 (by decide)
      have f8 := key 8 (by decide)
      have f9 := key 9 (by decide)
      have hN1 : NB M1 := by
        unfold NB
        rw [key 1 (by decide), key 2 (by decide), key 3 (by decide), key 4 (by decide), key 5 (by decide), key 6 (by decide), key 7 (by decide), key 8 (by decide), key 9 (by decide), key 10 (by decide)]
        exact hN
      refine r_ld iX6_findOf_43 rfl ?_
      refine r_aldn iX6_findOf_45 rfl ?_
      refine r_geti 0 iX6_findOf_46 flX6_80 rfl rfl rfl rfl ?_
      simp only [f1]
      refine r_cge iX6_findOf_49 (by omega) (fun h49 => ?_) (fun h49 => ?_)
      · refine r_vret iX6_findOf_82 rfl ?_
        refine ⟨rfl, ?_, hF⟩
        unfold WL wsL
        rw [f1, f2, f3, f8, f9]
        rw [show min i.toNat (M 1 0).toNat = (M 1 0).toNat by omega] at hW1
        exact hW1
      · have hc1 := hW1.1
        have hc9 : ((acc (M 1) (M 2) (M 3) (M 8 l) (M 9 l) (min i.toNat (M 1 0).toNat)).take 8).length ≤ 8 := by rw [List.length_take]; omega
        refine r_aldn iX6_findOf_52 rfl ?_
        refine r_getr iX6_findOf_53 flX6_9 rfl rfl ?_
        refine r_ldn iX6_findOf_56 rfl ?_
        refine r_ial iX6_findOf_57 rfl (by omega) ?_
        refine r_bip iX6_findOf_58 (by decide) ?_
        refine r_cge iX6_findOf_60 (by omega) (fun h60 => ?_) (fun h60 => ?_)
        · refine r_vret iX6_findOf_82 rfl ?_
          refine ⟨rfl, ?_, hF⟩
          unfold WL wsL
          rw [f1, f2, f3, f8, f9]
          obtain ⟨B, hB⟩ := acc_le (sc := M 1) (a := M 2) (b := M 3) (s := M 8 l) (t := M 9 l) (n := min i.toNat (M 1 0).toNat) (m := (M 1 0).toNat) (by omega)
          have hlen : ((acc (M 1) (M 2) (M 3) (M 8 l) (M 9 l) (min i.toNat (M 1 0).toNat)).take 8).length = 8 := by omega
          rw [hB, take_full hlen]
          exact hW1
        · have hlen : ((acc (M 1) (M 2) (M 3) (M 8 l) (M 9 l) (min i.toNat (M 1 0).toNat)).take 8).length < 8 := by omega
          have hcur := take_all hlen
          have hW2 := hW1
          rw [hcur] at hW2
          rw [show min i.toNat (M 1 0).toNat = i.toNat by omega] at hW2 hcur hlen
          have hp8 := pw_le0 (n := M 8 l) (by omega) (by omega)
          have hp9 := pw_lt (n := M 8 l) (m := 9) hll.2.1.1 (by omega)
          have hE := sX6_extend (g := g) i.toNat (d + (8 - i.toNat)) M1 l (M 8 l) (2 ^ (M 8 l).toNat) 0 i [M 8 l] [] (acc (M 1) (M 2) (M 3) (M 8 l) (M 9 l) i.toNat) hN1 (by rw [f1]; exact h0l) (by rw [f1]; exact hll.2.1) rfl (by omega) (by omega) (by rw [f1]; omega) (by constructor; omega; exact hp9) (fun v h2 h3 => by rw [List.mem_singleton]; by_cases e : v = M 8 l; rw [e, bt_self]; simp; rw [bt_oth (by omega) (by omega) (fun z => e z.symm)]; simp [e]) (fun k r h => by simp at h) (by rw [f1, f2, f3, f9, f34]; exact hD) (by rw [f34]; exact hib) hW2 (by rw [← hcur]; exact hlen)
          rw [show d + (8 - i.toNat) + 2 + i.toNat = d + 10 by omega] at hE
          refine r_aldn iX6_findOf_63 rfl ?_
          refine r_aldn iX6_findOf_64 rfl ?_
          refine r_ldn iX6_findOf_65 rfl ?_
          refine r_ldn iX6_findOf_66 rfl ?_
          refine r_con iX6_findOf_67 ?_
          refine r_ldn iX6_findOf_68 rfl ?_
          refine r_shl iX6_findOf_69 (by omega) ?_
          refine r_con iX6_findOf_70 ?_
          refine r_ld iX6_findOf_71 rfl ?_
          refine call_S7p iX6_findOf_73 clX6_83 myX6_extend rfl (hE) (fun r73 M73 h73 => ?_)
          refine r_inc iX6_findOf_76 rfl (by decide) rfl ?_
          refine r_goto iX6_findOf_79 ?_
          obtain ⟨rfl, q1, q2⟩ := h73
          refine ih (i + 1) M73 (by omega) (by omega) (hF.tr q2 (Int.le_refl _)) ?_ (by omega)
          rw [f1, f2, f3, f9] at q1
          rw [show min (i + 1).toNat (M 1 0).toNat = i.toNat + 1 by omega, acc_1]
          simpa using q1
  refine r_aldn iX6_findOf_0 rfl ?_
  refine r_getr iX6_findOf_1 flX6_9 rfl rfl ?_
  refine r_ldn iX6_findOf_4 rfl ?_
  refine r_con iX6_findOf_5 ?_
  refine r_ias iX6_findOf_6 rfl (by omega) ?_
  refine r_aldn iX6_findOf_7 rfl ?_
  refine r_getr iX6_findOf_8 flX6_31 rfl rfl ?_
  refine r_aldn iX6_findOf_11 rfl ?_
  refine r_aldn iX6_findOf_12 rfl ?_
  refine r_getr iX6_findOf_13 flX6_69 rfl rfl ?_
  refine r_ldn iX6_findOf_16 rfl ?_
  refine r_ial iX6_findOf_17 rfl (by omega) ?_
  refine r_aldn iX6_findOf_18 rfl ?_
  refine r_getr iX6_findOf_19 flX6_35 rfl rfl ?_
  refine call_V3v iX6_findOf_22 clX6_72 myX2_spread rfl rfl rfl rfl (sX2_spreadL (M := mset M 28 (fset (M 28) l 0)) _ _ (by show 0 ≤ M 9 l ∧ M 9 l < 9; omega) (fun r h0 h1 => by show 0 ≤ M 35 r ∧ M 35 r ≤ 20; have h2 : r < M 1 1 := h1; have := hO r h0 (by omega); omega) hN) ?_
  refine r_aldn iX6_findOf_25 rfl ?_
  refine r_getr iX6_findOf_26 flX6_76 rfl rfl ?_
  refine r_ldn iX6_findOf_29 rfl ?_
  refine r_ial iX6_findOf_30 rfl (by omega) ?_
  refine r_stn iX6_findOf_31 (by decide) rfl ?_
  refine r_aldn iX6_findOf_32 rfl ?_
  refine r_getr iX6_findOf_33 flX6_31 rfl rfl ?_
  refine r_getr iX6_findOf_36 flX6_79 rfl rfl ?_
  refine r_ldn iX6_findOf_39 rfl ?_
  refine r_ial iX6_findOf_40 rfl (by show 0 ≤ M 8 l ∧ M 8 l < _; omega) ?_
  simp only [mset_s]
  refine r_st iX6_findOf_41 (by decide) rfl ?_
  have hz : ∀ k : Nat, (k : Int) < (itF (M 2) (M 3) (M 35) (M 1 1) (ds0 (M 9 l) (M 34)) (M 1 0 - 1).toNat) (M 8 l) → (k : Int) < M 1 0 → pth (M 1 1).toNat (M 2) (M 3) (M 9 l) k (M 8 l) [M 8 l] = [] := fun k h1 h2 => Classical.byContradiction (fun z => by have := hD (M 8 l) k _ (by omega) (by omega) h2 z; omega)
  show R LyC g mX6_findOf (d + 11) 43 [some (vr 27), some (vr 1), some (vi l), some (vi (M 8 l)), some (vi ((itF (M 2) (M 3) (M 35) (M 1 1) (ds0 (M 9 l) (M 34)) (M 1 0 - 1).toNat) (M 8 l)))] [] (mset (mset M 28 (fset (M 28) l 0)) 34 (itF (M 2) (M 3) (M 35) (M 1 1) (ds0 (M 9 l) (M 34)) (M 1 0 - 1).toNat)) (fun r M' => r = none ∧ WL M' l ∧ Fr l 0 (mset (mset M 28 (fset (M 28) l 0)) 34 (itF (M 2) (M 3) (M 35) (M 1 1) (ds0 (M 9 l) (M 34)) (M 1 0 - 1).toNat)) M')
  refine L 10 _ _ hsb.1 hsb.2 (Fr.rf _ _ _) ?_ (by omega)
  rw [acc_nil (fun k hk => hz k (by omega) (by omega))]
  refine ⟨?_, fun i w h => by simp at h⟩
  show fset (M 28) l 0 l = _
  rw [fset_s]
  rfl
theorem sX6_find (d : Nat) (M : Mem) (hO : ∀ r, 0 ≤ r → r < 20 → M 35 r = 1) (hb : ∀ l, 0 ≤ l → l < 5 → M 32 l = 0 ∨ M 32 l = 1) (hd : ∀ l, 0 ≤ l → l < M 1 2 → M 32 l = 1 → WL M l) (hN : NB M) : Ex LyC g (d + 12) mX6_find [vr 27, vr 1] M (fun r M' => r = none ∧ (∀ l, 0 ≤ l → l < M 1 2 → WL M' l ∧ M' 32 l = 1) ∧ (∀ l, 5 ≤ l ∨ M 1 2 ≤ l → M' 32 l = M 32 l) ∧ Fw M M') := by
  refine Ex.in [some (vr 27), some (vr 1), none] (by decide +kernel) rfl (Nat.le_of_ble_eq_true rfl) ?_ rfl
  obtain ⟨hp0, hr, hl, hR, hL⟩ := id hN
  have L : ∀ (n9 : Nat) (i : Int) (M1 : Mem), (0 ≤ i) → (i ≤ M 1 2) → (∀ l, 0 ≤ l → l < i → WL M1 l ∧ M1 32 l = 1) → (∀ l, 0 ≤ l → l < M 1 2 → M1 32 l = 1 → WL M1 l) → (∀ l, i ≤ l → M1 32 l = M 32 l) → (Fw M M1) → M 1 2 - i < n9 → R LyC g mX6_find (d + 12) 2 [some (vr 27), some (vr 1), some (vi i)] [] M1 (fun r M' => r = none ∧ (∀ l, 0 ≤ l → l < M 1 2 → WL M' l ∧ M' 32 l = 1) ∧ (∀ l, 5 ≤ l ∨ M 1 2 ≤ l → M' 32 l = M 32 l) ∧ Fw M M') := by
    intro n9
    induction n9 with
    | zero =>
      intro i M1 h0 h1 hw hd1 hf1 hF hm9
      omega
    | succ n9 ih =>
      intro i M1 h0 h1 hw hd1 hf1 hF hm9
      have key : ∀ k : Nat, k < 28 → M1 k = M k := fun k hk => hF k (by omega) (by omega) (by omega) (by omega) (by omega) (by omega) (by omega)
      have f35 : M1 35 = M 35 := hF 35 (by decide) (by decide) (by decide) (by decide) (by decide) (by decide) (by decide)
      have f1 := key 1 (by decide)
      have hN1 : NB M1 := by
        unfold NB
        rw [key 1 (by decide), key 2 (by decide), key 3 (by decide), key 4 (by decide), key 5 (by decide), key 6 (by decide), key 7 (by decide), key 8 (by decide), key 9 (by decide), key 10 (by decide)]
        exact hN
      refine r_ldn iX6_find_2 rfl ?_
      refine r_aldn iX6_find_3 rfl ?_
      refine r_geti 2 iX6_find_4 flX6_61 rfl rfl rfl rfl ?_
      simp only [f1]
      refine r_cge iX6_find_7 (by omega) (fun h7 => ?_) (fun h7 => ?_)
      · refine r_vret iX6_find_38 rfl ?_
        refine ⟨rfl, fun l h2 h3 => hw l h2 (by omega), fun l h2 => ?_, hF⟩
        exact hf1 l (by omega)
      · have hfi := hf1 i (Int.le_refl _)
        have hbi := hb i h0 (by omega)
        refine r_aldn iX6_find_10 rfl ?_
        refine r_getr iX6_find_11 flX6_24 rfl rfl ?_
        refine r_ldn iX6_find_14 rfl ?_
        refine r_zal iX6_find_15 rfl (by omega) ?_
        refine r_ifne iX6_find_16 (by omega) (fun h16 => ?_) (fun h16 => ?_)
        · refine r_inc iX6_find_32 rfl (by decide) rfl ?_
          refine r_goto iX6_find_35 ?_
          exact ih (i + 1) M1 (by omega) (by omega) (fun l h2 h3 => by by_cases e : l = i; rw [e]; exact ⟨hd1 i h0 (by omega) (by omega), by omega⟩; exact hw l h2 (by omega)) hd1 (fun l h2 => hf1 l (by omega)) hF (by omega)
        · refine r_aldn iX6_find_19 rfl ?_
          refine r_aldn iX6_find_20 rfl ?_
          refine r_ldn iX6_find_21 rfl ?_
          refine call_V2p iX6_find_22 clX6_65 myX6_findOf rfl rfl rfl rfl (sX6_findOf d M1 i (by rw [f1]; omega) (by rw [f35]; exact hO) hN1) (fun r22 M22 h22 => ?_)
          refine r_aldn iX6_find_25 rfl ?_
          refine r_getr iX6_find_26 flX6_24 rfl rfl ?_
          refine r_ldn iX6_find_29 rfl ?_
          refine r_con iX6_find_30 ?_
          refine r_zas iX6_find_31 rfl (by omega) (by omega) ?_
          refine r_inc iX6_find_32 rfl (by decide) rfl ?_
          refine r_goto iX6_find_35 ?_
          obtain ⟨rfl, q1, q2⟩ := h22
          have g32 : M22 32 = M1 32 := q2.1 32 (by decide) (by decide) (by decide) (by decide) (by decide)
          have gk : ∀ k : Nat, k < 28 → M22 k = M1 k := fun k hk => (q2.1 k (by omega) (by omega) (by omega) (by omega) (by omega)).trans ((mset_n (by omega)).trans (mset_n (by omega)))
          have hws : ∀ L2 : List (List Int), ∀ l, l ≠ i → L2.length ≤ 8 → Wst M1 l L2 → Wst M22 l L2 := fun L2 l hne hL2 hw2 => Wst.fr (M := mset (mset M1 28 (fset (M1 28) i 0)) 34 (itF (M1 2) (M1 3) (M1 35) (M1 1 1) (ds0 (M1 9 i) (M1 34)) (M1 1 0 - 1).toNat)) ⟨by show fset (M1 28) i 0 l = _; rw [fset_n hne]; exact hw2.1, hw2.2⟩ q2 hL2 hne
          have hwl : ∀ l, l ≠ i → WL M1 l → WL (mset M22 32 (fset (M22 32) i 1)) l := by
            intro l hne hw2
            unfold WL at hw2 ⊢
            have := hws _ l hne (by unfold wsL; rw [List.length_take]; omega) hw2
            rw [mset_n (by decide), mset_n (by decide), mset_n (by decide), mset_n (by decide), mset_n (by decide), gk 1 (by decide), gk 2 (by decide), gk 3 (by decide), gk 8 (by decide), gk 9 (by decide)]
            exact this
          have hwi : WL (mset M22 32 (fset (M22 32) i 1)) i := q1
          refine ih (i + 1) _ (by omega) (by omega) (fun l h2 h3 => ?_) (fun l h2 h3 h4 => ?_) (fun l h2 => ?_) ?_ (by omega)
          · rw [mset_s]
            by_cases e : l = i
            · rw [e, fset_s]; exact ⟨hwi, rfl⟩
            · rw [fset_n e, g32]; exact ⟨hwl l e (hw l h2 (by omega)).1, (hw l h2 (by omega)).2⟩
          · by_cases e : l = i
            · rw [e]; exact hwi
            · rw [mset_s, fset_n e, g32] at h4; exact hwl l e (hd1 l h2 h3 h4)
          · rw [mset_s, fset_n (by omega), g32]; exact hf1 l (by omega)
          · intro k a1 a2 a3 a4 a5 a6 a7
            rw [mset_n a5, q2.1 k a1 a2 a3 a4 a7, mset_n a6, mset_n a1]
            exact hF k a1 a2 a3 a4 a5 a6 a7
  refine r_con iX6_find_0 ?_
  refine r_stn iX6_find_1 (by decide) rfl ?_
  exact L 6 0 M (by omega) (by omega) (fun l h2 h3 => by omega) hd (fun _ _ => rfl) (fun _ _ _ _ _ _ _ _ => rfl) (by omega)
end LN
