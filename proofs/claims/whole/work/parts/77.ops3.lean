section OS
variable {M N : Mem} {l i : Int}
theorem op_fill (I : Inv M N) (l : Int) (hl : -2147483648 ≤ l ∧ l ≤ 2147483647) : Op mX7_fill mX8_fill [vr 0, vi l] M N := by
  have n2 := I.n2
  by_cases c : 0 ≤ l ∧ l < M 1 2
  · have c' : 0 ≤ l ∧ l < N 0 6 := by omega
    have kk := (I.nb.2.2.2.2 l c.1 c.2).1
    have sz := (I.nb.2.2.2.2 l c.1 c.2).2.2.2.2
    have k7 : N 5 l = M 7 l := by rw [I.r7]
    have k10 : N 8 l = M 10 l := by rw [I.r10]
    have tt := I.ttm c.1 c.2
    have pt := I.ptm c.1 c.2
    have hh := (I.hz l c.1 c.2).1
    have hd := I.hd l c.1 c.2
    have tb := tt_bd (am := M 22) (l := l) (fun i a b => I.a40 _ (by omega) (by have := I.nb.2.2.1; omega))
    by_cases z : 0 < N 8 l - seM (N 11) (N 10) l
    · have z' : 0 < M 10 l - ttC (M 22) l := by omega
      by_cases k0 : M 7 l = 0
      · refine Op.ex I (fun g => sX7_fill_0 0 l c k0 I.az I.fo I.nb) (fun g => sX8_fill_0 12 l c' I.wbm I.avm I.nbm z (by omega)) (fun M1 F Fd => ?_)
        have c1 : l < M1 1 2 := by rw [Fd.k (k := 1) (by omega)]; exact c.2
        have e10 : M1 10 = M 10 := Fd.k (by omega)
        have e22 : M1 22 = M 22 := Fd.k (by omega)
        have cb := F.cb c.1 c1
        have fe := F.flsE F.ea c.1 c1 (w := N 8 l - seM (N 11) (N 10) l) (by omega) (by rw [e22]; omega) (M1 28 l).toNat (by omega)
        rw [e10, e22, if_pos z', show M 10 l - ttC (M 22) l = N 8 l - seM (N 11) (N 10) l by omega, ← e22, ← F.cn c.1 c1]
        exact ⟨fe.1, F.put fe.2.1⟩
      · by_cases k1 : M 7 l = 1
        · by_cases p : ptC (M 22) l = 0
          · have tz : ttC (M 22) l = 0 := by
              have q : ∀ i, 0 ≤ i → i < 8 → M 22 (8 * l + i) = 0 := fun i a b => by
                by_cases x : M 22 (8 * l + i) = 0
                · exact x
                · have := sg_part (f := fun i => if M 22 (8 * l + i) = 0 then (0 : Int) else 1) (n := 8) (fun i _ _ => by split <;> omega) a b
                  rw [if_neg x] at this
                  unfold ptC at p
                  omega
              unfold ttC
              rw [sg_cut (n := 0) (m := 8) (by omega) (by omega) (fun i a b => q i a b)]
              rfl
            refine Op.ex I (fun g => sX7_fill_1y 0 l c p k1 I.az I.fo I.nb) (fun g => sX8_fill_1y 12 l c' I.wbm I.avm I.nbm z (by omega) (by rw [← pt]; exact p)) (fun M1 F Fd => ?_)
            have c1 : l < M1 1 2 := by rw [Fd.k (k := 1) (by omega)]; exact c.2
            have e10 : M1 10 = M 10 := Fd.k (by omega)
            have e22 : M1 22 = M 22 := Fd.k (by omega)
            have cb := F.cb c.1 c1
            have ew : N 8 l - seM (N 11) (N 10) l = M 10 l := by omega
            have ef : fpt (fun i => if M1 10 l ≤ frC (M1 22) (M1 30) (M1 4) (M1 29) (M1 31) (8 * l + i) then (1 : Int) else 0) (M1 28 l).toNat = fpt (fun i => if (N 8 l - seM (N 11) (N 10) l) ≤ frM (N 11) (N 12) (N 13) (N 10) (N 2) (N 0 6) (N 0 1) (8 * l + i) then (1 : Int) else 0) (N 11 l).toNat := by
              rw [← F.cn c.1 c1]
              refine fpt_congr (fun i a b => ?_)
              rw [F.fr F.ea c.1 c1 a (by omega), e10, ew]
            rw [ef]
            have fb := fpt_lt (fun i => if (N 8 l - seM (N 11) (N 10) l) ≤ frM (N 11) (N 12) (N 13) (N 10) (N 2) (N 0 6) (N 0 1) (8 * l + i) then (1 : Int) else 0) (N 11 l).toNat
            generalize fpt (fun i => if (N 8 l - seM (N 11) (N 10) l) ≤ frM (N 11) (N 12) (N 13) (N 10) (N 2) (N 0 6) (N 0 1) (8 * l + i) then (1 : Int) else 0) (N 11 l).toNat = x at fb ⊢
            by_cases q : 0 ≤ x
            · have cn := F.cn c.1 c1
              rw [if_pos q, if_pos q, if_pos q, if_pos q, e10, ew]
              refine ⟨rfl, ?_⟩
              have az : N 10 (8 * l + x) = 0 := by
                have := sg_part (f := fun i => M 22 (8 * l + i)) (n := 8) (fun i a b => (I.a40 (8 * l + i) (by omega) (by have := I.nb.2.2.1; omega)).1) q (by omega)
                unfold ttC at tz
                have a0 := (I.a40 (8 * l + x) (by omega) (by have := I.nb.2.2.1; omega)).1
                rw [← I.am (8 * l + x) (by omega) (by omega)]
                try dsimp only at this
                omega
              rw [az, Int.zero_add]
              exact F.put (F.ea.put c.1 c1 q (by omega) (by omega) (by omega))
            · rw [if_neg q, if_neg q, if_neg q, if_neg q]
              exact ⟨rfl, F.1⟩
          · exact Op.ex (zc := fun _ => 0) (mc := fun M1 => M1) I (fun g => sX7_fill_1n 0 l c p k1 I.az I.fo I.nb) (fun g => sX8_fill_1n 12 l c' I.wbm I.avm I.nbm z (by omega) (by rw [← pt]; exact p)) (fun M1 F Fd => ⟨rfl, F.1⟩)
        · have k2 : M 7 l = 2 := by omega
          by_cases q : M 23 l < N 11 l
          · refine Op.ex I (fun g => sX7_fill_2y 0 l c hh (fun M1 Fd => by
              have F := I.fu Fd
              have c1 : l < M1 1 2 := by rw [Fd.k (k := 1) (by omega)]; exact c.2
              rw [F.cn c.1 c1, Fd.k (k := 23) (by omega)]; exact q) k2 I.az I.fo I.nb) (fun g => sX8_fill_2y 12 l c' I.wbm I.avm I.nbm z (by omega) (by rw [← hd]; exact hh) (by rw [← hd]; exact q)) (fun M1 F Fd => ?_)
            have c1 : l < M1 1 2 := by rw [Fd.k (k := 1) (by omega)]; exact c.2
            have e10 : M1 10 = M 10 := Fd.k (by omega)
            have e22 : M1 22 = M 22 := Fd.k (by omega)
            have e23 : M1 23 = M 23 := Fd.k (by omega)
            have cn := F.cn c.1 c1
            have cb := F.cb c.1 c1
            have fr := F.fr F.ea c.1 c1 (i := M 23 l) (by omega) (by omega)
            have fb := fr_bd (am := M1 22) (mk := M1 30) (rm := M1 4) (st := M1 29) (rd := M1 31) (8 * l + M 23 l)
            have tp := tt_part (am := M 22) (l := l) (fun i a b => (I.a40 (8 * l + i) (by omega) (by have := I.nb.2.2.1; omega)).1) (i := M 23 l) (by omega) (by omega)
            have a0 := (I.a40 (8 * l + M 23 l) (by omega) (by have := I.nb.2.2.1; omega)).1
            have am := I.am (8 * l + M 23 l) (by omega) (by omega)
            rw [e10, e23, ← hd, ← fr]
            have ew : (if 0 < M 10 l - ttC (M1 22) l then M 10 l - ttC (M1 22) l else 0) = N 8 l - seM (N 11) (N 10) l := by rw [e22, if_pos z']; omega
            rw [ew]
            refine ⟨rfl, ?_⟩
            rw [← am]
            have := F.put (F.ea.put c.1 c1 (i := M 23 l) (v := M 22 (8 * l + M 23 l) + if frC (M1 22) (M1 30) (M1 4) (M1 29) (M1 31) (8 * l + M 23 l) < N 8 l - seM (N 11) (N 10) l then frC (M1 22) (M1 30) (M1 4) (M1 29) (M1 31) (8 * l + M 23 l) else N 8 l - seM (N 11) (N 10) l) (by omega) (by omega) (by omega) (by split <;> omega))
            rw [← e22] at this ⊢
            exact this
          · exact Op.ex (zc := fun _ => 0) (mc := fun M1 => M1) I (fun g => sX7_fill_2n 0 l c hh (fun M1 Fd => by
              have F := I.fu Fd
              have c1 : l < M1 1 2 := by rw [Fd.k (k := 1) (by omega)]; exact c.2
              rw [F.cn c.1 c1, Fd.k (k := 23) (by omega)]; omega) k2 I.az I.fo I.nb) (fun g => sX8_fill_2n 12 l c' I.wbm I.avm I.nbm z (by omega) (by rw [← hd]; exact hh) (by rw [← hd]; omega)) (fun M1 F Fd => ⟨rfl, F.1⟩)
    · have m := fun g => sX8_fill_z (g := g) 12 l c' I.wbm I.avm I.nbm (by omega)
      have z' : ¬ 0 < M 10 l - ttC (M 22) l := by omega
      by_cases k0 : M 7 l = 0
      · refine Op.ex I (fun g => sX7_fill_0 0 l c k0 I.az I.fo I.nb) m (fun M1 F Fd => ?_)
        have e10 : M1 10 = M 10 := Fd.k (by omega)
        have e22 : M1 22 = M 22 := Fd.k (by omega)
        rw [e10, e22, if_neg z', ← e22]
        have st := fls_stop (fr := fun am s => frC am (M1 30) (M1 4) (M1 29) (M1 31) s) (b := 8 * l) (w := 0) (am0 := M1 22) (fun f s => (fr_bd s).1) (q := 0) rfl (M1 28 l).toNat
        rw [Nat.zero_add] at st
        rw [st]
        refine ⟨rfl, ?_⟩
        show Inv (mset M1 22 (M1 22)) N
        rw [mset_eq rfl]
        exact F.1
      · by_cases k1 : M 7 l = 1
        · have p : ptC (M 22) l ≠ 0 := fun p => by
            have q : ∀ i, 0 ≤ i → i < 8 → M 22 (8 * l + i) = 0 := fun i a b => by
              by_cases x : M 22 (8 * l + i) = 0
              · exact x
              · have := sg_part (f := fun i => if M 22 (8 * l + i) = 0 then (0 : Int) else 1) (n := 8) (fun i _ _ => by split <;> omega) a b
                rw [if_neg x] at this
                unfold ptC at p
                omega
            have tz : ttC (M 22) l = 0 := by
              unfold ttC
              rw [sg_cut (n := 0) (m := 8) (by omega) (by omega) (fun i a b => q i a b)]
              rfl
            omega
          exact Op.ex (zc := fun _ => 0) (mc := fun M1 => M1) I (fun g => sX7_fill_1n 0 l c p k1 I.az I.fo I.nb) m (fun M1 F Fd => ⟨rfl, F.1⟩)
        · have k2 : M 7 l = 2 := by omega
          by_cases q : M 23 l < N 11 l
          · refine Op.ex I (fun g => sX7_fill_2y 0 l c hh (fun M1 Fd => by
              have F := I.fu Fd
              have c1 : l < M1 1 2 := by rw [Fd.k (k := 1) (by omega)]; exact c.2
              rw [F.cn c.1 c1, Fd.k (k := 23) (by omega)]; exact q) k2 I.az I.fo I.nb) m (fun M1 F Fd => ?_)
            have e10 : M1 10 = M 10 := Fd.k (by omega)
            have e22 : M1 22 = M 22 := Fd.k (by omega)
            have fb := fr_bd (am := M1 22) (mk := M1 30) (rm := M1 4) (st := M1 29) (rd := M1 31) (8 * l + M1 23 l)
            have ew : (if 0 < M1 10 l - ttC (M1 22) l then M1 10 l - ttC (M1 22) l else 0) = 0 := by rw [e22, e10, if_neg z']
            rw [ew, if_neg (by omega), Int.add_zero, fset_self, mset_eq rfl]
            exact ⟨rfl, F.1⟩
          · exact Op.ex (zc := fun _ => 0) (mc := fun M1 => M1) I (fun g => sX7_fill_2n 0 l c hh (fun M1 Fd => by
              have F := I.fu Fd
              have c1 : l < M1 1 2 := by rw [Fd.k (k := 1) (by omega)]; exact c.2
              rw [F.cn c.1 c1, Fd.k (k := 23) (by omega)]; omega) k2 I.az I.fo I.nb) m (fun M1 F Fd => ⟨rfl, F.1⟩)
  · exact Op.pi (fun g => sX7_fill_x 0 l hl c I.nb) (fun g => sX8_fill_x 12 l hl (by omega) I.nbm) rfl I
theorem Inv.amz (I : Inv M N) {am am' : Int → Int} (h : ∀ s, 0 ≤ s → s < 40 → am s = 0 ∨ am s = M 22 s) (e : ∀ s, 0 ≤ s → s < 8 * M 1 2 → am s = am' s) : Inv (mset M 22 am) (mset N 10 am') := by
  obtain ⟨i1, i2, i3, i4, i5, i6⟩ := I
  refine ⟨⟨i1.1, fun s a b => ?_, i1.2.2.1, i1.2.2.2⟩, ⟨i2.1, i2.2.1, e, i2.2.2.2⟩, i3, i4, i5, i6.tr (fun k hk => mset_n (by omega)) rfl (fun k hk => mset_n (by omega)) rfl⟩
  show (0 ≤ am s ∧ am s ≤ 100) ∧ (am s ≠ 0 → _)
  rcases h s a b with x | x
  · rw [x]; exact ⟨by omega, fun y => absurd rfl y⟩
  · rw [x]; exact i1.2.1 s a b
theorem op_empty (I : Inv M N) (l : Int) (hl : -2147483648 ≤ l ∧ l ≤ 2147483647) : Op mX7_empty mX8_empty [vr 0, vi l] M N := by
  have n2 := I.n2
  have n5 := I.nb.2.2.1
  by_cases e : l = -1
  · subst e
    refine Op.pi (fun g => sX7_empty_a 12) (fun g => sX8_empty_a 14 I.wbm I.nbm) I.tta (I.amz (fun s a b => Or.inl ?_) (fun s a b => ?_))
    · unfold fillN; rw [if_pos ⟨a, b⟩]
    · unfold fillN clr; rw [if_pos (by omega), if_pos (by omega)]
  · have m1 := fun g => sX7_empty_o (g := g) (M := M) 12 l hl e I.nb
    by_cases c : 0 ≤ l ∧ l < M 1 2
    · refine Op.pi m1 (fun g => sX8_empty_o 14 l (by omega) I.wbm I.nbm) ?_ ?_
      · rw [if_pos c]; exact I.ttm c.1 c.2
      · rw [if_pos c]
        refine I.amz (fun s a b => ?_) (fun s a b => ?_)
        · unfold clr; split; exact Or.inl rfl; exact Or.inr rfl
        · unfold clr; rw [I.am s a b]
    · refine Op.pi m1 (fun g => sX8_empty_x 14 l hl e (by omega) I.nbm) ?_ ?_
      · rw [if_neg c]
      · rw [if_neg c]; exact I
theorem op_buy (I : Inv M N) : Op mX7_buy mX8_buy [vr 0] M N := by
  have n1 := I.n1
  have hN := I.nb
  have ub : ∀ M1, Fu M1 N → ∀ r, 0 ≤ r → usC (M1 22) (M1 30) r = usM (N 11) (N 12) (N 13) (N 10) (N 0 6) r := fun M1 F r a => F.us F.ea a
  have ov0 : ∀ r, 0 ≤ r → r < N 0 1 → (100 < usM (N 11) (N 12) (N 13) (N 10) (N 0 6) r ↔ ¬ (ovM (N 11) (N 12) (N 13) (N 10) (N 2) (N 0 6) r = 0 ∨ usM (N 11) (N 12) (N 13) (N 10) (N 0 6) r ≤ 100)) := fun r a b => by
    have q := (I.nbm.2.2.2.1 r a b).2.1
    unfold ovM
    constructor
    · intro h; rw [if_pos (by omega)]; omega
    · intro h; omega
  by_cases c : ∃ r, (0 ≤ r ∧ r < M 1 1) ∧ 100 < usM (N 11) (N 12) (N 13) (N 10) (N 0 6) r
  · obtain ⟨rx, c1, c2⟩ := c
    exact Op.fd (zc := fun _ => -5) I (fun g => sX7_buy_x 0 rx c1 (fun M1 Fd => by rw [ub M1 (I.fu Fd) rx c1.1]; exact c2) I.az I.fo I.nb) (fun g => sX8_buy_x 12 (fun h => (ov0 rx c1.1 (by omega)).mp c2 (h rx c1.1 (by omega))) I.wbm I.avm I.nbm) (fun _ _ _ => rfl)
  · have c' : ∀ r, 0 ≤ r → r < M 1 1 → usM (N 11) (N 12) (N 13) (N 10) (N 0 6) r ≤ 100 := fun r a b => by
      by_cases x : usM (N 11) (N 12) (N 13) (N 10) (N 0 6) r ≤ 100
      · exact x
      · exact absurd ⟨r, ⟨a, b⟩, by omega⟩ c
    refine Op.ex I (fun g => sX7_buy_o 0 (fun M1 Fd r a b => by rw [ub M1 (I.fu Fd) r a]; exact c' r a b) I.az I.fo I.nb) (fun g => sX8_buy_o 12 (fun r a b => Or.inr (c' r a (by omega))) I.wbm I.avm I.nbm) (fun M1 F Fd => ?_)
    have e1 : M1 1 = M 1 := Fd.k (by omega)
    have eo : ∀ r, 0 ≤ r → ovC (M1 22) (M1 30) (M1 4) r = ovM (N 11) (N 12) (N 13) (N 10) (N 2) (N 0 6) r := fun r a => F.ov F.ea a
    have n1' := F.1.n1
    refine ⟨?_, ?_⟩
    · rw [n1']
      exact sg_congr (fun r a _ => eo r a)
    · have er : ini (M1 4) (fun r => M1 4 r + ovC (M1 22) (M1 30) (M1 4) r) (M1 1 1) = ini (N 2) (fun r => N 2 r + ovM (N 11) (N 12) (N 13) (N 10) (N 2) (N 0 6) r) (N 0 1) := by
        funext r
        unfold ini
        rw [n1', F.1.r4]
        split
        · rename_i q
          have x := eo r q.1
          rw [F.1.r4] at x
          show N 2 r + _ = N 2 r + _
          rw [x]
        · rfl
      obtain ⟨⟨i1, i2, i3, i4, i5, i6⟩, _⟩ := F
      obtain ⟨⟨n1, n2, n3, n4, n5⟩, c2, c3, c4, ⟨z1, z2, z3, z4, z5⟩, z6⟩ := i1
      refine ⟨⟨⟨n1, n2, n3, fun q a b => ⟨(n4 q a b).1, ?_, (n4 q a b).2.2⟩, n5⟩, c2, c3, c4, ⟨z1, z2, ?_, z4, z5⟩, z6⟩, ⟨i2.1, ⟨i2.2.1.1, i2.2.1.2.1, er, i2.2.1.2.2.2⟩, i2.2.2⟩, i3, i4, i5, i6.tr (fun k hk => mset_n (by omega)) rfl (fun k hk => mset_n (by omega)) rfl⟩
      · have q4 := (n4 q a b).2.1
        have qu := c' q a (by rw [← e1]; exact b)
        have q5 := eo q a
        show 0 ≤ ini (M1 4) (fun r => M1 4 r + ovC (M1 22) (M1 30) (M1 4) r) (M1 1 1) q ∧ ini (M1 4) (fun r => M1 4 r + ovC (M1 22) (M1 30) (M1 4) r) (M1 1 1) q ≤ 100
        unfold ini
        rw [if_pos ⟨a, b⟩]
        show 0 ≤ M1 4 q + ovC (M1 22) (M1 30) (M1 4) q ∧ M1 4 q + ovC (M1 22) (M1 30) (M1 4) q ≤ 100
        rw [q5]
        have r4 := congrFun i2.2.1.2.2.1 q
        unfold ovM
        split <;> omega
      · intro j hj
        show ini (M1 4) (fun r => M1 4 r + ovC (M1 22) (M1 30) (M1 4) r) (M1 1 1) j = 0
        unfold ini
        rw [if_neg (by omega)]
        exact z3 j hj
theorem Inv.sd {M' N' : Mem} (I : Inv M N) (h : SD M M') (hn : ∃ a b A R G K, N' = m25 (m0 N a b) A R G K) : Inv M' N' := by
  obtain ⟨M1, A, B, C, h1, h2, h3⟩ := h
  obtain ⟨a, b, A', R, G, K, rfl⟩ := hn
  have o : ∀ k, k < 48 → M' k = M1 k := fun k hk => by rw [h2, m3_o (by omega)]
  refine (I.fd h1).mod (fun k hk => o k (by omega)) ?_ h3 (fun k k0 k1 => ?_) ⟨rfl, rfl, rfl, rfl⟩
  · have f := I.fdo h1
    have e1 : M1 1 = M 1 := h1.k (by omega)
    refine ⟨?_, fun l a b => ?_⟩
    · rw [h2]; exact f.1
    · rw [e1] at a
      rw [o 32 (by omega)]
      exact f.2 l a b
  · simp only [m25]
    rw [if_neg (by omega), if_neg (by omega), if_neg (by omega), if_neg (by omega)]
    unfold m0
    exact mset_n (by omega)
theorem op_share (I : Inv M N) (l w : Int) (hl : -2147483648 ≤ l ∧ l ≤ 2147483647) (hw : -2147483648 ≤ w ∧ w ≤ 2147483647) : Op mX7_share mX8_share [vr 0, vi l, vi w] M N := by
  have n2 := I.n2
  by_cases c : (0 ≤ l ∧ l < M 1 2) ∧ 0 ≤ w ∧ w ≤ 1
  · refine Op.of (P := SD M) (Q := fun N' => ∃ a b A R G K, N' = m25 (m0 N a b) A R G K) (fun g => sX7_share_o 0 l w c I.hz I.sh I.az I.fo I.nb) (fun g => sX8_share_o 11 l w (by omega) I.hmk I.hhm I.wbm I.avm I.nbm) ?_ (fun M' N' p q => I.sd p q)
    rw [I.xw (N 24) c.1.1 (by omega), abv, blw_59]
  · exact Op.pi (fun g => sX7_share_x 0 l w hl hw c I.nb) (fun g => sX8_share_x 11 l w hl hw (by omega) I.nbm) rfl I
theorem op_whole (I : Inv M N) : Op mX7_whole mX8_whole [vr 0] M N := by
  refine Op.of (P := SD M) (Q := fun N' => ∃ a b A R G K, N' = m25 (m0 N a b) A R G K) (fun g => sX7_whole 0 I.hz I.sh I.az I.fo I.nb) (fun g => sX8_whole 11 I.hmk I.hhm I.wbm I.avm I.nbm) ?_ (fun M' N' p q => I.sd p q)
  rw [I.n2]
  refine sg_congr (fun l a b => ?_)
  rw [I.xw (N 24) a b, I.r10, I.n2]
theorem op_ones (I : Inv M N) : Op mX7_ones mX8_ones [vr 0] M N := by
  have n2 := I.n2
  have hN := I.nb
  by_cases c : M 1 2 = 0
  · exact Op.pi (fun g => sX7_ones_0 0 c) (fun g => sX8_ones_0 13 (by omega) I.nbm) rfl I
  · have hc := hN.2.2.1
    refine ⟨fun z M' => ∃ M1, FD M M1 ∧ OX M1 M' z, fun z N' => ∃ A B C E, N' = mset (m20 N A B C) 10 E ∧ ((z = -4 ∧ BsN (N 0 6).toNat (fsM (N 5) (N 9)) (lsM (N 5) (N 9) (N 11)) (fun c => feF (N 12) (N 13) (N 8) (N 2) (N 0 6) (N 0 1) c) (32768) ∧ E = N 10) ∨ (0 ≤ z ∧ BsS (N 0 6).toNat (fsM (N 5) (N 9)) (lsM (N 5) (N 9) (N 11)) (fun c => coF (N 12) (N 13) (N 8) (N 3) c (N 0 6)) (fun c => feF (N 12) (N 13) (N 8) (N 2) (N 0 6) (N 0 1) c) (32768) z B ∧ E = onA (clr (N 10) 0 (8 * N 0 6)) B (N 8) (N 0 6).toNat)), fun g => (sX7_ones_o 0 c I.hhc I.fo I.nb).mono (fun r M' ⟨M1, z, a1, a2, a3⟩ => ⟨z, a2, M1, a1, a3⟩), fun g => (sX8_ones_o 13 (by omega) I.wbm I.nbm I.hhm).mono (fun r M' ⟨z, A, B, C, E, a1, a2, a3⟩ => ⟨z, a1, A, B, C, E, a2, a3⟩), fun z z' M' N' p q => ?_⟩
    obtain ⟨M1, Fd, f1, f2⟩ := p
    obtain ⟨A, B, C, E, rfl, q⟩ := q
    have F := I.fu Fd
    have hb : ∀ j : Int, 0 ≤ j → j < (((N 0 6).toNat : Nat) : Int) → 0 ≤ fsM (N 5) (N 9) j ∧ lsM (N 5) (N 9) (N 11) j ≤ 7 := fun j a b => by
      have h1 := I.hhm j a (by omega)
      have h2 := I.cb (l := j) a (by omega)
      unfold fsM lsM
      refine ⟨?_, ?_⟩ <;> split <;> omega
    have fin : ∀ am am', M' 22 = am → E = am' → Inv (mset M1 22 am) (mset N 10 am') → Inv M' (mset (m20 N A B C) 10 E) := fun am am' e1 e2 J => by
      have ek : ∀ k, k < 39 ∨ 46 < k → M' k = (mset M1 22 am) k := fun k hk => by
        by_cases x : k = 22
        · rw [x, mset_s]; exact e1
        · rw [mset_n x]; exact f1 k x hk
      refine J.mod (fun k hk => ek k (by omega)) ⟨?_, fun l a b => ?_⟩ ?_ (fun k k0 k1 => ?_) ⟨rfl, rfl, rfl, rfl⟩
      · have := J.fo
        unfold FO WL Wst at *
        rw [ek 35 (by omega), ek 32 (by omega), ek 1 (by omega), ek 2 (by omega), ek 3 (by omega), ek 8 (by omega), ek 9 (by omega), ek 28 (by omega), ek 29 (by omega), ek 30 (by omega), ek 31 (by omega)]
        exact this
      · rw [ek 32 (by omega)]; exact J.2.2.1.2 l a b
      · have := J.sh
        unfold SH at *
        rw [ek 48 (by omega), ek 49 (by omega), ek 50 (by omega)]
        exact this
      · by_cases x : k = 10
        · rw [x, mset_s, mset_s]; exact e2
        · rw [mset_n x, mset_n x, m20_n (by omega) (by omega) (by omega)]
    rcases f2 with ⟨x1, x2, x3⟩ | ⟨x1, b, x2, x3⟩
    · have y2 := F.bsn x2
      rcases q with ⟨q1, q2, q3⟩ | ⟨q1, q2, q3⟩
      · refine ⟨by omega, fin (M1 22) (N 10) x3 q3 ?_⟩
        rw [mset_eq rfl, mset_eq rfl]
        exact F.1
      · exact absurd (y2.noS q2) not_false
    · have y2 := F.bss x2
      rcases q with ⟨q1, q2, q3⟩ | ⟨q1, q2, q3⟩
      · exact absurd (q2.noS y2) not_false
      · have u := BsS.uniq hb y2 q2
        have bv := F.bxv x2.1
        refine ⟨u.1, fin _ _ x3 q3 (F.put (F.ona bv (fun l a d => u.2 l a ?_)))⟩
        have := F.1.n2
        omega
end OS
