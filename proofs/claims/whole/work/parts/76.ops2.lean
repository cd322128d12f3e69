theorem Op.ex {yc ym : Mth} {as : List MV} {M N : Mem} {z' : Int} {N1 : Mem} {zc : Mem → Int} {mc : Mem → Mem} (I : Inv M N) (hc : ∀ g, Ex LyC g 15 yc as M (fun r M' => ∃ M1, FD M M1 ∧ r = some (vi (zc M1)) ∧ M' = mc M1)) (hm : ∀ g, Ex LyM g 15 ym as N (PI z' N1)) (h : ∀ M1, Fu M1 N → FD M M1 → zc M1 = z' ∧ Inv (mc M1) N1) : Op yc ym as M N :=
  ⟨fun x M' => ∃ M1, FD M M1 ∧ x = zc M1 ∧ M' = mc M1, fun x N' => x = z' ∧ N' = N1, fun g => (hc g).mono (fun r M' ⟨M1, q1, q2, q3⟩ => ⟨_, q2, M1, q1, rfl, q3⟩), fun g => (hm g).mono (fun r M' q => ⟨z', q.1, rfl, q.2⟩), fun a b M' N' p q => by
    obtain ⟨M1, p1, rfl, rfl⟩ := p
    obtain ⟨rfl, rfl⟩ := q
    exact h M1 (I.fu p1) p1⟩
section OR
variable {M N : Mem} {l i : Int}
theorem Inv.zz (I : Inv M N) (h0 : 0 ≤ l) (h1 : l < 5) (i0 : 0 ≤ i) (i1 : i < 8) (h : M 1 2 ≤ l ∨ N 11 l ≤ i) : M 22 (8 * l + i) = 0 := by
  by_cases z : M 22 (8 * l + i) = 0
  · exact z
  · have q := (I.az (8 * l + i) (by omega) (by omega)).2 z
    rw [show (8 * l + i) / 8 = l by omega, show (8 * l + i) % 8 = i by omega] at q
    have c := I.cnm h0 q.1
    have q2 : i < (wsC M l).length := q.2
    omega
theorem Inv.cb (I : Inv M N) (h0 : 0 ≤ l) (h1 : l < M 1 2) : 0 ≤ N 11 l ∧ N 11 l ≤ 8 := (I.wlm l h0 (by have := I.n2; omega)).cnt
theorem Inv.ttm (I : Inv M N) (h0 : 0 ≤ l) (h1 : l < M 1 2) : ttC (M 22) l = seM (N 11) (N 10) l := by
  have hN := I.nb.2.2.1
  have cb := I.cb h0 h1
  unfold ttC seM
  rw [sg_cut (n := N 11 l) (m := 8) cb.1 cb.2 (fun i c d => I.zz h0 (by omega) (by omega) d (Or.inr c))]
  exact sg_congr (fun i c d => I.am (8 * l + i) (by omega) (by omega))
theorem Inv.ptm (I : Inv M N) (h0 : 0 ≤ l) (h1 : l < M 1 2) : ptC (M 22) l = nzM (N 11) (N 10) l := by
  have hN := I.nb.2.2.1
  have cb := I.cb h0 h1
  unfold ptC nzM
  rw [sg_cut (n := N 11 l) (m := 8) cb.1 cb.2 (fun i c d => if_pos (I.zz h0 (by omega) (by omega) d (Or.inr c)))]
  refine sg_congr (fun i c d => ?_)
  have ea := I.am (8 * l + i) (by omega) (by omega)
  have eb := I.a40 (8 * l + i) (by omega) (by omega)
  rw [← ea]
  by_cases z : M 22 (8 * l + i) = 0
  · rw [if_pos z, if_neg (by omega)]
  · rw [if_neg z, if_pos (by omega)]
theorem Inv.tta (I : Inv M N) : sg (fun l => ttC (M 22) l) 5 = sg (fun l => seM (N 11) (N 10) l) (N 0 6) := by
  have hN := I.nb.2.2.1
  rw [sg_cut (n := M 1 2) (m := 5) hN.1 hN.2 (fun l a b => by
    unfold ttC
    rw [sg_cut (n := 0) (m := 8) (by omega) (by omega) (fun i c d => I.zz (by omega) b c d (Or.inl a))]; rfl), ← I.n2]
  exact sg_congr (fun l a b => I.ttm a b)
theorem op_of (I : Inv M N) (r w : Int) (hr : -2147483648 ≤ r ∧ r ≤ 2147483647) (hw : -2147483648 ≤ w ∧ w ≤ 2147483647) : Op mX7_of mX8_of [vr 0, vi r, vi w] M N := by
  have m := fun g => sX8_of (g := g) 12 r w hr hw I.wbm I.avm I.nbm
  have n1 := I.n1
  by_cases c : 0 ≤ r ∧ r < M 1 1
  · have c' : 0 ≤ r ∧ r < N 0 1 := by omega
    by_cases w4 : w = 4
    · refine Op.fd I (fun g => sX7_of_4 0 r w c w4 I.az I.fo I.nb) m (fun M' F _ => ?_)
      rw [if_pos c', F.us F.ea c.1, w4]
      rfl
    · by_cases w5 : w = 5
      · refine Op.fd I (fun g => sX7_of_5 0 r w c w5 I.az I.fo I.nb) m (fun M' F _ => ?_)
        rw [if_pos c', F.ov F.ea c.1, w5]
        rfl
      · refine Op.pi (fun g => sX7_of 0 r w hr hw w4 w5 I.nb) m ?_ I
        rw [if_pos c, if_pos c', if_neg w4, if_neg w5, I.r2, I.r3, I.r4, I.r5, I.r6]
        rfl
  · exact Op.pi (fun g => sX7_of_x 0 r w hr c I.nb) m (by rw [if_neg (by omega)]) I
theorem Inv.scr (I : Inv M N) (f h : Int → Int) : Inv (mset M 38 f) (mset N 23 h) :=
  I.mod (fun k hk => mset_n (by omega)) ⟨I.fo, I.2.2.1.2⟩ I.sh (fun k h1 h2 => mset_n (by omega)) ⟨rfl, rfl, rfl, rfl⟩
theorem Inv.farm (I : Inv M N) (h0 : 0 ≤ l) (h1 : l < N 0 6) (f : Int → Int) : itG (aM N) (bM N) (N 4) (N 0 1) (ini f (dsG (N 6 l)) 9) (N 0 0).toNat (N 7 l) = DF M l := by
  have := (far_F I.nb h0 (l := l) (by have := I.n2; omega) f).2
  rw [I.r2, I.r3, I.r6, I.n1, I.r8, I.n0, I.r9] at this
  exact this
theorem op_told (I : Inv M N) (l w : Int) (hl : -2147483648 ≤ l ∧ l ≤ 2147483647) (hw : -2147483648 ≤ w ∧ w ≤ 2147483647) : Op mX7_told mX8_told [vr 0, vi l, vi w] M N := by
  have n2 := I.n2
  have hmt : ∀ l, 0 ≤ l → l < N 0 6 → 0 ≤ mt (wallF (scM N) (aM N) (bM N) (N 2)) (cutQ (N 6 l) (N 7 l)) (2 ^ (N 0 0).toNat - 2 : Int).toNat ∧ mt (wallF (scM N) (aM N) (bM N) (N 2)) (cutQ (N 6 l) (N 7 l)) (2 ^ (N 0 0).toNat - 2 : Int).toNat ≤ 2147483647 := fun l a b => by
    rw [I.mtE]; exact mt_ok I.nb a (by omega) _
  by_cases w7 : w = 7
  · by_cases c : 0 ≤ l ∧ l < M 1 2
    · have b := DF_b I.nb c.1 c.2
      refine Op.of (z := if DF M l < 1000000 then DF M l else -1) (P := fun M' => ∃ f, M' = mset M 38 f) (Q := fun N' => ∃ f, N' = mset N 23 f) (fun g => (sX7_told_7 0 l w c w7 I.nb).mono (fun r M' q => ?_)) (fun g => sX8_told_7 12 l w (DF M l) hl w7 (fun a b f => I.farm a b f) b I.nbm) ?_ (fun M' N' ⟨f, p⟩ ⟨h, q⟩ => by subst p; subst q; exact I.scr f h)
      · obtain ⟨q1, q2⟩ := q
        rw [(far_F I.nb c.1 c.2 (M 38)).1] at q1
        exact ⟨q1, _, q2⟩
      · rw [if_pos (show 0 ≤ l ∧ l < N 0 6 by omega)]
        by_cases d : DF M l < 1000000
        · rw [if_pos d, if_neg (by omega)]
        · rw [if_neg d, if_pos (by omega)]
    · refine Op.of (P := fun M' => M' = M) (Q := fun N' => ∃ f, N' = mset N 23 f) (fun g => sX7_told_x 0 l w hl c I.nb) (fun g => sX8_told_7 12 l w 0 hl w7 (fun a b f => by omega) (by omega) I.nbm) (by rw [if_neg (by omega)]) (fun M' N' p ⟨h, q⟩ => by
        rw [p, q]
        have := I.scr (M 38) h
        rw [mset_eq rfl] at this
        exact this)
  · have m := fun g => sX8_told (g := g) 12 l w hl hw w7 hmt I.hhm I.wbm I.avm I.nbm
    by_cases c : 0 ≤ l ∧ l < M 1 2
    · have c' : 0 ≤ l ∧ l < N 0 6 := by omega
      by_cases w4 : w = 4
      · refine Op.fd I (fun g => sX7_told_4 0 l w c w4 I.fo I.nb) m (fun M' F Fd => ?_)
        rw [if_pos c', w4]
        exact F.cn c.1 (by rw [Fd.k (k := 1) (by omega)]; exact c.2)
      · refine Op.pi (fun g => sX7_told 0 l w hl hw w4 w7 (fun a b => mt_ok I.nb a b _) I.a40 I.nb) m ?_ I
        rw [if_pos c, if_pos c', if_neg w4, I.mtE, I.wl, ← I.ttm c.1 c.2, ← I.ptm c.1 c.2, ← I.hd l c.1 c.2, I.r7, I.r8, I.r9, I.r10]
    · exact Op.pi (fun g => sX7_told_x 0 l w hl c I.nb) m (by rw [if_neg (by omega)]) I
theorem op_barred (I : Inv M N) : Op mX7_barred mX8_barred [vr 0] M N := by
  have n2 := I.n2
  have b := fun l a c => DF_b I.nb (l := l) a c
  have fin : ∀ M' N', (∃ f, M' = mset M 38 f) → (∃ f, N' = mset N 23 f) → Inv M' N' := fun M' N' ⟨f, p⟩ ⟨h, q⟩ => by subst p; subst q; exact I.scr f h
  by_cases c : ∃ l, (0 ≤ l ∧ l < M 1 2) ∧ DF M l = 1000000
  · obtain ⟨lx, c1, c2⟩ := c
    exact Op.of (P := fun M' => ∃ f, M' = mset M 38 f) (Q := fun N' => ∃ f, N' = mset N 23 f) (fun g => sX7_barred_x 12 (DF M) (fun f l a c => (far_F I.nb a c f).1) b lx c1 c2 I.nb) (fun g => sX8_barred_x 14 (DF M) (fun f l a c => I.farm a c f) lx (by omega) c2 (fun l a c => b l a (by omega)) I.nbm) rfl fin
  · have c' : ∀ l, 0 ≤ l → l < M 1 2 → DF M l ≠ 1000000 := fun l a d e => c ⟨l, ⟨a, d⟩, e⟩
    refine Op.of (P := fun M' => ∃ f, M' = mset M 38 f) (Q := fun N' => ∃ f, N' = mset N 23 f) (fun g => sX7_barred_o 12 (DF M) (fun f l a c => (far_F I.nb a c f).1) (fun l a d => by have := b l a d; have := c' l a d; omega) I.nb) (fun g => sX8_barred_o 14 (DF M) (fun f l a c => I.farm a c f) (fun l a d => c' l a (by omega)) (fun l a c => b l a (by omega)) I.nbm) ?_ fin
    rw [I.r10, I.r4, I.r6, I.n1, I.n2]
theorem op_roads (I : Inv M N) (l i : Int) (hl : -2147483648 ≤ l ∧ l ≤ 2147483647) (hi : -2147483648 ≤ i ∧ i ≤ 2147483647) : Op mX7_roads mX8_roads [vr 0, vi l, vi i] M N := by
  have n2 := I.n2
  have m := fun g => sX8_roads (g := g) 13 l i hl hi I.wbm I.nbm
  by_cases c : 0 ≤ l ∧ l < M 1 2
  · refine Op.fd I (fun g => sX7_roads_o 0 l i hi c I.fo I.nb) m (fun M' F Fd => ?_)
    have c1 : l < M' 1 2 := by rw [Fd.k (k := 1) (by omega)]; exact c.2
    rw [if_pos (show 0 ≤ l ∧ l < N 0 6 by omega), ← F.cn c.1 c1]
    by_cases d : 0 ≤ i ∧ i < M' 28 l
    · rw [if_pos d, if_pos d, (F.rd c.1 c1 d.1 d.2).1]
    · rw [if_neg d, if_neg d]
  · exact Op.pi (fun g => sX7_roads_x 0 l i hl c I.nb) m (by rw [if_neg (by omega)]) I
theorem op_price (I : Inv M N) (l i : Int) (hl : -2147483648 ≤ l ∧ l ≤ 2147483647) (hi : -2147483648 ≤ i ∧ i ≤ 2147483647) : Op mX7_price mX8_price [vr 0, vi l, vi i] M N := by
  have n2 := I.n2
  have m := fun g => sX8_price (g := g) 13 l i hl hi I.wbm I.nbm
  by_cases c : 0 ≤ l ∧ l < M 1 2
  · refine Op.fd I (fun g => sX7_price_o 0 l i hi c I.fo I.nb) m (fun M' F Fd => ?_)
    have c1 : l < M' 1 2 := by rw [Fd.k (k := 1) (by omega)]; exact c.2
    rw [if_pos (show 0 ≤ l ∧ l < N 0 6 by omega), ← F.cn c.1 c1]
    by_cases d : 0 ≤ i ∧ i < M' 28 l
    · rw [if_pos d, if_pos d, F.pr c.1 c1 d.1 d.2]
    · rw [if_neg d, if_neg d]
  · exact Op.pi (fun g => sX7_price_x 0 l i hl c I.nb) m (by rw [if_neg (by omega)]) I
theorem op_sent (I : Inv M N) (l i : Int) (hl : -2147483648 ≤ l ∧ l ≤ 2147483647) (hi : -2147483648 ≤ i ∧ i ≤ 2147483647) : Op mX7_sent mX8_sent [vr 0, vi l, vi i] M N := by
  have n2 := I.n2
  have m := fun g => sX8_sent (g := g) 13 l i hl hi I.wbm I.nbm
  by_cases c : 0 ≤ l ∧ l < M 1 2
  · refine Op.fd I (fun g => sX7_sent_o 0 l i hi c I.fo I.nb) m (fun M' F Fd => ?_)
    have c1 : l < M' 1 2 := by rw [Fd.k (k := 1) (by omega)]; exact c.2
    have cb := F.cb c.1 c1
    rw [if_pos (show 0 ≤ l ∧ l < N 0 6 by omega), ← F.cn c.1 c1]
    by_cases d : 0 ≤ i ∧ i < M' 28 l
    · rw [if_pos d, if_pos d, F.1.am (8 * l + i) (by omega) (by omega)]
    · rw [if_neg d, if_neg d]
  · exact Op.pi (fun g => sX7_sent_x 0 l i hl c I.nb) m (by rw [if_neg (by omega)]) I
theorem op_way (I : Inv M N) (l i k : Int) (hl : -2147483648 ≤ l ∧ l ≤ 2147483647) (hi : -2147483648 ≤ i ∧ i ≤ 2147483647) (hk : -2147483648 ≤ k ∧ k ≤ 2147483647) : Op mX7_way mX8_way [vr 0, vi l, vi i, vi k] M N := by
  have n2 := I.n2
  have m := fun g => sX8_way (g := g) 14 l i k hl hi hk I.wbm I.nbm
  by_cases c : 0 ≤ l ∧ l < M 1 2
  · refine Op.fd I (fun g => sX7_way_o 0 l i k hi hk c I.fo I.nb) m (fun M' F Fd => ?_)
    have c1 : l < M' 1 2 := by rw [Fd.k (k := 1) (by omega)]; exact c.2
    rw [if_pos (show 0 ≤ l ∧ l < N 0 6 by omega), ← F.cn c.1 c1]
    by_cases d : 0 ≤ i ∧ i < M' 28 l
    · have e := F.rd c.1 c1 d.1 d.2
      rw [← e.1]
      by_cases d2 : (0 ≤ i ∧ i < M' 28 l) ∧ 0 ≤ k ∧ k ≤ M' 29 (8 * l + i) - 1
      · rw [if_pos d2, if_pos d2, (e.2.2.1 k (by omega) (by omega)).1]
      · rw [if_neg d2, if_neg d2]
    · rw [if_neg (fun x => d x.1), if_neg (fun x => d x.1)]
  · exact Op.pi (fun g => sX7_way_x 0 l i k hl c I.nb) m (by rw [if_neg (by omega)]) I
theorem mn_congr {f h : Int → Int} : ∀ {k : Nat}, (∀ i : Int, 0 ≤ i → i ≤ k → f i = h i) → mn f k = mn h k
  | 0, _ => rfl
  | k + 1, e => by
    have ih := mn_congr (k := k) (fun i a b => e i a (by omega))
    have r := mn_rng h k
    simp only [mn]
    rw [ih, e (k + 1) (by omega) (by omega), e (mn h k) r.1 (by omega)]
theorem op_cheap (I : Inv M N) (l : Int) (hl : -2147483648 ≤ l ∧ l ≤ 2147483647) : Op mX7_cheap mX8_cheap [vr 0, vi l] M N := by
  have n2 := I.n2
  by_cases c : 0 ≤ l ∧ l < M 1 2
  · refine Op.fd I (fun g => sX7_cheap_o 0 l c I.fo I.nb) (fun g => sX8_cheap_o 13 l (by omega) I.wbm I.nbm) (fun M' F Fd => ?_)
    have c1 : l < M' 1 2 := by rw [Fd.k (k := 1) (by omega)]; exact c.2
    unfold chM
    rw [← F.cn c.1 c1]
    by_cases d : 0 < M' 28 l
    · rw [if_pos d, if_neg (by omega)]
      exact mn_congr (fun i a b => F.pr c.1 c1 a (by omega))
    · rw [if_neg d, if_pos (by omega)]
  · exact Op.pi (fun g => sX7_cheap_x 0 l hl c I.nb) (fun g => sX8_cheap_x 13 l hl (by omega) I.nbm) rfl I
theorem op_send (I : Inv M N) (l i v : Int) (hl : -2147483648 ≤ l ∧ l ≤ 2147483647) (hi : -2147483648 ≤ i ∧ i ≤ 2147483647) (hv : -2147483648 ≤ v ∧ v ≤ 2147483647) : Op mX7_send mX8_send [vr 0, vi l, vi i, vi v] M N := by
  have n2 := I.n2
  have m := fun g => sX8_send (g := g) 14 l i v hl hi hv I.wbm I.nbm
  by_cases c : (0 ≤ l ∧ l < M 1 2) ∧ 0 ≤ v ∧ v ≤ 100
  · have c' : (0 ≤ l ∧ l < N 0 6) ∧ 0 ≤ v ∧ v ≤ 100 := by omega
    refine Op.ex I (fun g => sX7_send_o 0 l i v hi c I.fo I.nb) m (fun M1 F Fd => ?_)
    have c1 : l < M1 1 2 := by rw [Fd.k (k := 1) (by omega)]; exact c.1.2
    have cb := F.cb c.1.1 c1
    rw [if_pos c', ← F.cn c.1.1 c1]
    by_cases d : 0 ≤ i ∧ i < M1 28 l
    · rw [if_pos d, if_pos d, if_pos d, if_pos ⟨c', d⟩]
      exact ⟨F.1.am (8 * l + i) (by omega) (by omega), F.put (F.ea.put c.1.1 c1 d.1 d.2 (by omega) c.2)⟩
    · rw [if_neg d, if_neg d, if_neg d, if_neg (fun x => d x.2)]
      exact ⟨rfl, F.1⟩
  · refine Op.pi (fun g => sX7_send_x 0 l i v hl hv c I.nb) m (by rw [if_neg (by omega)]) ?_
    rw [if_neg (fun x => c (by have := x.1; omega))]
    exact I
theorem op_hold (I : Inv M N) (l i : Int) (hl : -2147483648 ≤ l ∧ l ≤ 2147483647) (hi : -2147483648 ≤ i ∧ i ≤ 2147483647) : Op mX7_hold mX8_hold [vr 0, vi l, vi i] M N := by
  have n2 := I.n2
  have m := fun g => sX8_hold (g := g) 14 l i hl hi I.wbm I.nbm
  by_cases c : 0 ≤ l ∧ l < M 1 2
  · have c' : 0 ≤ l ∧ l < N 0 6 := by omega
    by_cases k : M 7 l = 2
    · have k' : N 5 l = 2 := by rw [← I.r7]; exact k
      refine Op.ex I (fun g => sX7_hold_o 0 l i hi c k I.fo I.nb) m (fun M1 F Fd => ?_)
      have c1 : l < M1 1 2 := by rw [Fd.k (k := 1) (by omega)]; exact c.2
      rw [if_pos c', if_pos k', ← F.cn c.1 c1]
      by_cases d : 0 ≤ i ∧ i < M1 28 l
      · rw [if_pos d, if_pos d, if_pos d, if_pos ⟨c', k', d⟩]
        exact ⟨F.1.hd l c.1 c1, F.hold c.1 c1 d.1 d.2⟩
      · rw [if_neg d, if_neg d, if_neg d, if_neg (fun x => d x.2.2)]
        exact ⟨rfl, F.1⟩
    · have k' : ¬ N 5 l = 2 := by rw [← I.r7]; exact k
      refine Op.pi (fun g => sX7_hold_k 0 l i c k I.nb) m (by rw [if_pos c', if_neg k']) ?_
      rw [if_neg (fun x => k' x.2.1)]
      exact I
  · refine Op.pi (fun g => sX7_hold_x 0 l i hl c I.nb) m (by rw [if_neg (by omega)]) ?_
    rw [if_neg (fun x => c (by have := x.1; omega))]
    exact I
theorem op_over (I : Inv M N) : Op mX7_over mX8_over [vr 0] M N := by
  refine Op.fd I (fun g => sX7_over 0 I.az I.fo I.nb) (fun g => sX8_over 12 I.wbm I.avm I.nbm) (fun M' F Fd => ?_)
  have e := fpt_congr (f := fun r => ovC (M' 22) (M' 30) (M' 4) r) (h := fun r => ovM (N 11) (N 12) (N 13) (N 10) (N 2) (N 0 6) r) (n := (M' 1 1).toNat) (fun r a _ => F.ov F.ea a)
  rw [e, F.1.n1]
theorem op_many (I : Inv M N) (w : Int) (hw : -2147483648 ≤ w ∧ w ≤ 2147483647) : Op mX7_many mX8_many [vr 0, vi w] M N := by
  have hb : ∃ b : Int, (b = 0 ∨ b = 1) ∧ (b = 1 ↔ sg (fun r => if 0 < ovM (N 11) (N 12) (N 13) (N 10) (N 2) (N 0 6) r then 1 else 0) (N 0 1) = 0 ∧ ∀ l, 0 ≤ l → l < N 0 6 → (seM (N 11) (N 10) l = N 8 l ∧ (N 5 l = 0 ∨ nzM (N 11) (N 10) l = 1) ∧ (N 5 l < 2 ∨ 0 < N 10 (8 * l + N 9 l)))) := by
    by_cases q : sg (fun r => if 0 < ovM (N 11) (N 12) (N 13) (N 10) (N 2) (N 0 6) r then 1 else 0) (N 0 1) = 0 ∧ ∀ l, 0 ≤ l → l < N 0 6 → (seM (N 11) (N 10) l = N 8 l ∧ (N 5 l = 0 ∨ nzM (N 11) (N 10) l = 1) ∧ (N 5 l < 2 ∨ 0 < N 10 (8 * l + N 9 l)))
    · exact ⟨1, Or.inr rfl, fun _ => q, fun _ => rfl⟩
    · exact ⟨0, Or.inl rfl, fun x => by omega, fun x => absurd x q⟩
  obtain ⟨b, hb, hbb⟩ := hb
  have m := fun g => sX8_many (g := g) 10 w b hw hb hbb I.hhm I.wbm I.avm I.nbm
  by_cases w3 : w = 3
  · refine Op.fd I (fun g => sX7_many_3 0 w w3 I.az I.fo I.nb) m (fun M' F _ => ?_)
    rw [w3]
    refine Eq.trans ?_ (rfl : sg (fun r => if 0 < ovM (N 11) (N 12) (N 13) (N 10) (N 2) (N 0 6) r then 1 else 0) (N 0 1) = _)
    rw [← F.1.n1]
    exact sg_congr (fun r a _ => by rw [F.ov F.ea a])
  · by_cases w4 : w = 4
    · refine Op.fd I (fun g => sX7_many_4 0 w w4 I.az I.fo I.nb) m (fun M' F _ => ?_)
      rw [w4]
      refine Eq.trans ?_ (rfl : sg (fun r => ovM (N 11) (N 12) (N 13) (N 10) (N 2) (N 0 6) r) (N 0 1) = _)
      rw [← F.1.n1]
      exact sg_congr (fun r a _ => F.ov F.ea a)
    · by_cases w5 : w = 5
      · refine Op.fd I (fun g => sX7_many_5 0 w w5 I.az I.fo I.nb) m (fun M' F _ => ?_)
        rw [w5]
        exact F.co F.ea
      · by_cases w6 : w = 6
        · refine Op.fd I (fun g => sX7_many_6 0 w w6 b hb (fun M1 Fd => by rw [hbb]; exact (I.fu Fd).fit.symm) I.hh5 I.az I.fo I.nb) m (fun M' F _ => ?_)
          rw [w6]
          rfl
        · refine Op.pi (fun g => sX7_many 0 w hw (by omega) I.nb) m ?_ I
          rw [if_neg w3, if_neg w4, if_neg w5, if_neg w6, I.n0, I.n1, I.n2, I.tta, I.r10]
end OR
