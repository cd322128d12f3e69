/-! the calls, one by one: class and model answer alike, and what holds between calls holds again -/
def Op (yc ym : Mth) (as : List MV) (M N : Mem) : Prop := ∃ P Q : Int → Mem → Prop, (∀ g, Ex LyC g 15 yc as M (fun r M' => ∃ z, r = some (vi z) ∧ P z M')) ∧ (∀ g, Ex LyM g 15 ym as N (fun r N' => ∃ z, r = some (vi z) ∧ Q z N')) ∧ ∀ z z' M' N', P z M' → Q z' N' → z = z' ∧ Inv M' N'
section OP
variable {yc ym : Mth} {as : List MV} {M N : Mem}
theorem Op.of {z z' : Int} {P Q : Mem → Prop} (hc : ∀ g, Ex LyC g 15 yc as M (fun r M' => r = some (vi z) ∧ P M')) (hm : ∀ g, Ex LyM g 15 ym as N (fun r N' => r = some (vi z') ∧ Q N')) (hz : z = z') (h : ∀ M' N', P M' → Q N' → Inv M' N') : Op yc ym as M N :=
  ⟨fun x M' => x = z ∧ P M', fun x N' => x = z' ∧ Q N', fun g => (hc g).mono (fun r M' q => ⟨z, q.1, rfl, q.2⟩), fun g => (hm g).mono (fun r M' q => ⟨z', q.1, rfl, q.2⟩), fun a b M' N' p q => ⟨by rw [p.1, q.1, hz], h M' N' p.2 q.2⟩⟩
theorem Op.pi {z z' : Int} {M1 N1 : Mem} (hc : ∀ g, Ex LyC g 15 yc as M (PI z M1)) (hm : ∀ g, Ex LyM g 15 ym as N (PI z' N1)) (hz : z = z') (h : Inv M1 N1) : Op yc ym as M N :=
  Op.of (P := fun M' => M' = M1) (Q := fun N' => N' = N1) hc hm hz (fun _ _ p q => by subst p; subst q; exact h)
theorem Op.fd {z' : Int} {zc : Mem → Int} (I : Inv M N) (hc : ∀ g, Ex LyC g 15 yc as M (fun r M' => r = some (vi (zc M')) ∧ FD M M')) (hm : ∀ g, Ex LyM g 15 ym as N (PI z' N)) (hz : ∀ M', Fu M' N → FD M M' → zc M' = z') : Op yc ym as M N :=
  ⟨fun x M' => x = zc M' ∧ FD M M', fun x N' => x = z' ∧ N' = N, fun g => (hc g).mono (fun r M' q => ⟨_, q.1, rfl, q.2⟩), fun g => (hm g).mono (fun r M' q => ⟨z', q.1, rfl, q.2⟩), fun a b M' N' p q => by
    obtain ⟨rfl, p⟩ := p
    obtain ⟨rfl, rfl⟩ := q
    exact ⟨hz M' (I.fu p) p, I.fd p⟩⟩
end OP
theorem Inv.up {M N N' : Mem} (c : CoM M) (r : Re M N) (f : FO M ∧ ∀ l, M 1 2 ≤ l → l < 5 → M 32 l = 0) (s : SH M) (ke : KE M N) (F : FwM N N') (w : ∀ l, 0 ≤ l → l < N 0 6 → WLm N' l) : Inv M N' := by
  have e : ∀ k, k < 11 ∨ (13 < k ∧ k < 18) → N' k = N k := fun k hk => F k (by omega) (by omega) (by omega) (by omega) (by omega)
  refine ⟨c, ?_, f, s, ?_, ke.tr (fun _ _ => rfl) rfl (fun k hk => e k (by omega)) (by rw [e 0 (by omega)])⟩
  · unfold Re aM bM at *
    rw [e 0 (by omega), e 1 (by omega), e 2 (by omega), e 3 (by omega), e 4 (by omega), e 5 (by omega), e 6 (by omega), e 7 (by omega), e 8 (by omega), e 9 (by omega), e 10 (by omega)]
    exact r
  · intro l a b
    rw [e 0 (by omega)] at b
    exact w l a b
theorem ZO.put {f : Int → Int} {n i v : Int} (h : ZO f n) (h0 : 0 ≤ i) (h1 : i < n) : ZO (fset f i v) n := fun j hj => by rw [fset_n (by omega)]; exact h j hj
theorem ini_ext {f v w : Int → Int} {n : Int} (h : ∀ i, 0 ≤ i → i < n → v i = w i) (hf : ∀ i, ¬ (0 ≤ i ∧ i < n) → f i = w i) : ini f v n = w := by
  funext i
  unfold ini
  by_cases q : 0 ≤ i ∧ i < n
  · rw [if_pos q]; exact h i q.1 q.2
  · rw [if_neg q]; exact hf i q
section OQ
variable {M N : Mem}
theorem op_net (I : Inv M N) (n : Int) (hn : -2147483648 ≤ n ∧ n ≤ 2147483647) : Op mX7_net mX8_net [vr 0, vi n] M N := by
  refine Op.pi (fun g => sX7_net 11 n hn) (fun g => sX8_net 14 n hn) rfl ?_
  by_cases c : 1 ≤ n ∧ n ≤ 9
  · rw [if_pos c, if_pos c]
    obtain ⟨i1, i2, i3, i4, i5, i6⟩ := I
    refine ⟨⟨⟨c, ⟨by show (0 : Int) ≤ 0; omega, by show (0 : Int) ≤ 20; omega⟩, ⟨by show (0 : Int) ≤ 0; omega, by show (0 : Int) ≤ 5; omega⟩, fun r a b => ?_, fun l a b => ?_⟩, fun s a b => ?_, fun l a b => ?_, fun l a b => ?_, i1.2.2.2.2⟩, ⟨⟨rfl, rfl, rfl⟩, i2.2.1, fun s a b => ?_, fun l a b => ?_⟩, ⟨⟨i3.1.1, fun l a b => ?_, fun l a b => ?_⟩, fun l a b => ?_⟩, i4, fun l a b => ?_, i6.tr (fun k hk => by rw [mset_n (by omega), mset_n (by omega), mset_n (by omega), mset_n (by omega)]) rfl (fun k hk => mset_n (by omega)) rfl⟩
    · have b' : r < 0 := b; omega
    · have b' : l < 0 := b; omega
    · have z : fillN (M 22) 40 0 s = 0 := by unfold fillN; rw [if_pos ⟨a, b⟩]
      show (0 ≤ fillN (M 22) 40 0 s ∧ fillN (M 22) 40 0 s ≤ 100) ∧ (fillN (M 22) 40 0 s ≠ 0 → _)
      rw [z]
      exact ⟨by omega, fun x => absurd rfl x⟩
    · have b' : l < 0 := b; omega
    · have a' : 0 ≤ l := a
      show fillN (M 23) 5 0 l = 0
      unfold fillN
      rw [if_pos ⟨a', b⟩]
    · have b' : s < 8 * 0 := b; omega
    · have b' : l < 0 := b; omega
    · show fillN (M 32) 5 0 l = 0 ∨ _
      unfold fillN
      rw [if_pos ⟨a, b⟩]
      exact Or.inl rfl
    · have b' : l < 0 := b; omega
    · have a' : 0 ≤ l := a
      show fillN (M 32) 5 0 l = 0
      unfold fillN
      rw [if_pos ⟨a', b⟩]
    · have b' : l < 0 := b; omega
  · rw [if_neg c, if_neg c]
    exact I
theorem op_room (I : Inv M N) (r v : Int) (hr : -2147483648 ≤ r ∧ r ≤ 2147483647) (hv : -2147483648 ≤ v ∧ v ≤ 2147483647) : Op mX7_room mX8_room [vr 0, vi r, vi v] M N := by
  refine Op.pi (fun g => sX7_room 13 r v hr hv I.nb) (fun g => sX8_room 14 r v hr hv I.nbm) (by rw [I.n1, I.r4]) ?_
  rw [← I.n1]
  by_cases c : (0 ≤ r ∧ r < M 1 1) ∧ 0 ≤ v ∧ v ≤ 100
  · rw [if_pos c, if_pos c]
    obtain ⟨i1, i2, i3, i4, i5, i6⟩ := I
    obtain ⟨⟨n1, n2, n3, n4, n5⟩, c2, c3, c4, ⟨z1, z2, z3, z4, z5⟩, z6⟩ := i1
    have n2' := n2
    refine ⟨⟨⟨n1, n2, n3, fun q a b => ⟨(n4 q a b).1, ?_, (n4 q a b).2.2⟩, n5⟩, c2, c3, c4, ⟨z1, z2, z3.put c.1.1 (by omega), z4, z5⟩, z6⟩, ⟨i2.1, ⟨i2.2.1.1, i2.2.1.2.1, by show fset (M 4) r v = fset (N 2) r v; rw [i2.2.1.2.2.1], i2.2.1.2.2.2⟩, i2.2.2⟩, i3, i4, i5, i6.tr (fun k hk => mset_n (by omega)) rfl (fun k hk => mset_n (by omega)) rfl⟩
    show 0 ≤ fset (M 4) r v q ∧ fset (M 4) r v q ≤ 100
    by_cases e : q = r
    · rw [e, fset_s]; exact c.2
    · rw [fset_n e]; exact (n4 q a b).2.1
  · rw [if_neg c, if_neg c]
    exact I
theorem op_measure (I : Inv M N) (r v : Int) (hr : -2147483648 ≤ r ∧ r ≤ 2147483647) (hv : -2147483648 ≤ v ∧ v ≤ 2147483647) : Op mX7_measure mX8_measure [vr 0, vi r, vi v] M N := by
  refine Op.pi (fun g => sX7_measure 13 r v hr hv I.nb) (fun g => sX8_measure 14 r v hr hv I.nbm) (by rw [I.n1, I.r6]) ?_
  rw [← I.n1]
  by_cases c : (0 ≤ r ∧ r < M 1 1) ∧ 0 ≤ v ∧ v ≤ 20
  · rw [if_pos c, if_pos c]
    obtain ⟨i1, i2, i3, i4, i5, i6⟩ := I
    obtain ⟨⟨n1, n2, n3, n4, n5⟩, c2, c3, c4, ⟨z1, z2, z3, z4, z5⟩, z6⟩ := i1
    have n2' := n2
    refine ⟨⟨⟨n1, n2, n3, fun q a b => ⟨(n4 q a b).1, (n4 q a b).2.1, (n4 q a b).2.2.1, ?_⟩, n5⟩, c2, c3, c4, ⟨z1, z2, z3, z4, z5.put c.1.1 (by omega)⟩, z6⟩, ⟨i2.1, ⟨i2.2.1.1, i2.2.1.2.1, i2.2.1.2.2.1, i2.2.1.2.2.2.1, by show fset (M 6) r v = fset (N 4) r v; rw [i2.2.1.2.2.2.2.1], i2.2.1.2.2.2.2.2⟩, i2.2.2⟩, i3, i4, i5, i6.tr (fun k hk => mset_n (by omega)) rfl (fun k hk => mset_n (by omega)) rfl⟩
    show 0 ≤ fset (M 6) r v q ∧ fset (M 6) r v q ≤ 20
    by_cases e : q = r
    · rw [e, fset_s]; exact c.2
    · rw [fset_n e]; exact (n4 q a b).2.2.2
  · rw [if_neg c, if_neg c]
    exact I
theorem op_resize (I : Inv M N) (r v : Int) (hr : -2147483648 ≤ r ∧ r ≤ 2147483647) (hv : -2147483648 ≤ v ∧ v ≤ 2147483647) : Op mX7_resize mX8_resize [vr 0, vi r, vi v] M N := by
  refine Op.pi (fun g => sX7_resize 13 r v hr hv I.nb) (fun g => sX8_resize 14 r v hr hv I.nbm) (by rw [I.n2, I.r10]) ?_
  rw [← I.n2]
  by_cases c : (0 ≤ r ∧ r < M 1 2) ∧ 1 ≤ v ∧ v ≤ 100
  · rw [if_pos c, if_pos c]
    obtain ⟨i1, i2, i3, i4, i5, i6⟩ := I
    obtain ⟨⟨n1, n2, n3, n4, n5⟩, c2, c3, c4, z5, z6, z7, z8, z9⟩ := i1
    have n3' := n3
    refine ⟨⟨⟨n1, n2, n3, n4, fun q a b => ⟨(n5 q a b).1, (n5 q a b).2.1, (n5 q a b).2.2.1, (n5 q a b).2.2.2.1, ?_⟩⟩, c2, c3, c4, z5, z6, z7, z8, z9.put c.1.1 (by omega)⟩, ⟨i2.1, ⟨i2.2.1.1, i2.2.1.2.1, i2.2.1.2.2.1, i2.2.1.2.2.2.1, i2.2.1.2.2.2.2.1, i2.2.1.2.2.2.2.2.1, i2.2.1.2.2.2.2.2.2.1, i2.2.1.2.2.2.2.2.2.2.1, by show fset (M 10) r v = fset (N 8) r v; rw [i2.2.1.2.2.2.2.2.2.2.2]⟩, i2.2.2⟩, i3, i4, i5, i6.tr (fun k hk => mset_n (by omega)) rfl (fun k hk => mset_n (by omega)) rfl⟩
    show 1 ≤ fset (M 10) r v q ∧ fset (M 10) r v q ≤ 100
    by_cases e : q = r
    · rw [e, fset_s]; exact c.2
    · rw [fset_n e]; exact (n5 q a b).2.2.2.2
  · rw [if_neg c, if_neg c]
    exact I
theorem op_is (I : Inv M N) (l w : Int) (hl : -2147483648 ≤ l ∧ l ≤ 2147483647) (hw : -2147483648 ≤ w ∧ w ≤ 2147483647) : Op mX7_is mX8_is [vr 0, vi l, vi w] M N :=
  Op.pi (fun g => sX7_is 13 l w hl hw I.nb) (fun g => sX8_is 14 l w hl hw I.nbm) (by rw [I.n2, I.r7]) I
theorem op_wall (I : Inv M N) (c : Int) (hc : -2147483648 ≤ c ∧ c ≤ 2147483647) : Op mX7_wall mX8_wall [vr 0, vi c] M N :=
  Op.pi (fun g => sX7_wall 13 c hc I.nb) (fun g => sX8_wall 13 c hc I.nbm) (by rw [I.n0, I.wl]) I
theorem op_call (I : Inv M N) (c : Int) (hc : -2147483648 ≤ c ∧ c ≤ 2147483647) : Op mX7_call mX8_call [vr 0, vi c] M N :=
  Op.pi (fun g => sX7_call 13 c hc I.nb) (fun g => sX8_call 13 c hc I.nbm) (by rw [I.n0, I.cl]) I
theorem Inv.exc (I : Inv M N) : excM N = excF (M 1) (M 2) (M 3) (M 4) (M 8) (M 9) (M 10) := by
  funext c
  unfold excM excF
  rw [I.wl, I.cl]
theorem op_bars (I : Inv M N) : Op mX7_bars mX8_bars [vr 0] M N := by
  have e := bars_eq I.nb
  have x := I.exc
  have b0 := pw_le I.nb.1.1 I.nb.1.2
  have b1 := mx_pos (f := excF (M 1) (M 2) (M 3) (M 4) (M 8) (M 9) (M 10)) (q := (2 ^ (M 1 0).toNat - 2 : Int).toNat) (b := _) (m := _) rfl
  refine Op.pi (fun g => sX7_bars 11 (by rw [← e]; omega) I.nb) (fun g => sX8_bars 12 (by rw [x, ← I.n0]; omega) I.nbm) ?_ I
  rw [x, ← I.n0, e]
theorem op_barring (I : Inv M N) : Op mX7_barring mX8_barring [vr 0] M N := by
  have e := bars_eq I.nb
  have x := I.exc
  have b0 := pw_le I.nb.1.1 I.nb.1.2
  have b1 := mx_pos (f := excF (M 1) (M 2) (M 3) (M 4) (M 8) (M 9) (M 10)) (q := (2 ^ (M 1 0).toNat - 2 : Int).toNat) (b := _) (m := _) rfl
  refine Op.pi (fun g => sX7_barring _ (by rw [← e]; omega) I.nb) (fun g => sX8_barring 12 I.nbm) ?_ I
  rw [x, ← I.n0, e]
theorem Inv.mtE (I : Inv M N) (l : Int) : mt (wallF (scM N) (aM N) (bM N) (N 2)) (cutQ (N 6 l) (N 7 l)) (2 ^ (N 0 0).toNat - 2 : Int).toNat = mt (wallF (M 1) (M 2) (M 3) (M 4)) (cutQ (M 8 l) (M 9 l)) (2 ^ (M 1 0).toNat - 2 : Int).toNat := by
  rw [show wallF (scM N) (aM N) (bM N) (N 2) = wallF (M 1) (M 2) (M 3) (M 4) from funext I.wl, ← I.r8, ← I.r9, ← I.n0]
theorem op_meets (I : Inv M N) (l : Int) (hl : -2147483648 ≤ l ∧ l ≤ 2147483647) : Op mX7_meets mX8_meets [vr 0, vi l] M N :=
  Op.pi (fun g => sX7_meets 12 l hl I.nb) (fun g => sX8_meets 12 l hl I.nbm) (by rw [I.mtE, I.n2]) I
end OQ
