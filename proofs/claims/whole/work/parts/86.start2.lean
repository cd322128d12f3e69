set_option maxHeartbeats 4000000 in
/-- the law, from its entry -/
theorem whole_start {p : Program} {e : Env} {s : State} {m : MethodId} {below : List Frame} {meth : Method} {c : Code} (l : Launch) {b L : Nat} {xs : Nat → Int32} (hL : L ≤ 2560) (C0 : lw_At p s m meth c b L xs) : W p l e room_1 s m #[Value.ref b] below meth c s.heap [] 0 0 (lw_Z below #[Value.ref b] s) (entryFrame m ([Value.ref b] : List Value).toArray 4) := by
  obtain ⟨hx, hb, hr, hml, hown, hts, hX, hbl, hlocks, hgv⟩ := id C0
  have hown : s.vm.findClass RL = some m.cls := hown
  have hA : ∀ q : Nat, s.heap.size ≤ q → (fun q : Nat => s.heap.size ≤ q) q := fun _ h => h
  have htg : ∀ w ∈ gtab, w.before #[Value.ref b] s = true := fun w h => hts w (List.mem_filter.mp h).1
  obtain ⟨c0, i0, k0⟩ := u_known (C := RX0) (T := TX0) (N := 8) (n := 8) htg gwX0 (htg _ (gmem 184 (by decide +kernel) (by decide +kernel)))
  obtain ⟨c1, i1, k1⟩ := u_known (C := RX2) (T := TX2) (N := 1) (n := 1) htg gwX2 (htg _ (gmem 137 (by decide +kernel) (by decide +kernel)))
  obtain ⟨c2, i2, k2⟩ := u_known (C := RX3) (T := TX3) (N := 12) (n := 12) htg gwX3 (htg _ (gmem 22 (by decide +kernel) (by decide +kernel)))
  obtain ⟨c3, i3, k3⟩ := u_known (C := RX4) (T := TX4) (N := 2) (n := 2) htg gwX4 (htg _ (gmem 114 (by decide +kernel) (by decide +kernel)))
  obtain ⟨c4, i4, k4⟩ := u_known (C := RX5) (T := TX5) (N := 3) (n := 3) htg gwX5 (htg _ (gmem 218 (by decide +kernel) (by decide +kernel)))
  obtain ⟨c5, i5, k5⟩ := u_known (C := RX6) (T := TX6) (N := 8) (n := 8) htg gwX6 (htg _ (gmem 131 (by decide +kernel) (by decide +kernel)))
  obtain ⟨c6, i6, k6⟩ := u_known (C := RX7) (T := TX7) (N := 9) (n := 9) htg gwX7 (htg _ (gmem 14 (by decide +kernel) (by decide +kernel)))
  obtain ⟨c7, i7, k7⟩ := u_known (C := RX8) (T := TX8) (N := 33) (n := 33) htg gwX8 (htg _ (gmem 723 (by decide +kernel) (by decide +kernel)))
  obtain ⟨D, hKc⟩ : ∃ D : va_G, ∀ (k : Nat) (q : vw_C), vwCl[k]? = some q → u_Kn s q.1 q.2.1 q.2.2 (D.1 k) (D.2 k) := by
    refine ⟨(fun k => [c0, c1, c2, c3, c4, c5, c6, c7].getD k c0, fun k => [i0, i1, i2, i3, i4, i5, i6, i7].getD k i0), ?_⟩
    intro k q hq
    match k, hq with
    | 0, hq => cases hq; exact k0
    | 1, hq => cases hq; exact k1
    | 2, hq => cases hq; exact k2
    | 3, hq => cases hq; exact k3
    | 4, hq => cases hq; exact k4
    | 5, hq => cases hq; exact k5
    | 6, hq => cases hq; exact k6
    | 7, hq => cases hq; exact k7
    | k + 8, hq => simp [vwCl] at hq
  obtain ⟨a0, ka0, cm0, f0, g0, h0⟩ := Cond.arrayClass_spec (htg _ arrI)
  obtain ⟨a1, ka1, cm1, f1, g1, h1⟩ := Cond.arrayClass_spec (htg _ arrZ)
  obtain ⟨a2, ka2, cm2, f2, g2, h2⟩ := Cond.arrayClass_spec (htg _ arrJ)
  obtain ⟨aC, e0, e1, e2⟩ : ∃ aC : Nat → ClassId, aC 0 = a0 ∧ aC 1 = a1 ∧ aC 2 = a2 := ⟨fun k => [a0, a1, a2].getD k a0, rfl, rfl, rfl⟩
  subst e0
  subst e1
  subst e2
  have hK : ∀ ad : Nat → Nat, K0 (l, D, ad, aC) s := fun ad => by
    refine ⟨⟨hKc, fun k q h => ?_⟩, fun w hw => ?_⟩
    · match k, h with
      | 0, h => cases h; exact ⟨fun n z => ⟨fun k h => (by cases h), ka0, g0, cm0, h0⟩, f0⟩
      | 1, h => cases h; exact ⟨fun n z => ⟨fun k h => (by cases h), ka1, g1, cm1, h1⟩, f1⟩
      | 2, h => cases h; exact ⟨fun n z => ⟨fun k h => (by cases h), ka2, g2, cm2, h2⟩, f2⟩
      | k + 3, h => simp [tysOf] at h
    · have q := List.mem_filter.mp hw
      exact va_Nw.of (nest_tab q.2) (hts w q.1)
  have hS : va_S (fun q : Nat => s.heap.size ≤ q) s.heap s.heap [] := va_S.rf
  have hP : va_P D vwCl [] s.heap := fun k q h => by simp at h
  have hD : va_D (fun q : Nat => s.heap.size ≤ q) [] := ⟨fun i j p q h => by simp at h, fun k q h => by simp at h⟩
  have hl := lv_entry ([.ref b]) (n := 4) (Nat.le_of_ble_eq_true rfl)
  rw [lg_entry_eq]
  generalize (lg_sl ([.ref b]) ++ List.replicate (4 - (lg_sl ([.ref b])).length) Slot.unset).toArray = ls at hl ⊢
  have hl : lv_has ls 4 [(0, .ref b)] := hl
  have hK0 := hK (fun _ => 0)
  obtain ⟨C7, T7, N7, ty7, n1, n2, n3, n4, n5, n6, n7, n8⟩ := nwL_7
  subst n2
  refine va_new (D := D) (ci := 6) (C := C7) (T := T7) hx hb htg n3 ty7 n4 hown (htg _ n5) (htg _ n6) (htg _ n7) hK0.1 hP hD hS hA n1 n8 (by decide) (by decide) dL_0 (fun o H hP hD hS => ?_)
  refine lv_dup hx hb dL_3 rfl ?_
  have hFc := W1_free (W1 := []) hD hS hA
  have hG7 := wsy_in (y := mX7_init) miX7_init
  obtain ⟨m1, m2, m3, m4, m5, m6, m7, m8, m9⟩ := miX7_init
  refine va_callv (va_runI (As := []) (rest := [.ref o]) ⟨hx, hb, hml, hown, htg⟩ (cX7_init (g := (l, D, (fun _ => 0), aC)) o H.size) (cwI 0 htg hG7 (by unfold wsy; rw [m5]) rfl rfl (htg _ m2) (htg _ mlL_9) (htg _ m3) m4 ⟨m6, m7, m8⟩ ⟨by decide, by decide⟩) (pre_B (g := (l, D, (fun _ => 0), aC)) (W1 := []) hK0 hP) rfl rfl hl.1 rfl (lv_room (Nat.le_of_ble_eq_true rfl)) dL_4 ⟨by decide, by decide⟩) hS (fun q _ h => hFc q h) hFc (fun w t H1 locs1 ht hvm hw hB hz1 hk1 hS => ?_)
  obtain ⟨hP1, hD1, hK1⟩ := hB
  rw [ht] at hP1
  obtain ⟨hP, hD⟩ := W1_join (W1 := []) hP hD hk1 hFc hP1 hD1
  obtain ⟨a0, a1, a2, a3, a4, a5, a6, a7, a8, a9, a10, a11, a12, a13, a14, a15, a16, a17, a18, a19, a20, a21, a22, a23, a24, a25, a26, a27, a28, a29, a30, a31, a32, a33, a34, a35, a36, a37, a38, a39, a40, a41, a42, a43, a44, a45, a46, a47, a48, a49, F9, hF9, rfl⟩ := hw
  obtain ⟨F, hF, hF1⟩ : ∃ F : Int → Int, F9 = (fun j : Nat => Int32.ofInt (F j)) ∧ ∀ r, 0 ≤ r → r < 20 → F r = 1 := by
    refine ⟨fun z => (F9 z.toNat).toInt, ?_, fun r r0 r1 => ?_⟩
    · funext j
      show F9 j = Int32.ofInt ((F9 (Int.toNat (j : Int))).toInt)
      rw [Int.toNat_natCast, Int32.ofInt_toInt]
    · show (F9 r.toNat).toInt = 1
      rw [hF9 r.toNat (by omega)]
      decide
  subst hF
  refine lv_astore_n (lv' := [(1, .ref o), (0, .ref b)]) hx hb dL_7 rfl hl (by decide) rfl (fun ls hl => ?_)
  rw [List.nil_append, wC0 l D aC F o a0 a1 a2 a3 a4 a5 a6 a7 a8 a9 a10 a11 a12 a13 a14 a15 a16 a17 a18 a19 a20 a21 a22 a23 a24 a25 a26 a27 a28 a29 a30 a31 a32 a33 a34 a35 a36 a37 a38 a39 a40 a41 a42 a43 a44 a45 a46 a47 a48 a49] at hP hD
  obtain ⟨g, hg⟩ : ∃ g : Gt, g = (l, D, (fun k => [o, a0, a1, a2, a3, a4, a5, a6, a7, a8, a9, a10, a11, a12, a13, a14, a15, a16, a17, a18, a19, a20, a21, a22, a23, a24, a25, a26, a27, a28, a29, a30, a31, a32, a33, a34, a35, a36, a37, a38, a39, a40, a41, a42, a43, a44, a45, a46, a47, a48, a49].getD k 0), aC) := ⟨_, rfl⟩
  rw [← hg] at hP hD
  have ho : g.2.2.1 0 = o := by rw [hg]; rfl
  obtain ⟨C8, T8, N8, ty8, p1, p2, p3, p4, p5, p6, p7, p8⟩ := nwL_10
  subst p2
  refine va_new (D := D) (ci := 7) (C := C8) (T := T8) hx hb htg p3 ty8 p4 hown (htg _ p5) (htg _ p6) (htg _ p7) hK0.1 hP hD hS hA p1 p8 (by decide) (by decide) dL_8 (fun u H hP hD hS => ?_)
  refine lv_dup hx hb dL_11 rfl ?_
  have hFc := W1_free hD hS hA
  have hG8 := wsy_in (y := mX8_init) miX8_init
  obtain ⟨m1, m2, m3, m4, m5, m6, m7, m8, m9⟩ := miX8_init
  refine va_callv (va_runI (As := []) (rest := [.ref u]) ⟨hx, hb, hml, hown, htg⟩ (cX8_init (g := (l, D, (fun _ => 0), aC)) u H.size) (cwI 0 htg hG8 (by unfold wsy; rw [m5]) rfl rfl (htg _ m2) (htg _ mlL_12) (htg _ m3) m4 ⟨m6, m7, m8⟩ ⟨by decide, by decide⟩) (pre_B (g := (l, D, (fun _ => 0), aC)) hK0 hP) rfl rfl hl.1 rfl (lv_room (Nat.le_of_ble_eq_true rfl)) dL_12 ⟨by decide, by decide⟩) hS (fun q _ h => hFc q h) hFc (fun w t H1 locs1 ht hvm hw hB hz1 hk1 hS => ?_)
  obtain ⟨hP1, hD1, hK1⟩ := hB
  rw [ht] at hP1
  obtain ⟨d0, d1, d2, d3, d4, d5, d6, d7, d8, d9, d10, d11, d12, d13, d14, d15, d16, d17, d18, d19, d20, d21, d22, d23, d24, d25, d26, rfl⟩ := hw
  rw [wM0 l D aC u d0 d1 d2 d3 d4 d5 d6 d7 d8 d9 d10 d11 d12 d13 d14 d15 d16 d17 d18 d19 d20 d21 d22 d23 d24 d25 d26] at hP1 hD1
  obtain ⟨g', hg'⟩ : ∃ g' : Gt, g' = (l, D, (fun k => [u, d0, d1, d2, d3, d4, d5, d6, d7, d8, d9, d10, d11, d12, d13, d14, d15, d16, d17, d18, d19, d20, d21, d22, d23, d24, d25, d26].getD k 0), aC) := ⟨_, rfl⟩
  rw [← hg'] at hP1 hD1
  have hu : g'.2.2.1 0 = u := by rw [hg']; rfl
  obtain ⟨hP, hD⟩ := W1_join hP hD hk1 hFc hP1 hD1
  refine lv_astore_n (lv' := [(2, .ref u), (1, .ref o), (0, .ref b)]) hx hb dL_15 rfl hl (by decide) rfl (fun ls hl => ?_)
  refine lv_iconst (v := 0) hx hb dL_16 (by decide) ?_
  refine lv_istore_n (lv' := [(3, .int 0), (2, .ref u), (1, .ref o), (0, .ref b)]) hx hb dL_17 rfl hl (by decide) rfl (fun ls hl => ?_)
  have hl := lv_sub hl [3, 2, 1, 0] rfl
  have q1 : g.1 = l := by rw [hg]
  have q2 : g.2.1 = D := by rw [hg]
  have q3 : g.2.2.2 = aC := by rw [hg]
  have q1' : g'.1 = l := by rw [hg']
  have q2' : g'.2.1 = D := by rw [hg']
  have q3' : g'.2.2.2 = aC := by rw [hg']
  have hKg : K0 g s := by rw [hg]; exact hK _
  have dc := D_inj (D_l hD)
  have dm := D_inj (D_r hD)
  have C : CL p s m meth c b L xs g g' := ⟨hx, hb, hr, hml, hown, htg, hX, hbl, hlocks, hKg, by rw [q1, q1'], by rw [q2, q2'], by rw [q3, q3'], ⟨dc.1, smallC⟩, ⟨dm.1, smallM⟩, dc.2, dm.2, fun q x y => D_dis hD q x y⟩
  have I : Inv (mC0 F) mM0 := Inv.init ⟨rfl, rfl, rfl⟩ (fun k hk => by
    unfold mC0
    rw [if_neg (by omega), if_neg (by omega), if_neg (by omega)]) hF1 rfl ⟨rfl, rfl, rfl⟩ (fun k hk => by
    unfold mM0
    rw [if_neg (by omega)]) rfl
  have key := law_loop (e := e) (below := below) C hL 600 0 (mC0 F) mM0 (Nat.zero_le L) (by omega) I H1 locs1 ls (by rw [ho, hu, nI_0]; exact hl) (by rw [q2]; exact P_l hP) (by rw [q2]; exact P_r hP) hS
  rw [q1] at key
  exact key
