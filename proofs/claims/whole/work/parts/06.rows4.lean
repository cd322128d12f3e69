/-! calls -/
def Pn (y : Mth) (n : Nat) : Prop := y.1.cls ≠ "java/lang/invoke/MethodHandle" ∧ y.1.cls ≠ "java/lang/invoke/VarHandle" ∧ (parseMethodDescriptor y.1.desc).map (fun d => d.parameters.length) = some n ∧ y.2.2.1 ≤ 21
/-- a method of the tables -/
def My (y : Mth) (n : Nat) : Prop := Cond.code y.1 y.2.1 y.2.2.1 y.2.2.2 ∈ gtab ∧ Cond.initialized y.1.cls ∈ gtab ∧ Pn y n
def VL (own : String) (idx : Nat) (y : Mth) : Prop := Cond.methodLink own idx y.1 ∈ gtab ∧ Cond.instanceMethod y.1 ∈ gtab ∧ Cond.selects y.1.cls y.1 y.1 ∈ gtab
def SL (own : String) (idx : Nat) (y : Mth) : Prop := Cond.methodLink own idx y.1 ∈ gtab ∧ Cond.static y.1 ∈ gtab
def SN (own : String) (idx : Nat) (y : Mth) : Prop := ∃ host, Cond.methodLinkNest own idx y.1 host ∈ nestW ∧ Cond.static y.1 ∈ gtab
def catS (st : List MV) : Nat := (st.map (fun v => if cat1 v then 1 else 2)).sum
theorem catS_ok {ad : Nat → Nat} (st : List MV) : ((st.map (rv ad)).map fun v => v.category).sum = catS st := by
  induction st with
  | nil => rfl
  | cons v t ih =>
    simp only [catS, List.map_cons, List.sum_cons] at ih ⊢
    rw [ih]
    rcases v with z | z | z <;> rfl
section RW4
variable {Ly : List Ent} {g : Gt} {y : Mth} {d pc nx : Nat} {lv : List (Option MV)} {st : List MV} {M : Mem} {Post : Option MV → Mem → Prop}
theorem call_w {p : Program} {e : Env} {s : State} {m : MethodId} {args : Array Value} {below : List Frame} {meth : Method} {c : Code} {H : Heap} {locs : List Loc} {ls : Array Slot} {st0 : List Value} {rest : List MV} {a : Array Value} {P2 : Option MV → Mem → Prop}
    (hr : va_Run p g.1 e (rmD d) s m args below meth c H locs 0 0 0 0 (F0 m pc ls st0) (rest.map (rv g.2.2.1)) (Qo Ly g P2 a) (ads Ly g)) (C : Cx Ly g y p s m args meth c) (hl : lvO g.2.2.1 y.2.2.1 lv ls) (hS : va_S (ads Ly g) s.heap H locs)
    (kk : ∀ (r : Option MV) (M' : Mem), P2 r M' → R Ly g y d (pc + 3) lv (r.toList ++ rest) M' Post) :
    W p g.1 e (rmD d) s m args below meth c H locs 0 0 (MQ below (Qo Ly g Post) args s 0 0 (ads Ly g)) (F0 m pc ls st0) := by
  intro T hT X
  obtain ⟨v, st₀, t, T', L, h0, X', hL, e1, e2, ⟨r, M', hv, hp, hw, hz, hk⟩, stp⟩ := hr T hT X
  cases hv
  rw [h0] at hz hk
  have hP' : va_P g.2.1 vwCl (wsOf Ly g M') T'.heap := by rw [e1]; exact hw.1
  have hS' : va_S (ads Ly g) s.heap T'.heap (locs ++ L) := ⟨Nat.le_trans hS.1 (by rw [e1]; exact hz), fun q h1 h2 => by rw [e1, hk q (Nat.lt_of_lt_of_le h1 hS.1) h2]; exact hS.2.1 q h1 h2, fun q hq => by
      rcases List.mem_append.mp hq with h | h
      · exact hS.2.2 q h
      · exact hL q h⟩
  obtain ⟨t2, a1, b1⟩ := kk r M' hp p e s m args below meth c T'.heap (locs ++ L) ls C hl hP' hS' T' rfl X'
  refine ⟨t2, stp t2 ?_, b1⟩
  have e3 : (r.toList ++ rest).map (rv g.2.2.1) = (r.map (rv g.2.2.1)).toList ++ rest.map (rv g.2.2.1) := by cases r <;> simp
  rw [e3] at a1
  exact a1
theorem blind {as : List MV} : FrameBlind (va_Pc (as.map (rv g.2.2.1)) (fun U => Wd Ly g M U)) := fun a U gf mk h => ⟨h.1, h.2.1, K0.same (u := U) (U := U.calling gf mk a) rfl h.2.2⟩
theorem call_V {y' : Mth} {idx b ci n : Nat} {As rest : List MV} {fs : List (Nat × Nat)} {C0 : vw_C} {P2 : Option MV → Mem → Prop} (hd : At y pc nx 3 (.invokevirtual idx)) (hv : VL y.1.cls idx y') (hm : My y' n) (hn : As.length = n) (hq : Ly[b]? = some (.inl (ci, fs))) (hc : vwCl[ci]? = some C0) (hc2 : C0.1 = y'.1.cls) (hrest : Nat.ble (catS rest) 8 = true)
    (hE : Ex Ly g d y' (vr b :: As) M P2) (kk : ∀ (r : Option MV) (M' : Mem), P2 r M' → R Ly g y (d + 1) nx lv (r.toList ++ rest) M' Post) : R Ly g y (d + 1) pc lv (As.reverse ++ vr b :: rest) M Post := by
  intro p e s m args below meth c H locs ls C hl hP hS
  obtain ⟨hd, rfl⟩ := hd
  obtain ⟨hx, hb, hr', hml, hown, hts, hlocks, hK, hj⟩ := id C
  obtain ⟨m1, m2, m3, m4, m5, m6⟩ := hm
  obtain ⟨v1, v2, v3⟩ := hv
  have hr8 : catS rest ≤ 8 := Nat.le_of_ble_eq_true hrest
  have hT : GoodIn gtab (wsy y') := fun w h => by
    have := good_in (y := y) m1 w h
    rcases List.mem_cons.mp h with rfl | h2
    · exact ⟨m1, this.2⟩
    · exact ⟨h2, this.2⟩
  have cb : CallB (rmD (d + 1)) s args y.1.cls idx y'.1 y'.2.1 y'.2.2.1 y'.2.2.2 (wsy y') (rmD d) 0 0 n :=
    callB_of n hts hT rfl rfl rfl (hts _ m2) (hts _ v1) ⟨m3, m4, m5⟩ ⟨Nat.le_refl _, by simp only [rmD]; omega⟩
  refine call_w (va_runV (C := y'.1.cls) (b := g.2.2.1 b) (As := As.map (rv g.2.2.1)) (rest := rest.map (rv g.2.2.1)) ⟨hx, hb, hml, hown, hts⟩ (hE hj) ⟨cb, hts _ v2, hts _ v3⟩ ⟨blind, ?_, fun U hU hW => ⟨by simp [rv], by rw [hU]; exact hP, hK.moved hW⟩⟩ rfl (by rw [List.length_map]; exact hn) hl.1 (by simp [rv]) (lv_room (by rw [catS_ok]; exact hr8)) hd ⟨Nat.le_refl _, Nat.le_refl _⟩) C hl hS kk
  have := va_recv (q := C0) hK.1 hP hc (wsOf_at hq)
  rw [hc2] at this
  exact this
theorem call_S {y' : Mth} {idx n : Nat} {As rest : List MV} {P2 : Option MV → Mem → Prop} (hd : At y pc nx 3 (.invokestatic idx)) (hv : SL y.1.cls idx y') (hm : My y' n) (hn : As.length = n) (hrest : Nat.ble (catS rest) 8 = true)
    (hE : Ex Ly g d y' As M P2) (kk : ∀ (r : Option MV) (M' : Mem), P2 r M' → R Ly g y (d + 1) nx lv (r.toList ++ rest) M' Post) : R Ly g y (d + 1) pc lv (As.reverse ++ rest) M Post := by
  intro p e s m args below meth c H locs ls C hl hP hS
  obtain ⟨hd, rfl⟩ := hd
  obtain ⟨hx, hb, hr', hml, hown, hts, hlocks, hK, hj⟩ := id C
  obtain ⟨m1, m2, m3, m4, m5, m6⟩ := hm
  obtain ⟨v1, v2⟩ := hv
  have hr8 : catS rest ≤ 8 := Nat.le_of_ble_eq_true hrest
  have hT : GoodIn gtab (wsy y') := fun w h => by
    have := good_in (y := y) m1 w h
    rcases List.mem_cons.mp h with rfl | h2
    · exact ⟨m1, this.2⟩
    · exact ⟨h2, this.2⟩
  have cb : CallB (rmD (d + 1)) s args y.1.cls idx y'.1 y'.2.1 y'.2.2.1 y'.2.2.2 (wsy y') (rmD d) 0 0 n :=
    callB_of n hts hT rfl rfl rfl (hts _ m2) (hts _ v1) ⟨m3, m4, m5⟩ ⟨Nat.le_refl _, by simp only [rmD]; omega⟩
  exact call_w (va_runS (As := As.map (rv g.2.2.1)) (rest := rest.map (rv g.2.2.1)) ⟨hx, hb, hml, hown, hts⟩ (hE hj) ⟨cb, hts _ v2⟩ ⟨blind, fun U hU hW => ⟨rfl, by rw [hU]; exact hP, hK.moved hW⟩⟩ rfl (by rw [List.length_map]; exact hn) hl.1 (by simp) (lv_room (by rw [catS_ok]; exact hr8)) hd ⟨Nat.le_refl _, Nat.le_refl _⟩) C hl hS kk
theorem call_N {y' : Mth} {idx n : Nat} {As rest : List MV} {P2 : Option MV → Mem → Prop} (hd : At y pc nx 3 (.invokestatic idx)) (hv : SN y.1.cls idx y') (hm : My y' n) (hn : As.length = n) (hrest : Nat.ble (catS rest) 8 = true)
    (hE : Ex Ly g d y' As M P2) (kk : ∀ (r : Option MV) (M' : Mem), P2 r M' → R Ly g y (d + 1) nx lv (r.toList ++ rest) M' Post) : R Ly g y (d + 1) pc lv (As.reverse ++ rest) M Post := by
  intro p e s m args below meth c H locs ls C hl hP hS
  obtain ⟨hd, rfl⟩ := hd
  obtain ⟨hx, hb, hr', hml, hown, hts, hlocks, hK, hj⟩ := id C
  obtain ⟨m1, m2, m3, m4, m5, m6⟩ := hm
  obtain ⟨host, v1, v2⟩ := hv
  have hr8 : catS rest ≤ 8 := Nat.le_of_ble_eq_true hrest
  have hT : GoodIn gtab (wsy y') := fun w h => by
    have := good_in (y := y) m1 w h
    rcases List.mem_cons.mp h with rfl | h2
    · exact ⟨m1, this.2⟩
    · exact ⟨h2, this.2⟩
  have cb : va_CN (rmD (d + 1)) s args y.1.cls idx y'.1 host y'.2.1 y'.2.2.1 y'.2.2.2 (wsy y') (rmD d) 0 0 n :=
    va_cnB n hts hT rfl rfl rfl (hK.2 _ v1) (hts _ m2) ⟨m3, m4, m5⟩ ⟨Nat.le_refl _, by simp only [rmD]; omega⟩
  exact call_w (va_runSN (As := As.map (rv g.2.2.1)) (rest := rest.map (rv g.2.2.1)) ⟨hx, hb, hml, hown, hts⟩ (hE hj) ⟨cb, hts _ v2, trivial⟩ ⟨blind, fun U hU hW => ⟨rfl, by rw [hU]; exact hP, hK.moved hW⟩⟩ rfl (by rw [List.length_map]; exact hn) hl.1 (by simp) (lv_room (by rw [catS_ok]; exact hr8)) hd ⟨Nat.le_refl _, Nat.le_refl _⟩) C hl hS kk
/-! Math.max, Math.min, System.arraycopy -/
def MxL (own : String) (idx : Nat) : Prop := Cond.methodLink own idx Lib.Math.max.name ∈ gtab ∧ Cond.static Lib.Math.max.name ∈ gtab ∧ Cond.initialized "java/lang/Math" ∈ gtab ∧ Cond.code Lib.Math.max.name Lib.Math.max.code 2 (some .int) ∈ gtab
def MnL (own : String) (idx : Nat) : Prop := Cond.methodLink own idx Lib.Math.min.name ∈ gtab ∧ Cond.static Lib.Math.min.name ∈ gtab ∧ Cond.initialized "java/lang/Math" ∈ gtab ∧ Cond.code Lib.Math.min.name Lib.Math.min.code 2 (some .int) ∈ gtab
theorem r_max {idx : Nat} {a b : Int} (hd : At y pc nx 3 (.invokestatic idx)) (hv : MxL y.1.cls idx) (hrest : Nat.ble (catS st) 8 = true) (ha : (-2147483648 ≤ a ∧ a ≤ 2147483647) ∧ (-2147483648 ≤ b ∧ b ≤ 2147483647)) (k : R Ly g y (d + 1) nx lv (vi (if a < b then b else a) :: st) M Post) : R Ly g y (d + 1) pc lv (vi b :: vi a :: st) M Post := by
  intro p e s m args below meth c H locs ls C hl hP hS
  obtain ⟨hd, rfl⟩ := hd
  obtain ⟨hx, hb, hr', hml, hown, hts, hlocks, hK, hj⟩ := id C
  have hr8 : catS st ≤ 8 := Nat.le_of_ble_eq_true hrest
  refine va_mmax hx hb (hml.trans hl.1.symm) hown (hts _ hv.1) (hts _ hv.2.1) (hts _ hv.2.2.1) (hts _ hv.2.2.2) (by simp only [rmD]; omega) (by rw [catS_ok]; simp only [rmD]; omega) (Nat.le_refl _) (Nat.le_refl _) hd ?_
  have e1 : (if Int32.ofInt a < Int32.ofInt b then Int32.ofInt b else Int32.ofInt a) = Int32.ofInt (if a < b then b else a) := by
    by_cases q : a < b
    · rw [if_pos ((cI_lt ha.1 ha.2).mpr q), if_pos q]
    · rw [if_neg (fun h => q ((cI_lt ha.1 ha.2).mp h)), if_neg q]
  rw [e1]
  exact k p e s m args below meth c H locs ls C hl hP hS
theorem r_min {idx : Nat} {a b : Int} (hd : At y pc nx 3 (.invokestatic idx)) (hv : MnL y.1.cls idx) (hrest : Nat.ble (catS st) 8 = true) (ha : (-2147483648 ≤ a ∧ a ≤ 2147483647) ∧ (-2147483648 ≤ b ∧ b ≤ 2147483647)) (k : R Ly g y (d + 1) nx lv (vi (if b < a then b else a) :: st) M Post) : R Ly g y (d + 1) pc lv (vi b :: vi a :: st) M Post := by
  intro p e s m args below meth c H locs ls C hl hP hS
  obtain ⟨hd, rfl⟩ := hd
  obtain ⟨hx, hb, hr', hml, hown, hts, hlocks, hK, hj⟩ := id C
  have hr8 : catS st ≤ 8 := Nat.le_of_ble_eq_true hrest
  refine va_mmin hx hb (hml.trans hl.1.symm) hown (hts _ hv.1) (hts _ hv.2.1) (hts _ hv.2.2.1) (hts _ hv.2.2.2) (by simp only [rmD]; omega) (by rw [catS_ok]; simp only [rmD]; omega) (Nat.le_refl _) (Nat.le_refl _) hd ?_
  have e1 : (if Int32.ofInt b < Int32.ofInt a then Int32.ofInt b else Int32.ofInt a) = Int32.ofInt (if b < a then b else a) := by
    by_cases q : b < a
    · rw [if_pos ((cI_lt ha.2 ha.1).mpr q), if_pos q]
    · rw [if_neg (fun h => q ((cI_lt ha.2 ha.1).mp h)), if_neg q]
  rw [e1]
  exact k p e s m args below meth c H locs ls C hl hP hS
def CpL (own : String) (idx : Nat) : Prop := Cond.methodLink own idx arraycopyName ∈ gtab ∧ Cond.native arraycopyName ∈ gtab ∧ Cond.static arraycopyName ∈ gtab ∧ Cond.initialized "java/lang/System" ∈ gtab
theorem nfw : nativeFrameWords "java/lang/System" "arraycopy" 5 + 11 ≤ 32 := by decide +kernel
theorem arrV_congr {cI : ClassId} {N : Nat} {f h : Nat → Value} (e : ∀ j, j < N → f j = h j) : arrV cI N f = arrV cI N h := by
  have e2 : (Array.ofFn (n := N) fun j => f j.val) = Array.ofFn (n := N) fun j => h j.val := by
    congr 1
    funext j
    exact e j.val j.isLt
  simp only [arrV, e2]
/-- a whole array of n ints over another one of n ints -/
theorem r_copy {idx q0 q1 n : Nat} {nz : Int} (hd : At y pc nx 3 (.invokestatic idx)) (hv : CpL y.1.cls idx) (hrest : Nat.ble (catS st) 8 = true) (h0 : Ly[q0]? = some (.inr (0, n))) (h1 : Ly[q1]? = some (.inr (0, n))) (hnz : ((n : Nat) : Int) = nz) (k : R Ly g y (d + 1) nx lv st (mset M q1 (M q0)) Post) : R Ly g y (d + 1) pc lv (vi nz :: vi 0 :: vr q1 :: vi 0 :: vr q0 :: st) M Post := by
  subst hnz
  intro p e s m args below meth c H locs ls C hl hP hS
  obtain ⟨hd, rfl⟩ := hd
  obtain ⟨hx, hb, hr', hml, hown, hts, hlocks, hK, hj⟩ := id C
  have hr8 : catS st ≤ 8 := Nat.le_of_ble_eq_true hrest
  have hn := (hj.2 q0 0 n h0).1
  have en : (Int32.ofInt (n : Int)).toNatClampNeg = n := by
    show (Int32.ofInt (n : Int)).toInt.toNat = n
    rw [cI_rng (by omega)]; omega
  have e0 : (Int32.ofInt 0).toNatClampNeg = 0 := by decide
  have z0 : ¬ Int32.ofInt 0 < 0 := by decide
  have zn : ¬ Int32.ofInt (n : Int) < 0 := by rw [cI_0, cI_lt (by omega) (by omega)]; omega
  refine va_copyi hx hb (hml.trans hl.1.symm) hown (hts _ hv.1) (hts _ hv.2.1) (hts _ hv.2.2.1) (hts _ hv.2.2.2) hK.1 hP (wsD hj) hS q0 q1 0 0 (c0 := g.2.2.2 0) (c1 := g.2.2.2 0) (n0 := n) (n1 := n) (f := fun j => Int32.ofInt (M q0 j)) (g := fun j => Int32.ofInt (M q1 j)) (ty := .int) (wsOf_at h0) (wsOf_at h1) rfl rfl rfl z0 z0 zn (by rw [en, e0]; omega) (by rw [en, e0]; omega) (fun _ _ => rfl) (by simp only [rmD]; omega) (by rw [catS_ok]; have := nfw; simp only [rmD]; omega) hd (fun H1 locs1 hP1 hD1 hS1 => ?_)
  refine k p e s m args below meth c H1 locs1 ls C hl (P_upd hP1 h1 (fun _ h => ?_) (fun j h => mset_n h)) hS1
  refine arr_at h ?_
  rw [en, e0]
  simp only [e_a]
  rw [if_neg (by decide)]
  rw [vp_cell_i, vp_cell_i, mset_s]
  apply arrV_congr
  intro j hj2
  simp only [va_cpy]
  rw [if_pos (by omega)]
  simp
end RW4
