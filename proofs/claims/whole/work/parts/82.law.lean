def R_law : String := "LoadYardLaw"
def lw_P (b : Addr) (xs : List Int32) (args : Array Value) (s : State) : Prop := args = #[.ref b] ∧ s.IntsAt b xs ∧ xs.length ≤ 2560 ∧ (Jvm.Cond.and given_1 narrow_1).before args s = true
def lw_Q (_ : Array Value) (s : State) (o : Outcome) (t : State) : Prop := o = .returned (some (.int 1)) ∧ Framed s o t [] 600000 7302250
def lw_Z (below : List Frame) (a : Array Value) (s : State) : State → Prop := fun t => ∃ o, t.status = .running ∧ Ended t below o ∧ lw_Q a s o t
/-- the law's own end, with 1 on the stack, nothing written that was there before, its room as the claim has it -/
theorem lw_ret {p : Program} {l : Launch} {e : Env} {s : State} {m : MethodId} {below : List Frame} {meth : Method} {c : Code} {b : Nat} (hx : p.tables.exec = Jvm.exec) (hb : c.code = code) (hr : meth.sig.returnType = ret) (hlocks : meth.locks = false) {pc : Nat} {H : Heap} {ls : Array Slot} (hdg : decode code pc = .ok (.ireturn, 1)) : W p l e room_1 s m #[Value.ref b] below meth c H [] 600000 7302250 (lw_Z below #[Value.ref b] s) (F0 m pc ls [.int 1]) := by
  intro T hT X
  obtain ⟨fs, hret, hrun, hended, hW, hframe⟩ := X.leave (v := some (.int 1)) (hlocks := hlocks) (fun h => by rw [hr] at h; cases h)
  have hmeth' : T.vm.method? m = some meth := X.method'
  refine ⟨T.setFrames fs, ?_, .returned (some (.int 1)), hrun, hended, rfl, ⟨_, rfl⟩, hW, hframe⟩
  jvm_step X.here [X.here.top, hx, hb, hdg, hmeth', hr, ret, narrow_b1]
  (try refine ⟨rfl, ?_⟩); (try refine ⟨rfl, ?_⟩)
  first | (intro acts; rw [hret _ acts rfl rfl rfl]) | rw [hret _ _ rfl rfl rfl]
  exact Steps.refl _
/-- what holds at the law's entry: the machine, the code, the tables' words (any of lw_tbl by 'hts w (by decide +kernel)'), the script of L ints xs at the cell b, what the Statement gives of the start (any of its parts by flat_of_before) -/
def lw_At (p : Program) (s : State) (m : MethodId) (meth : Method) (c : Code) (b L : Nat) (xs : Nat → Int32) : Prop :=
  p.tables.exec = Jvm.exec ∧ c.code = code ∧ meth.sig.returnType = ret ∧ c.maxLocals = 4 ∧ s.vm.findClass R_law = some m.cls ∧ (∀ w ∈ lw_tbl, w.before #[Value.ref b] s = true) ∧ va_X b L xs s s.heap ∧ b < s.heap.size ∧ meth.locks = false ∧ (Jvm.Cond.and given_1 narrow_1).before #[Value.ref b] s = true
/-! the law -/
theorem and31 (x : Int32) : 0 ≤ (x &&& 31).toInt ∧ (x &&& 31).toInt ≤ 31 := by
  have e : (x &&& 31).toBitVec = x.toBitVec &&& 31#32 := by rw [Int32.toBitVec_and]; rfl
  have h : (x.toBitVec &&& 31#32).toNat ≤ 31 := by
    rw [BitVec.toNat_and]
    exact Nat.and_le_right
  have t : (x &&& 31).toInt = (x.toBitVec &&& 31#32).toInt := by rw [← e]; rfl
  rw [t, BitVec.toInt_eq_toNat_of_lt (by omega)]
  omega
theorem sub5 {L : Nat} (h : L ≤ 2560) : (Int32.ofNat L - 5).toInt = (L : Int) - 5 := by
  rw [Int32.toInt_sub]
  have h1 : (Int32.ofNat L).toInt = L := Int32.toInt_ofNat_of_lt (by omega)
  rw [h1]
  show ((L : Int) - 5).bmod (2 ^ 32) = _
  exact Int.bmod_eq_of_le (by omega) (by omega)
theorem rngI (k : Int32) : -2147483648 ≤ k.toInt ∧ k.toInt ≤ 2147483647 := by
  have h1 := k.le_toInt
  have h2 := k.toInt_lt
  omega
/-- what stands in the law's body: the machine, the script, the two objects apart from each other and from all that was there -/
def CL (p : Program) (s : State) (m : MethodId) (meth : Method) (c : Code) (b L : Nat) (xs : Nat → Int32) (g g' : Gt) : Prop :=
  p.tables.exec = Jvm.exec ∧ c.code = code ∧ meth.sig.returnType = ret ∧ c.maxLocals = 4 ∧ s.vm.findClass RL = some m.cls ∧ (∀ w ∈ gtab, w.before #[Value.ref b] s = true) ∧ va_X b L xs s s.heap ∧ b < s.heap.size ∧ meth.locks = false ∧ K0 g s ∧ g'.1 = g.1 ∧ g'.2.1 = g.2.1 ∧ g'.2.2.2 = g.2.2.2 ∧ injA LyC g ∧ injA LyM g' ∧ (∀ q, ads LyC g q → s.heap.size ≤ q) ∧ (∀ q, ads LyM g' q → s.heap.size ≤ q) ∧ (∀ q, ads LyC g q → ¬ ads LyM g' q)
def LJ (p : Program) (e : Env) (s : State) (m : MethodId) (below : List Frame) (meth : Method) (c : Code) (b : Nat) (g g' : Gt) (pc : Nat) (st : List Value) (i : Nat) (M N : Mem) : Prop :=
  ∀ (H : Heap) (locs : List Loc) (ls : Array Slot), lv_has ls 4 [(0, .ref b), (1, .ref (g.2.2.1 0)), (2, .ref (g'.2.2.1 0)), (3, .int (nI i))] → va_P g.2.1 vwCl (wsOf LyC g M) H → va_P g.2.1 vwCl (wsOf LyM g' N) H → va_S (fun q : Nat => s.heap.size ≤ q) s.heap H locs →
    W p g.1 e room_1 s m #[Value.ref b] below meth c H locs 79 1754 (lw_Z below #[Value.ref b] s) (F0 m pc ls st)
theorem l_call {p : Program} {e : Env} {s : State} {m : MethodId} {args : Array Value} {below : List Frame} {meth : Method} {c : Code} {H : Heap} {locs : List Loc} {ls : Array Slot} {cells slots pc : Nat} {Q : State → Prop} {Ly : List Ent} {g : Gt} {M : Mem} {y' : Mth} {idx n ci : Nat} {fs : List (Nat × Nat)} {C0 : vw_C} {As : List MV} {st rest : List Value} {P2 : Option MV → Mem → Prop} {W2 : va_W}
    (hx : p.tables.exec = Jvm.exec) (hb : c.code = code) (hml : c.maxLocals = 4) (hown : s.vm.findClass RL = some m.cls) (hts : ∀ w ∈ gtab, w.before args s = true) (hK : K0 g s) (hj : injA Ly g) (hA : ∀ q, ads Ly g q → s.heap.size ≤ q) (hW2 : ∀ (k : Nat) (x : Nat × va_E), W2[k]? = some x → ¬ ads Ly g x.1)
    (hd : decode code pc = .ok (.invokevirtual idx, 3)) (hv : VL RL idx y') (hm : My y' n) (hn : As.length = n) (hq : Ly[0]? = some (.inl (ci, fs))) (hc : vwCl[ci]? = some C0) (hc2 : C0.1 = y'.1.cls) (hrest : (rest.map fun v => v.category).sum ≤ 8) (hE : Ex Ly g 15 y' (vr 0 :: As) M P2) (hst : st = (As.map (rv g.2.2.1)).reverse ++ .ref (g.2.2.1 0) :: rest)
    (hl : ls.size = 4) (hP : va_P g.2.1 vwCl (wsOf Ly g M) H) (hP2 : va_P g.2.1 vwCl W2 H) (hS : va_S (fun q : Nat => s.heap.size ≤ q) s.heap H locs)
    (kk : ∀ (r : Option MV) (M' : Mem), P2 r M' → ∀ (H' : Heap) (locs' : List Loc), va_P g.2.1 vwCl (wsOf Ly g M') H' → va_P g.2.1 vwCl W2 H' → va_S (fun q : Nat => s.heap.size ≤ q) s.heap H' locs' → W p g.1 e room_1 s m args below meth c H' locs' cells slots Q (F0 m (pc + 3) ls ((r.map (rv g.2.2.1)).toList ++ rest))) (hcs : cells ≤ 600000 ∧ slots ≤ 7302250) :
    W p g.1 e room_1 s m args below meth c H locs cells slots Q (F0 m pc ls st) := by
  subst hst
  obtain ⟨m1, m2, m3, m4, m5, m6⟩ := hm
  obtain ⟨v1, v2, v3⟩ := hv
  have hT : GoodIn gtab (wsy y') := fun w h => by
    have := good_in (y := y') m1 w h
    rcases List.mem_cons.mp h with rfl | h2
    · exact ⟨m1, this.2⟩
    · exact ⟨h2, this.2⟩
  have cb : CallB room_1 s args RL idx y'.1 y'.2.1 y'.2.2.1 y'.2.2.2 (wsy y') (rmD 15) 0 0 n :=
    callB_of n hts hT rfl rfl rfl (hts _ m2) (hts _ v1) ⟨m3, m4, m5⟩ ⟨by decide, by simp only [rmD, room_1]; omega⟩
  have rc : ∃ cell : Cell, H[g.2.2.1 0]? = some cell ∧ cell.vm.isStatics = false ∧ s.vm.findClass y'.1.cls = some cell.cls := by
    have := va_recv (q := C0) hK.1 hP hc (wsOf_at hq)
    rw [hc2] at this
    exact this
  intro T hT' X
  obtain ⟨v, st₀, t, T', L, h0, X', hL, e1, e2, ⟨r, M', hv', hp, hw, hz, hk⟩, stp⟩ := (va_runV (C := y'.1.cls) (b := g.2.2.1 0) (As := As.map (rv g.2.2.1)) (rest := rest) ⟨hx, hb, hml, hown, hts⟩ (hE hj) ⟨cb, hts _ v2, hts _ v3⟩ ⟨blind, rc, fun U hU hW => ⟨by simp [rv], by rw [hU]; exact hP, hK.moved hW⟩⟩ rfl (by rw [List.length_map]; exact hn) hl (by simp) (lv_room hrest) hd ⟨hcs.1, hcs.2⟩ : va_Run p g.1 e room_1 s m args below meth c H locs cells slots 0 0 (F0 m pc ls ((As.map (rv g.2.2.1)).reverse ++ .ref (g.2.2.1 0) :: rest)) rest (Qo Ly g P2 ((vr 0 :: As).map (rv g.2.2.1)).toArray) (ads Ly g)) T hT' X
  cases hv'
  rw [h0] at hz hk
  have hP' : va_P g.2.1 vwCl (wsOf Ly g M') T'.heap := by rw [e1]; exact hw.1
  have hP2' : va_P g.2.1 vwCl W2 T'.heap := hP2.kept (fun k x hx => by rw [e1]; exact hk x.1 ((hP2 k x hx).lt) (hW2 k x hx))
  have hS' : va_S (fun q : Nat => s.heap.size ≤ q) s.heap T'.heap (locs ++ L) := ⟨Nat.le_trans hS.1 (by rw [e1]; exact hz), fun q h1 h2 => by rw [e1, hk q (Nat.lt_of_lt_of_le h1 hS.1) (fun a => h2 (hA q a))]; exact hS.2.1 q h1 h2, fun q hq => by
      rcases List.mem_append.mp hq with h | h
      · exact hS.2.2 q h
      · exact hA _ (hL q h)⟩
  obtain ⟨t2, a1, b1⟩ := kk r M' hp T'.heap (locs ++ L) hP' hP2' hS' T' rfl X'
  exact ⟨t2, stp t2 a1, b1⟩
theorem wsOf_ads {Ly : List Ent} {g : Gt} {M : Mem} {k : Nat} {x : Nat × va_E} (h : (wsOf Ly g M)[k]? = some x) : ads Ly g x.1 := by
  obtain ⟨e, a, rfl⟩ := wsOf_inv h
  exact ads_at a
section LW
variable {p : Program} {e : Env} {s : State} {m : MethodId} {below : List Frame} {meth : Method} {c : Code} {b L : Nat} {xs : Nat → Int32} {g g' : Gt} {pc i : Nat} {st : List Value} {M N : Mem}
theorem l_ald1 (C : CL p s m meth c b L xs g g') (hd : decode code pc = .ok (.aload_n 1, 1)) (kk : LJ p e s m below meth c b g g' (pc + 1) (.ref (g.2.2.1 0) :: st) i M N) : LJ p e s m below meth c b g g' pc st i M N :=
  fun H locs ls hl hP hP2 hS => lv_aload_n C.1 C.2.1 hd rfl (lv_at hl 1 rfl) (kk H locs ls hl hP hP2 hS)
theorem l_ald2 (C : CL p s m meth c b L xs g g') (hd : decode code pc = .ok (.aload_n 2, 1)) (kk : LJ p e s m below meth c b g g' (pc + 1) (.ref (g'.2.2.1 0) :: st) i M N) : LJ p e s m below meth c b g g' pc st i M N :=
  fun H locs ls hl hP hP2 hS => lv_aload_n C.1 C.2.1 hd rfl (lv_at hl 2 rfl) (kk H locs ls hl hP hP2 hS)
theorem l_arg {k : Nat} (C : CL p s m meth c b L xs g g') (hL : L ≤ 2560) (hi : i + k < L) (hd : decode code pc = .ok (.aload_n 0, 1) ∧ decode code (pc + 1) = .ok (.iload_n 3, 1) ∧ decode code (pc + 2) = .ok (.iconst k, 1) ∧ decode code (pc + 3) = .ok (.iadd, 1) ∧ decode code (pc + 4) = .ok (.iaload, 1)) (hk : Int32.ofInt ((k : Nat) : Int) = nI k)
    (kk : LJ p e s m below meth c b g g' (pc + 5) (.int (Int32.ofInt (xs (i + k)).toInt) :: st) i M N) : LJ p e s m below meth c b g g' pc st i M N := by
  intro H locs ls hl hP hP2 hS
  obtain ⟨hx, hb, hr, hml, hown, hts, hX, hbl, hlocks, hK, _⟩ := id C
  have hbA : ¬ (fun q : Nat => s.heap.size ≤ q) b := Nat.not_le.mpr hbl
  refine lv_aload_n hx hb hd.1 rfl (lv_at hl 0 rfl) ?_
  refine lv_iload_n hx hb hd.2.1 rfl (lv_at hl 3 rfl) ?_
  refine lv_iconst (v := nI k) hx hb hd.2.2.1 hk ?_
  refine lv_iadd hx hb hd.2.2.2.1 ?_
  rw [nI_add]
  refine va_sld hx hb hX hbl hbA hS (vp_in_nI hi (by omega)) hd.2.2.2.2 ?_
  have := kk H locs ls hl hP hP2 hS
  rw [Int32.ofInt_toInt] at this
  rw [nI_clamp (by omega)]
  exact this
theorem l_callC {y' : Mth} {idx n ci : Nat} {fs : List (Nat × Nat)} {C0 : vw_C} {As : List MV} {rest : List Value} {P2 : Option MV → Mem → Prop} (C : CL p s m meth c b L xs g g') (hd : decode code pc = .ok (.invokevirtual idx, 3)) (hv : VL RL idx y') (hm : My y' n) (hn : As.length = n) (hq : LyC[0]? = some (.inl (ci, fs))) (hc : vwCl[ci]? = some C0) (hc2 : C0.1 = y'.1.cls) (hrest : (rest.map fun v => v.category).sum ≤ 8) (hE : Ex LyC g 15 y' (vr 0 :: As) M P2) (hst : st = (As.map (rv g.2.2.1)).reverse ++ .ref (g.2.2.1 0) :: rest)
    (kk : ∀ r M', P2 r M' → LJ p e s m below meth c b g g' (pc + 3) ((r.map (rv g.2.2.1)).toList ++ rest) i M' N) : LJ p e s m below meth c b g g' pc st i M N := by
  intro H locs ls hl hP hP2 hS
  obtain ⟨hx, hb, hr, hml, hown, hts, hX, hbl, hlocks, hK, e1, e2, e3, j1, j2, a1, a2, a3⟩ := id C
  exact l_call hx hb hml hown hts hK j1 a1 (fun k x hx h => a3 _ h (wsOf_ads hx)) hd hv hm hn hq hc hc2 hrest hE hst hl.1 hP hP2 hS (fun r M' hp H' locs' hP hP2 hS => kk r M' hp H' locs' ls hl hP hP2 hS) (by decide)
theorem l_callM {y' : Mth} {idx n ci : Nat} {fs : List (Nat × Nat)} {C0 : vw_C} {As : List MV} {rest : List Value} {P2 : Option MV → Mem → Prop} (C : CL p s m meth c b L xs g g') (hd : decode code pc = .ok (.invokevirtual idx, 3)) (hv : VL RL idx y') (hm : My y' n) (hn : As.length = n) (hq : LyM[0]? = some (.inl (ci, fs))) (hc : vwCl[ci]? = some C0) (hc2 : C0.1 = y'.1.cls) (hrest : (rest.map fun v => v.category).sum ≤ 8) (hE : Ex LyM g' 15 y' (vr 0 :: As) N P2) (hst : st = (As.map (rv g'.2.2.1)).reverse ++ .ref (g'.2.2.1 0) :: rest)
    (kk : ∀ r N', P2 r N' → LJ p e s m below meth c b g g' (pc + 3) ((r.map (rv g'.2.2.1)).toList ++ rest) i M N') : LJ p e s m below meth c b g g' pc st i M N := by
  intro H locs ls hl hP hP2 hS
  obtain ⟨hx, hb, hr, hml, hown, hts, hX, hbl, hlocks, hK, e1, e2, e3, j1, j2, a1, a2, a3⟩ := id C
  have hK' : K0 g' s := by
    unfold K0 tysOf at *
    rw [e2, e3]
    exact hK
  have := l_call (g := g') (W2 := wsOf LyC g M) (cells := 79) (slots := 1754) (Q := lw_Z below #[Value.ref b] s) (e := e) (below := below) (meth := meth) hx hb hml hown hts hK' j2 a2 (fun k x hx h => a3 _ (wsOf_ads hx) h) hd hv hm hn hq hc hc2 hrest hE hst hl.1 (by rw [e2]; exact hP2) (by rw [e2]; exact hP) hS (fun r N' hp H' locs' hP hP2 hS => by
    rw [e2] at hP hP2
    rw [e1]
    exact kk r N' hp H' locs' ls hl hP2 hP hS) (by decide)
  rw [e1] at this
  exact this
theorem l_eq {tgt : Nat} {off : Int} {x : Int32} (C : CL p s m meth c b L xs g g') (hd : decode code pc = .ok (.if_icmp .eq off, 3)) (ht : (pc : Int) + off = (tgt : Int)) (kk : LJ p e s m below meth c b g g' tgt [] i M N) : LJ p e s m below meth c b g g' pc [.int x, .int x] i M N :=
  fun H locs ls hl hP hP2 hS => lv_icmp_eq C.1 C.2.1 hd ht (fun _ => kk H locs ls hl hP hP2 hS) (fun q => absurd rfl q)
end LW
