/-! a small machine over the kit's: places for addresses, whole numbers for ints -/
abbrev MV : Type := Int ⊕ (Int ⊕ Nat)
abbrev vi (z : Int) : MV := Sum.inl z
abbrev vl (z : Int) : MV := Sum.inr (Sum.inl z)
abbrev vr (k : Nat) : MV := Sum.inr (Sum.inr k)
abbrev Mem : Type := Nat → Int → Int
abbrev Mth : Type := MethodName × ByteArray × Nat × Option FieldType
abbrev Ent : Type := (Nat × List (Nat × Nat)) ⊕ (Nat × Nat)
abbrev Gt : Type := Launch × va_G × (Nat → Nat) × (Nat → ClassId)
def rv (ad : Nat → Nat) (v : MV) : Value := match v with
  | .inl z => .int (Int32.ofInt z)
  | .inr (.inl z) => .long (Int64.ofInt z)
  | .inr (.inr k) => .ref (ad k)
def fset (f : Int → Int) (i v : Int) : Int → Int := fun j => if j = i then v else f j
def mset (M : Mem) (k : Nat) (f : Int → Int) : Mem := fun k' => if k' = k then f else M k'
theorem fset_s (f : Int → Int) (i v : Int) : fset f i v i = v := by simp [fset]
theorem fset_n {f : Int → Int} {i j v : Int} (h : j ≠ i) : fset f i v j = f j := by simp [fset, h]
theorem mset_s (M : Mem) (k : Nat) (f : Int → Int) : mset M k f k = f := by simp [mset]
theorem mset_n {M : Mem} {k j : Nat} {f : Int → Int} (h : j ≠ k) : mset M k f j = M j := by simp [mset, h]
theorem mset_eq {M : Mem} {k : Nat} {f : Int → Int} (h : M k = f) : mset M k f = M := by
  funext j
  by_cases hj : j = k
  · subst hj; rw [mset_s, h]
  · rw [mset_n hj]
theorem mset_mset (M : Mem) (k : Nat) (f h : Int → Int) : mset (mset M k f) k h = mset M k h := by
  funext j
  by_cases hj : j = k
  · subst hj; rw [mset_s, mset_s]
  · rw [mset_n hj, mset_n hj, mset_n hj]
theorem fset_fset (f : Int → Int) (i v w : Int) : fset (fset f i v) i w = fset f i w := by
  funext j
  by_cases hj : j = i
  · subst hj; rw [fset_s, fset_s]
  · rw [fset_n hj, fset_n hj, fset_n hj]
def e_f (g : Gt) (M : Mem) (k : Nat) (i : Nat) (f : Nat × Nat) : Value :=
  if f.1 = 3 then .ref (g.2.2.1 f.2) else if f.1 = 2 then .long (Int64.ofInt (M k i)) else .int (Int32.ofInt (M k i))
def e_a (M : Mem) (k : Nat) (t n : Nat) : vp_A :=
  (n, if t = 2 then .inr (.inl (fun j => Int64.ofInt (M k j))) else .inl (fun j => Int32.ofInt (M k j)))
def e_c (g : Gt) (M : Mem) (k : Nat) (e : Ent) : va_E := match e with
  | .inl q => .inr (q.1, q.2.mapIdx (fun i f => e_f g M k i f))
  | .inr q => .inl (g.2.2.2 q.1, e_a M k q.1 q.2)
def wsOf (Ly : List Ent) (g : Gt) (M : Mem) : va_W := Ly.mapIdx (fun k e => (g.2.2.1 k, e_c g M k e))
theorem wsOf_at {Ly : List Ent} {g : Gt} {M : Mem} {k : Nat} {e : Ent} (h : Ly[k]? = some e) : (wsOf Ly g M)[k]? = some (g.2.2.1 k, e_c g M k e) := by
  simp [wsOf, List.getElem?_mapIdx, h]
theorem wsOf_inv {Ly : List Ent} {g : Gt} {M : Mem} {k : Nat} {q : Nat × va_E} (h : (wsOf Ly g M)[k]? = some q) : ∃ e, Ly[k]? = some e ∧ q = (g.2.2.1 k, e_c g M k e) := by
  simp only [wsOf, List.getElem?_mapIdx, Option.map_eq_some_iff] at h
  obtain ⟨e, h1, h2⟩ := h
  exact ⟨e, h1, h2.symm⟩
def tysOf (g : Gt) : List (ClassId × FieldType) := [(g.2.2.2 0, .int), (g.2.2.2 1, .boolean), (g.2.2.2 2, .long)]
def ads (Ly : List Ent) (g : Gt) : Nat → Prop := fun q => ∃ k, k < Ly.length ∧ q = g.2.2.1 k
def smallL (Ly : List Ent) : Prop := ∀ (k t n : Nat), Ly[k]? = some (Sum.inr (t, n)) → n < 2147483648 ∧ t < 3
def injA (Ly : List Ent) (g : Gt) : Prop := (∀ i j, i < Ly.length → j < Ly.length → g.2.2.1 i = g.2.2.1 j → i = j) ∧ smallL Ly
def K0 (g : Gt) (U : State) : Prop := va_K g.2.1 vwCl (tysOf g) U ∧ ∀ w ∈ nestW, va_Nw w U
def Wd (Ly : List Ent) (g : Gt) (M : Mem) (U : State) : Prop := va_P g.2.1 vwCl (wsOf Ly g M) U.heap ∧ K0 g U
def Qo (Ly : List Ent) (g : Gt) (Post : Option MV → Mem → Prop) : Array Value → State → Outcome → State → Prop := fun _ st oc t => ∃ (r : Option MV) (M' : Mem), oc = .returned (r.map (rv g.2.2.1)) ∧ Post r M' ∧ Wd Ly g M' t ∧ va_F (ads Ly g) st t
def rmD (d : Nat) : Room := { frames := d, cells := 0, slots := 0, locals := 40 * d }
def wsy (y : Mth) : List Cond := Cond.code y.1 y.2.1 y.2.2.1 y.2.2.2 :: gtab
def Ex (Ly : List Ent) (g : Gt) (d : Nat) (y : Mth) (as : List MV) (M : Mem) (Post : Option MV → Mem → Prop) : Prop :=
  injA Ly g → Met g.1 y.1 (wsy y) (rmD d) (va_Pc (as.map (rv g.2.2.1)) (fun U => Wd Ly g M U)) (Qo Ly g Post) 0 0 (ads Ly g)
def lvO (ad : Nat → Nat) (nL : Nat) (lv : List (Option MV)) (ls : Array Slot) : Prop := ls.size = nL ∧ lv_wf ls ∧ ∀ (j : Nat) (w : MV), lv[j]? = some (some w) → ls[j]? = some (Slot.val (rv ad w))
def Cx (Ly : List Ent) (g : Gt) (y : Mth) (p : Program) (s : State) (m : MethodId) (args : Array Value) (meth : Method) (c : Code) : Prop :=
  p.tables.exec = Jvm.exec ∧ c.code = y.2.1 ∧ meth.sig.returnType = y.2.2.2 ∧ c.maxLocals = y.2.2.1 ∧ s.vm.findClass y.1.cls = some m.cls ∧ (∀ w ∈ gtab, w.before args s = true) ∧ meth.locks = false ∧ K0 g s ∧ injA Ly g
/-- from this place of the method, with these locals, operands and memory, it comes to its end with Post -/
def R (Ly : List Ent) (g : Gt) (y : Mth) (d pc : Nat) (lv : List (Option MV)) (st : List MV) (M : Mem) (Post : Option MV → Mem → Prop) : Prop :=
  ∀ (p : Program) (e : Env) (s : State) (m : MethodId) (args : Array Value) (below : List Frame) (meth : Method) (c : Code) (H : Heap) (locs : List Loc) (ls : Array Slot),
    Cx Ly g y p s m args meth c → lvO g.2.2.1 y.2.2.1 lv ls → va_P g.2.1 vwCl (wsOf Ly g M) H → va_S (ads Ly g) s.heap H locs →
    W p g.1 e (rmD d) s m args below meth c H locs 0 0 (MQ below (Qo Ly g Post) args s 0 0 (ads Ly g)) (F0 m pc ls (st.map (rv g.2.2.1)))
/-- the instruction at a place, and where the next one begins -/
def At (y : Mth) (pc nx len : Nat) (i : Instr) : Prop := decode y.2.1 pc = .ok (i, len) ∧ nx = pc + len
def Jt (y : Mth) (pc nx tgt : Nat) (i : Int → Instr) : Prop := ∃ off : Int, decode y.2.1 pc = .ok (i off, 3) ∧ nx = pc + 3 ∧ (pc : Int) + off = (tgt : Int)
/-! the world's parts -/
theorem ads_at {Ly : List Ent} {g : Gt} {k : Nat} {e : Ent} (h : Ly[k]? = some e) : ads Ly g (g.2.2.1 k) := ⟨k, (List.getElem?_eq_some_iff.mp h).1, rfl⟩
theorem wsD {Ly : List Ent} {g : Gt} {M : Mem} (hi : injA Ly g) : va_D (ads Ly g) (wsOf Ly g M) := by
  refine ⟨fun i j a b h1 h2 h3 => ?_, fun k q h => ?_⟩
  · obtain ⟨e1, a1, rfl⟩ := wsOf_inv h1
    obtain ⟨e2, a2, rfl⟩ := wsOf_inv h2
    exact hi.1 i j (List.getElem?_eq_some_iff.mp a1).1 (List.getElem?_eq_some_iff.mp a2).1 h3
  · obtain ⟨e1, a1, rfl⟩ := wsOf_inv h
    exact ads_at a1
theorem e_c_same {g : Gt} {M M' : Mem} {k : Nat} (h : M' k = M k) (e : Ent) : e_c g M' k e = e_c g M k e := by
  cases e with
  | inl q => simp only [e_c, e_f, h]
  | inr q => simp only [e_c, e_a, h]
theorem P_upd {Ly : List Ent} {g : Gt} {M M' : Mem} {k : Nat} {e : Ent} {e' : va_E} {D : va_G} {cl : List vw_C} {H : Heap} (hP : va_P D cl ((wsOf Ly g M).set k (g.2.2.1 k, e')) H) (hk : Ly[k]? = some e) (he : va_P D cl ((wsOf Ly g M).set k (g.2.2.1 k, e')) H → va_at D cl (g.2.2.1 k, e') H → va_at D cl (g.2.2.1 k, e_c g M' k e) H) (ho : ∀ j, j ≠ k → M' j = M j) : va_P D cl (wsOf Ly g M') H := by
  intro j q hj
  obtain ⟨e2, a2, rfl⟩ := wsOf_inv hj
  by_cases hjk : j = k
  · subst hjk
    rw [hk] at a2; cases a2
    refine he hP (hP j _ ?_)
    rw [List.getElem?_set_self]
    simp only [wsOf, List.length_mapIdx]
    exact (List.getElem?_eq_some_iff.mp hk).1
  · rw [e_c_same (ho j hjk)]
    refine hP j _ ?_
    rw [List.getElem?_set_ne (Ne.symm hjk)]
    exact wsOf_at a2
theorem K0.moved {g : Gt} {u U : State} (hW : u.WarmedH U.vm) (h : K0 g u) : K0 g U := by
  refine ⟨va_K.moved hW.alike h.1, fun w hw => ?_⟩
  have h1 := h.2 w hw
  have h2 := (List.mem_filter.mp hw).2
  cases w <;> first | exact va_Nw.warmM hW h1 | (simp [isNest] at h2; done)
theorem K0.same {g : Gt} {u U : State} (hv : u.vm = U.vm) (h : K0 g u) : K0 g U := by
  refine ⟨va_K.moved (by rw [hv]; exact Vm.Alike.refl _) h.1, fun w hw => ?_⟩
  have h1 := h.2 w hw
  have h2 := (List.mem_filter.mp hw).2
  cases w <;> first | exact va_Nw.same rfl hv h1 | (simp [isNest] at h2; done)
theorem good_in {y y' : Mth} (h : Cond.code y'.1 y'.2.1 y'.2.2.1 y'.2.2.2 ∈ gtab) : GoodIn (wsy y) (wsy y') := by
  intro w hw
  have h1 : w ∈ gtab := by
    rcases List.mem_cons.mp hw with rfl | h2
    · exact h
    · exact h2
  exact ⟨List.mem_cons_of_mem _ h1, good_of_word (List.mem_filter.mp h1).2⟩
/-! numbers -/
theorem cI_rng {z : Int} (h : -2147483648 ≤ z ∧ z ≤ 2147483647) : (Int32.ofInt z).toInt = z := by
  rw [Int32.toInt_ofInt]
  exact Int.bmod_eq_of_le (by simp [Int32.size]; omega) (by simp [Int32.size]; omega)
theorem cI_lt {x y : Int} (hx : -2147483648 ≤ x ∧ x ≤ 2147483647) (hy : -2147483648 ≤ y ∧ y ≤ 2147483647) : Int32.ofInt x < Int32.ofInt y ↔ x < y := by
  rw [Int32.lt_iff_toInt_lt, cI_rng hx, cI_rng hy]
theorem cI_le {x y : Int} (hx : -2147483648 ≤ x ∧ x ≤ 2147483647) (hy : -2147483648 ≤ y ∧ y ≤ 2147483647) : Int32.ofInt x ≤ Int32.ofInt y ↔ x ≤ y := by
  rw [Int32.le_iff_toInt_le, cI_rng hx, cI_rng hy]
theorem cI_eq {x y : Int} (hx : -2147483648 ≤ x ∧ x ≤ 2147483647) (hy : -2147483648 ≤ y ∧ y ≤ 2147483647) : Int32.ofInt x = Int32.ofInt y ↔ x = y := by
  rw [← Int32.toInt_inj, cI_rng hx, cI_rng hy]
theorem cI_0 : (0 : Int32) = Int32.ofInt 0 := by decide
theorem cI_nat {z : Int} (h0 : 0 ≤ z) : Int32.ofInt z = nI z.toNat := by
  obtain ⟨n, rfl⟩ : ∃ n : Nat, z = n := ⟨z.toNat, by omega⟩
  simp [nI, Int32.ofInt_eq_ofNat]
theorem cI_ix {z : Int} {n : Nat} (h : 0 ≤ z ∧ z < n) (hn : n < 2147483648) : vp_in (Int32.ofInt z) n ∧ (Int32.ofInt z).toNatClampNeg = z.toNat := by
  have hr : (Int32.ofInt z).toInt = z := cI_rng (by omega)
  refine ⟨vp_in_iff.mpr (by rw [hr]; exact h), ?_⟩
  show (Int32.ofInt z).toInt.toNat = z.toNat
  rw [hr]
theorem cL_rng {z : Int} (h : -9223372036854775808 ≤ z ∧ z ≤ 9223372036854775807) : (Int64.ofInt z).toInt = z := by
  rw [Int64.toInt_ofInt]
  exact Int.bmod_eq_of_le (by simp [Int64.size]; omega) (by simp [Int64.size]; omega)
theorem cL_nat {z : Int} (h0 : 0 ≤ z) : Int64.ofInt z = lN z.toNat := by
  obtain ⟨n, rfl⟩ : ∃ n : Nat, z = n := ⟨z.toNat, by omega⟩
  simp [lN, Int64.ofInt_eq_ofNat]
