/-! making the objects -/
def Cb (g : Gt) (y : Mth) (p : Program) (s : State) (m : MethodId) (args : Array Value) (meth : Method) (c : Code) : Prop :=
  p.tables.exec = Jvm.exec ∧ c.code = y.2.1 ∧ meth.sig.returnType = y.2.2.2 ∧ c.maxLocals = y.2.2.1 ∧ s.vm.findClass y.1.cls = some m.cls ∧ (∀ w ∈ gtab, w.before args s = true) ∧ meth.locks = false ∧ K0 g s ∧ meth.name = "<init>"
def QB (g : Gt) (A : Nat → Prop) (Post : va_W → Prop) : Array Value → State → Outcome → State → Prop := va_Qv Post (fun ws' t => va_P g.2.1 vwCl ws' t.heap ∧ va_D A ws' ∧ K0 g t) A
/-- from this place of a constructor, with these locals, operands and cells, so many made, it comes to its end with Post -/
def RB (g : Gt) (y : Mth) (rm : Room) (pc : Nat) (lv : List (Nat × Value)) (st : List Value) (ws : va_W) (cells slots : Nat) (Post : va_W → Prop) : Prop :=
  ∀ (p : Program) (e : Env) (s : State) (m : MethodId) (args : Array Value) (below : List Frame) (meth : Method) (c : Code) (H : Heap) (locs : List Loc) (ls : Array Slot) (A : Nat → Prop),
    Cb g y p s m args meth c → lv_has ls y.2.2.1 lv → va_P g.2.1 vwCl ws H → va_D A ws → va_S A s.heap H locs → (∀ q, s.heap.size ≤ q → A q) →
    W p g.1 e rm s m args below meth c H locs cells slots (MQ below (QB g A Post) args s rm.cells rm.slots A) (F0 m pc ls st)
def Cn (g : Gt) (y : Mth) (rm : Room) (ci : Nat) (fs : List Value) (Post : Nat → va_W → Prop) : Prop :=
  ∀ h0 sz : Nat, Met g.1 y.1 (wsy y) rm (va_Pc [.ref h0] (fun U => U.heap.size = sz ∧ va_P g.2.1 vwCl [(h0, .inr (ci, fs))] U.heap ∧ K0 g U)) (QB g (va_A [(h0, .inr (ci, fs))] sz) (Post h0)) rm.cells rm.slots (va_A [(h0, .inr (ci, fs))] sz)
def FPc (own : String) (idx ci k : Nat) (ty : FieldType) (fin : Bool) : Prop := ∃ (C : String) (T : u_T) (N : Nat) (tys : Nat → FieldType), vwCl[ci]? = some (C, T, N) ∧ k < N ∧ (∀ w ∈ u_ws C T N, w ∈ gtab) ∧ Cond.fieldLink own idx (T k).1 (T k).2.1 (T k).2.2.1 ∈ gtab ∧
  (∀ k, k < N → parseFieldDescriptor (T k).2.2.1 = some (tys k)) ∧ (∀ a, a < N → ∀ b, b < N → a ≠ b → (T a).2.1 ≠ (T b).2.1) ∧ (T k).2.2.2 = fin ∧ (T k).1 = own ∧ parseFieldDescriptor (T k).2.2.1 = some ty
def Nw (own : String) (idx ci : Nat) (fs : List Value) : Prop := ∃ (C : String) (T : u_T) (N : Nat) (tys : Nat → FieldType), vwCl[ci]? = some (C, T, N) ∧ fs.length = N ∧ (∀ w ∈ u_ws C T N, w ∈ gtab) ∧ (∀ k, k < N → parseFieldDescriptor (T k).2.2.1 = some (tys k)) ∧ Cond.classLink own idx C ∈ gtab ∧ Cond.instantiable C N ∈ gtab ∧ Cond.initialized C ∈ gtab ∧ ∀ j, j < N → defaultValue (tys j) = vp_V fs j
theorem RA_uniq {U : State} {c1 c2 : ClassId} {t : Nat} {ty : FieldType} {g : Gt} (ht : (tysOf g)[t]? = some (c1, ty)) (h1 : va_RA U c1 ty) (h2 : va_RA U c2 ty) : c1 = c2 := by
  have e : ty = .int ∨ ty = .boolean ∨ ty = .long := by
    match t, ht with
    | 0, ht => cases ht; exact Or.inl rfl
    | 1, ht => cases ht; exact Or.inr (Or.inl rfl)
    | 2, ht => cases ht; exact Or.inr (Or.inr rfl)
    | t + 3, ht => simp [tysOf] at ht
  rcases e with rfl | rfl | rfl
  · exact Option.some.inj ((show U.vm.findClass _ = some c1 from h1).symm.trans (show U.vm.findClass _ = some c2 from h2))
  · exact Option.some.inj ((show U.vm.findClass _ = some c1 from h1).symm.trans (show U.vm.findClass _ = some c2 from h2))
  · exact Option.some.inj ((show U.vm.findClass _ = some c1 from h1).symm.trans (show U.vm.findClass _ = some c2 from h2))
section BR
variable {g : Gt} {y : Mth} {rm : Room} {pc nx : Nat} {lv : List (Nat × Value)} {st : List Value} {ws : va_W} {cells slots : Nat} {Post : va_W → Prop}
theorem Cn.in {ci : Nat} {fs : List Value} {Po : Nat → va_W → Prop} (hy : plainName y.1.cls = true) (hn : y.1.name = "<init>") (hL : 1 ≤ y.2.2.1) (h0 : ∀ h, RB g y rm 0 [(0, .ref h)] [] [(h, .inr (ci, fs))] 0 0 (Po h)) : Cn g y rm ci fs Po := by
  intro h sz
  refine Met.ofW (cc := y.2.1) (maxL := y.2.2.1) (ret := y.2.2.2) hy rfl ?_
  intro p e s m args below meth c s₁ B hml hv
  obtain ⟨rfl, hsz, hP, hK⟩ := hv
  subst hsz
  have hts := atoms_spec (ws := wsy y) B.pre
  have hown : s.vm.findClass y.1.cls = some m.cls := findClass_of_methodNamed B.named
  have hin : meth.name = "<init>" := by rw [(name_of_methodNamed B.named B.method).1]; exact hn
  have hE := lv_entry ([.ref h] : List Value) (n := y.2.2.1) (by show 1 ≤ _; exact hL)
  rw [lg_entry_eq]
  have hD : va_D (fun _ => True) [(h, (.inr (ci, fs) : va_E))] := ⟨fun i j a b h1 h2 _ => by
    have := (List.getElem?_eq_some_iff.mp h1).1
    have := (List.getElem?_eq_some_iff.mp h2).1
    simp at *
    omega, fun _ _ _ => trivial⟩
  exact h0 h p e s m _ below meth c s.heap [] _ _ ⟨B.exec, B.bytes, B.returns, hml, hown, fun w h => hts w (List.mem_cons_of_mem _ h), B.notSynchronized, hK, hin⟩ hE hP (hD.self (sz := s.heap.size)) va_S.rf (fun q hq => Or.inr hq)
theorem b_ald {k : Fin 4} {i j a : Nat} (hd : At y pc nx 1 (.aload_n k)) (hi : (k : Nat) = i) (hl : lv[j]? = some (i, .ref a)) (kk : RB g y rm nx lv (.ref a :: st) ws cells slots Post) : RB g y rm pc lv st ws cells slots Post := by
  intro p e s m args below meth c H locs ls A C h1 hP hD hS hA
  obtain ⟨hd, rfl⟩ := hd
  exact lv_aload_n C.1 C.2.1 hd hi (lv_at h1 j hl) (kk p e s m args below meth c H locs ls A C h1 hP hD hS hA)
theorem b_con {n : Int} {v : Int32} (hd : At y pc nx 1 (.iconst n)) (hv : Int32.ofInt n = v) (kk : RB g y rm nx lv (.int v :: st) ws cells slots Post) : RB g y rm pc lv st ws cells slots Post := by
  intro p e s m args below meth c H locs ls A C h1 hP hD hS hA
  obtain ⟨hd, rfl⟩ := hd
  exact lv_iconst C.1 C.2.1 hd hv (kk p e s m args below meth c H locs ls A C h1 hP hD hS hA)
theorem b_bip {n : Int} {v : Int32} (hd : At y pc nx 2 (.bipush n)) (hv : (Int8.ofInt n).toInt32 = v) (kk : RB g y rm nx lv (.int v :: st) ws cells slots Post) : RB g y rm pc lv st ws cells slots Post := by
  intro p e s m args below meth c H locs ls A C h1 hP hD hS hA
  obtain ⟨hd, rfl⟩ := hd
  exact lv_bipush C.1 C.2.1 hd hv (kk p e s m args below meth c H locs ls A C h1 hP hD hS hA)
theorem b_sip {n : Int} {v : Int32} (hd : At y pc nx 3 (.sipush n)) (hv : (Int16.ofInt n).toInt32 = v) (kk : RB g y rm nx lv (.int v :: st) ws cells slots Post) : RB g y rm pc lv st ws cells slots Post := by
  intro p e s m args below meth c H locs ls A C h1 hP hD hS hA
  obtain ⟨hd, rfl⟩ := hd
  exact lv_sipush C.1 C.2.1 hd hv (kk p e s m args below meth c H locs ls A C h1 hP hD hS hA)
theorem b_ldc {i : Nat} {v : Int32} (hd : At y pc nx 2 (.ldc i)) (hw : Cond.constant y.1.cls i v ∈ gtab) (kk : RB g y rm nx lv (.int v :: st) ws cells slots Post) : RB g y rm pc lv st ws cells slots Post := by
  intro p e s m args below meth c H locs ls A C h1 hP hD hS hA
  obtain ⟨hd, rfl⟩ := hd
  exact lv_ldc C.1 C.2.1 C.2.2.2.2.1 (C.2.2.2.2.2.1 _ hw) hd (kk p e s m args below meth c H locs ls A C h1 hP hD hS hA)
theorem b_dup {a : Nat} (hd : At y pc nx 1 .dup) (kk : RB g y rm nx lv (.ref a :: .ref a :: st) ws cells slots Post) : RB g y rm pc lv (.ref a :: st) ws cells slots Post := by
  intro p e s m args below meth c H locs ls A C h1 hP hD hS hA
  obtain ⟨hd, rfl⟩ := hd
  exact lv_dup C.1 C.2.1 hd rfl (kk p e s m args below meth c H locs ls A C h1 hP hD hS hA)
theorem b_obj {idx a : Nat} (hd : At y pc nx 3 (.invokespecial idx)) (h1w : Cond.methodLink y.1.cls idx Lib.objectInit ∈ gtab) (h2w : Cond.instanceMethod Lib.objectInit ∈ gtab) (h3w : Cond.code Lib.objectInit ⟨#[0xb1]⟩ 1 none ∈ gtab) (hf : 1 ≤ rm.frames) (hlo : 12 ≤ rm.locals) (kk : RB g y rm nx lv [] ws cells slots Post) : RB g y rm pc lv [.ref a] ws cells slots Post := by
  intro p e s m args below meth c H locs ls A C h1 hP hD hS hA
  obtain ⟨hd, rfl⟩ := hd
  refine W.objInit C.1 C.2.1 C.2.2.2.2.1 (C.2.2.2.2.2.1 _ h1w) (C.2.2.2.2.2.1 _ h2w) (C.2.2.2.2.2.1 _ h3w) rfl (by rw [C.2.2.2.1]; exact h1.1) rfl hd hf hlo ?_
  exact W.eq (g2 := F0 m (pc + 3) ls []) rfl (kk p e s m args below meth c H locs ls A C h1 hP hD hS hA)
theorem b_put {idx k ci a : Nat} {fs : List Value} {v : Value} {ty : FieldType} {fin : Bool} (hd : At y pc nx 3 (.putfield idx)) (hf : FPc y.1.cls idx ci k ty fin) (he : ws[0]? = some (a, .inr (ci, fs))) (hn : narrow ty v = v) (hfit : fits ty v = true) (hl : k < fs.length) (kk : RB g y rm nx lv st (ws.set 0 (a, .inr (ci, fs.set k v))) cells slots Post) : RB g y rm pc lv (v :: .ref a :: st) ws cells slots Post := by
  intro p e s m args below meth c H locs ls A C h1 hP hD hS hA
  obtain ⟨hd, rfl⟩ := hd
  obtain ⟨hx, hb, hr', hml, hown, hts, hlocks, hK, hin⟩ := id C
  obtain ⟨Cn, T, N, tys, a1, a2, a3, a4, a5, a6, a7, a8, a9⟩ := hf
  cases fin
  · exact va_put (D := g.2.1) (ci := ci) (C := Cn) (T := T) (N := N) hx hb hts a3 tys a5 a6 hown hK.1 hP hD hS 0 he a1 k a2 (hts _ a4) (fun _ h => h) a7 a9 hn hfit hl hd (fun H1 locs1 hP hD hS => kk p e s m args below meth c H1 locs1 ls A C h1 hP hD hS hA)
  · exact va_putF (D := g.2.1) (ci := ci) (C := Cn) (T := T) (N := N) hx hb hts a3 tys a5 a6 hown hK.1 hP hD hS 0 he a1 k a2 (hts _ a4) (fun _ h => h) a7 hin a8 a9 hn hfit hl hd (fun H1 locs1 hP hD hS => kk p e s m args below meth c H1 locs1 ls A C h1 hP hD hS hA)
theorem b_newa {atype : ArrayType} {ty : FieldType} {t N : Nat} {n : Int32} {a0 : vp_A} (hd : At y pc nx 2 (.newarray atype)) (hw : Cond.arrayClass (Op.newarray.typeOf atype) ∈ gtab) (hty : Op.newarray.typeOf atype = ty) (ht : (tysOf g)[t]? = some (g.2.2.2 t, ty)) (ha : ∀ cA : ClassId, vp_cell cA a0 = arrV cA N (fun _ => defaultValue ty)) (hn : ¬ n < 0) (hN : n.toNatClampNeg = N) (hb : N * componentBytes ty ≤ 536870912) (hc : cells + 1 ≤ rm.cells) (hs : slots + N ≤ rm.slots)
    (kk : ∀ q, RB g y rm nx lv (.ref q :: st) (ws ++ [(q, .inl (g.2.2.2 t, a0))]) (cells + 1) (slots + N) Post) : RB g y rm pc lv (.int n :: st) ws cells slots Post := by
  intro p e s m args below meth c H locs ls A C h1 hP hD hS hA
  obtain ⟨hd, rfl⟩ := hd
  obtain ⟨hx, hb', hr', hml, hown, hts, hlocks, hK, hin⟩ := id C
  refine va_newa (D := g.2.1) hx hb' (hts _ hw) hty hK.1 hP hD hS hA ha hn hN hb hc hs hd (fun q cA H1 hK1 hP hD hS => ?_)
  have e1 : g.2.2.2 t = cA := RA_uniq ht (hK.1.2 t _ ht).2 (hK1.2 (tysOf g).length (cA, ty) (by simp)).2
  rw [← e1] at hP hD
  exact kk q p e s m args below meth c H1 locs ls A C h1 hP hD hS hA
theorem b_new {idx ci : Nat} {fs : List Value} (hd : At y pc nx 3 (.new idx)) (hf : Nw y.1.cls idx ci fs) (hc : cells + 1 ≤ rm.cells) (hs : slots + fs.length ≤ rm.slots) (kk : ∀ q, RB g y rm nx lv (.ref q :: st) (ws ++ [(q, .inr (ci, fs))]) (cells + 1) (slots + fs.length) Post) : RB g y rm pc lv st ws cells slots Post := by
  intro p e s m args below meth c H locs ls A C h1 hP hD hS hA
  obtain ⟨hd, rfl⟩ := hd
  obtain ⟨hx, hb', hr', hml, hown, hts, hlocks, hK, hin⟩ := id C
  obtain ⟨Cn, T, N, tys, a1, rfl, a3, a4, a5, a6, a7, a8⟩ := hf
  exact va_new (D := g.2.1) (ci := ci) (fs := fs) (C := Cn) (T := T) (N := fs.length) hx hb' hts a3 tys a4 hown (hts _ a5) (hts _ a6) (hts _ a7) hK.1 hP hD hS hA a1 a8 hc hs hd (fun q H1 hP hD hS => kk q p e s m args below meth c H1 locs ls A C h1 hP hD hS hA)
theorem W1_join {A0 : Nat → Prop} {D : va_G} {cl : List vw_C} {W1 w1 : va_W} {x : Nat × va_E} {H H1 : Heap} (hP : va_P D cl (W1 ++ [x]) H) (hD : va_D A0 (W1 ++ [x])) (hk : ∀ q : Nat, q < H.size → ¬ va_A [x] H.size q → H1[q]? = H[q]?) (hF : ∀ q, va_A [x] H.size q → A0 q) (hP1 : va_P D cl w1 H1) (hD1 : va_D (va_A [x] H.size) w1) : va_P D cl (W1 ++ w1) H1 ∧ va_D A0 (W1 ++ w1) := by
  have nd : ∀ (n : Nat) (k : Nat), va_nd ((List.range' k n)) = true := fun n => by
    induction n with
    | zero => intro k; rfl
    | succ n ih =>
      intro k
      rw [List.range'_succ]
      simp only [va_nd, Bool.and_eq_true, decide_eq_true_eq]
      exact ⟨fun h => by have := List.mem_range'_1.mp h; omega, ih _⟩
  refine va_join hP hD [W1.length] (List.range' 0 W1.length) (wc := [x]) (wr := W1) (by simp) ?_ (nd _ _) (fun i hi => by have := List.mem_range'_1.mp hi; simp; omega) hk hF hP1 hD1
  refine List.ext_getElem? (fun i => ?_)
  rw [List.getElem?_map, List.getElem?_map]
  by_cases h : i < W1.length
  · rw [List.getElem?_range' h, List.getElem?_eq_getElem h]
    simp [List.getElem?_append_left h, h]
  · rw [List.getElem?_eq_none (by simp; omega), List.getElem?_eq_none (by omega)]
    rfl
theorem W1_free {A0 : Nat → Prop} {W1 : va_W} {x : Nat × va_E} {H0 H : Heap} {locs : List Loc} (hD : va_D A0 (W1 ++ [x])) (hS : va_S A0 H0 H locs) (hA : ∀ q, H0.size ≤ q → A0 q) : ∀ q, va_A [x] H.size q → A0 q :=
  va_free (wc := [x]) hD hS hA [W1.length] (by simp)
theorem pre_B {s : State} {H : Heap} {g : Gt} {ci q : Nat} {fs : List Value} {W1 : va_W} (hK : K0 g s) (hP : va_P g.2.1 vwCl (W1 ++ [(q, .inr (ci, fs))]) H) : PreS s H (va_Pc [.ref q] (fun U => U.heap.size = H.size ∧ va_P g.2.1 vwCl [(q, .inr (ci, fs))] U.heap ∧ K0 g U)) [.ref q] := by
  refine ⟨fun a U gf mk h => ⟨h.1, h.2.1, h.2.2.1, K0.same (u := U) (U := U.calling gf mk a) rfl h.2.2.2⟩, fun U hU hW => ⟨rfl, by rw [hU], ?_, hK.moved hW⟩⟩
  rw [hU]
  intro k x hx
  match k, hx with
  | 0, hx => exact hP W1.length x (by rw [List.getElem?_append_right (Nat.le_refl _), Nat.sub_self]; exact hx)
  | k + 1, hx => simp at hx
/-- what a call of another constructor wants -/
def Mi (y : Mth) : Prop := Cond.code y.1 y.2.1 y.2.2.1 none ∈ gtab ∧ Cond.initialized y.1.cls ∈ gtab ∧ Cond.instanceMethod y.1 ∈ gtab ∧ y.1.name = "<init>" ∧ y.2.2.2 = none ∧ y.1.cls ≠ "java/lang/invoke/MethodHandle" ∧ y.1.cls ≠ "java/lang/invoke/VarHandle" ∧ (parseMethodDescriptor y.1.desc).map (fun d => d.parameters.length) = some 0 ∧ y.2.2.1 ≤ 21
theorem wsy_in {y y' : Mth} (h : Mi y') : GoodIn gtab (wsy y') := fun w hw => by
  have m1 : Cond.code y'.1 y'.2.1 y'.2.2.1 y'.2.2.2 ∈ gtab := by rw [h.2.2.2.2.1]; exact h.1
  have := good_in (y := y) m1 w hw
  rcases List.mem_cons.mp hw with rfl | h2
  · exact ⟨m1, this.2⟩
  · exact ⟨h2, this.2⟩
theorem b_callN {y' : Mth} {rm' : Room} {idx q ci : Nat} {fs : List Value} {W1 : va_W} {Po : Nat → va_W → Prop} {host : String} (hd : At y pc nx 3 (.invokespecial idx)) (hE : Cn g y' rm' ci fs Po) (hm : Mi y') (hl : Cond.methodLinkNest y.1.cls idx y'.1 host ∈ nestW) (hst : Nat.ble (st.map fun v => v.category).sum 8 = true) (hf : rm'.frames + 1 ≤ rm.frames) (hlo : 40 + rm'.locals ≤ rm.locals) (hc : cells + rm'.cells ≤ rm.cells) (hs : slots + rm'.slots ≤ rm.slots)
    (kk : ∀ w', Po q w' → RB g y rm nx lv st (W1 ++ w') (cells + rm'.cells) (slots + rm'.slots) Post) : RB g y rm pc lv (.ref q :: st) (W1 ++ [(q, .inr (ci, fs))]) cells slots Post := by
  intro p e s m args below meth c H locs ls A C h1 hP hD hS hA
  obtain ⟨hd, rfl⟩ := hd
  obtain ⟨hx, hb', hr', hml, hown, hts, hlocks, hK, hin⟩ := id C
  have hG := wsy_in (y := y) hm
  obtain ⟨m1, m2, m3, m4, m5, m6, m7, m8, m9⟩ := hm
  have hFc := W1_free hD hS hA
  refine va_callv (va_runIN (As := []) (rest := st) ⟨hx, hb', hml, hown, hts⟩ (hE q H.size) ⟨va_cnB 0 hts hG (by unfold wsy; rw [m5]) rfl rfl (hK.2 _ hl) (hts _ m2) ⟨m6, m7, m8⟩ ⟨hf, by omega⟩, m4, hts _ m3⟩ (pre_B hK hP) rfl rfl h1.1 rfl (lv_room (Nat.le_of_ble_eq_true hst)) hd ⟨hc, hs⟩) hS (fun q _ h => hFc q h) hFc (fun u t H1 locs1 ht hvm hw hB hz1 hk1 hS1 => ?_)
  obtain ⟨hP1, hD1, hK1⟩ := hB
  rw [ht] at hP1
  have J := W1_join hP hD hk1 hFc hP1 hD1
  exact kk u hw p e s m args below meth c H1 locs1 ls A C h1 J.1 J.2 hS1 hA
theorem b_callI {y' : Mth} {rm' : Room} {idx q ci : Nat} {fs : List Value} {W1 : va_W} {Po : Nat → va_W → Prop} (hd : At y pc nx 3 (.invokespecial idx)) (hE : Cn g y' rm' ci fs Po) (hm : Mi y') (hl : Cond.methodLink y.1.cls idx y'.1 ∈ gtab) (hst : Nat.ble (st.map fun v => v.category).sum 8 = true) (hf : rm'.frames + 1 ≤ rm.frames) (hlo : 40 + rm'.locals ≤ rm.locals) (hc : cells + rm'.cells ≤ rm.cells) (hs : slots + rm'.slots ≤ rm.slots)
    (kk : ∀ w', Po q w' → RB g y rm nx lv st (W1 ++ w') (cells + rm'.cells) (slots + rm'.slots) Post) : RB g y rm pc lv (.ref q :: st) (W1 ++ [(q, .inr (ci, fs))]) cells slots Post := by
  intro p e s m args below meth c H locs ls A C h1 hP hD hS hA
  obtain ⟨hd, rfl⟩ := hd
  obtain ⟨hx, hb', hr', hml, hown, hts, hlocks, hK, hin⟩ := id C
  have hG := wsy_in (y := y) hm
  obtain ⟨m1, m2, m3, m4, m5, m6, m7, m8, m9⟩ := hm
  have hFc := W1_free hD hS hA
  refine va_callv (va_runI (As := []) (rest := st) ⟨hx, hb', hml, hown, hts⟩ (hE q H.size) (cwI 0 hts hG (by unfold wsy; rw [m5]) rfl rfl (hts _ m2) (hts _ hl) (hts _ m3) m4 ⟨m6, m7, m8⟩ ⟨hf, by omega⟩) (pre_B hK hP) rfl rfl h1.1 rfl (lv_room (Nat.le_of_ble_eq_true hst)) hd ⟨hc, hs⟩) hS (fun q _ h => hFc q h) hFc (fun u t H1 locs1 ht hvm hw hB hz1 hk1 hS1 => ?_)
  obtain ⟨hP1, hD1, hK1⟩ := hB
  rw [ht] at hP1
  have J := W1_join hP hD hk1 hFc hP1 hD1
  exact kk u hw p e s m args below meth c H1 locs1 ls A C h1 J.1 J.2 hS1 hA
theorem b_ret (hd : At y pc nx 1 .return_) (hr : y.2.2.2 = none) (hc : cells = rm.cells) (hs : slots = rm.slots) (h : Post ws) : RB g y rm pc lv [] ws cells slots Post := by
  intro p e s m args below meth c H locs ls A C h1 hP hD hS hA
  obtain ⟨hd, rfl⟩ := hd
  obtain ⟨hx, hb', hr', hml, hown, hts, hlocks, hK, hin⟩ := id C
  subst hc
  subst hs
  exact W.vret hx hb' (by rw [hr', hr]) (fun t ht hW => ⟨⟨ws, rfl, h, by rw [ht]; exact hP, hD, hK.moved hW⟩, hS.F ht⟩) hS.2.2 hd
end BR
