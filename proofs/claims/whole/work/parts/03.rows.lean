/-! a row an instruction -/
section RW1
variable {Ly : List Ent} {g : Gt} {y : Mth} {d pc nx : Nat} {lv : List (Option MV)} {st : List MV} {M : Mem} {Post : Option MV → Mem → Prop}
theorem Ex.of {as : List MV} {lv0 : List (Option MV)} (hy : plainName y.1.cls = true) (h0 : R Ly g y d 0 lv0 [] M Post)
    (hl : ∀ ad : Nat → Nat, (lg_sl (as.map (rv ad))).length ≤ y.2.2.1 ∧ ∀ (j : Nat) (w : MV), lv0[j]? = some (some w) → (j, rv ad w) ∈ lv_args 0 (as.map (rv ad))) : Ex Ly g d y as M Post := by
  intro hi
  refine Met.ofW (cc := y.2.1) (maxL := y.2.2.1) (ret := y.2.2.2) hy rfl ?_
  intro p e s m args below meth c s₁ B hml hv
  obtain ⟨rfl, hP, hK⟩ := hv
  have hts := atoms_spec (ws := wsy y) B.pre
  have hown : s.vm.findClass y.1.cls = some m.cls := findClass_of_methodNamed B.named
  have hE := lv_entry (as.map (rv g.2.2.1)) (hl g.2.2.1).1
  rw [lg_entry_eq]
  refine h0 p e s m _ below meth c s.heap [] _ ⟨B.exec, B.bytes, B.returns, hml, hown, fun w h => hts w (List.mem_cons_of_mem _ h), B.notSynchronized, hK, hi⟩ ⟨hE.1, hE.2.1, fun j w hj => hE.2.2 _ ((hl g.2.2.1).2 j w hj)⟩ hP va_S.rf
theorem r_con {n : Int} (hd : At y pc nx 1 (.iconst n)) (k : R Ly g y d nx lv (vi n :: st) M Post) : R Ly g y d pc lv st M Post := by
  intro p e s m args below meth c H locs ls C hl hP hS
  obtain ⟨hd, rfl⟩ := hd
  exact lv_iconst C.1 C.2.1 hd rfl (k p e s m args below meth c H locs ls C hl hP hS)
theorem r_bip {n : Int} (hd : At y pc nx 2 (.bipush n)) (hn : -128 ≤ n ∧ n ≤ 127) (k : R Ly g y d nx lv (vi n :: st) M Post) : R Ly g y d pc lv st M Post := by
  intro p e s m args below meth c H locs ls C hl hP hS
  obtain ⟨hd, rfl⟩ := hd
  refine lv_bipush C.1 C.2.1 hd ?_ (k p e s m args below meth c H locs ls C hl hP hS)
  rw [← Int32.toInt_inj, cI_rng (by omega), Int8.toInt_toInt32, Int8.toInt_ofInt]
  exact Int.bmod_eq_of_le (by simp [Int8.size]; omega) (by simp [Int8.size]; omega)
theorem r_sip {n : Int} (hd : At y pc nx 3 (.sipush n)) (hn : -32768 ≤ n ∧ n ≤ 32767) (k : R Ly g y d nx lv (vi n :: st) M Post) : R Ly g y d pc lv st M Post := by
  intro p e s m args below meth c H locs ls C hl hP hS
  obtain ⟨hd, rfl⟩ := hd
  refine lv_sipush C.1 C.2.1 hd ?_ (k p e s m args below meth c H locs ls C hl hP hS)
  rw [← Int32.toInt_inj, cI_rng (by omega), Int16.toInt_toInt32, Int16.toInt_ofInt]
  exact Int.bmod_eq_of_le (by simp [Int16.size]; omega) (by simp [Int16.size]; omega)
theorem r_lcon {n : Fin 2} {z : Int} (hd : At y pc nx 1 (.lconst n)) (hz : ((n : Nat) : Int) = z) (k : R Ly g y d nx lv (vl z :: st) M Post) : R Ly g y d pc lv st M Post := by
  intro p e s m args below meth c H locs ls C hl hP hS
  obtain ⟨hd, rfl⟩ := hd
  subst hz
  exact lv_lconst C.1 C.2.1 hd (by rw [Int64.ofInt_eq_ofNat]) (k p e s m args below meth c H locs ls C hl hP hS)
theorem r_ldc {i : Nat} {n : Int} {v : Int32} (hd : At y pc nx 2 (.ldc i)) (hw : Cond.constant y.1.cls i v ∈ gtab) (hv : v = Int32.ofInt n) (k : R Ly g y d nx lv (vi n :: st) M Post) : R Ly g y d pc lv st M Post := by
  intro p e s m args below meth c H locs ls C hl hP hS
  obtain ⟨hd, rfl⟩ := hd
  subst hv
  exact lv_ldc C.1 C.2.1 C.2.2.2.2.1 (C.2.2.2.2.2.1 _ hw) hd (k p e s m args below meth c H locs ls C hl hP hS)
theorem r_ldc2 {i : Nat} {n : Int} {v : Int64} (hd : At y pc nx 3 (.ldc2_w i)) (hw : Cond.constantLong y.1.cls i v ∈ gtab) (hv : v = Int64.ofInt n) (k : R Ly g y d nx lv (vl n :: st) M Post) : R Ly g y d pc lv st M Post := by
  intro p e s m args below meth c H locs ls C hl hP hS
  obtain ⟨hd, rfl⟩ := hd
  subst hv
  exact lv_ldc2 C.1 C.2.1 C.2.2.2.2.1 (C.2.2.2.2.2.1 _ hw) hd (k p e s m args below meth c H locs ls C hl hP hS)
theorem r_ldn {i : Fin 4} {z : Int} (hd : At y pc nx 1 (.iload_n i)) (hv : lv[(i : Nat)]? = some (some (vi z))) (k : R Ly g y d nx lv (vi z :: st) M Post) : R Ly g y d pc lv st M Post := by
  intro p e s m args below meth c H locs ls C hl hP hS
  obtain ⟨hd, rfl⟩ := hd
  exact lv_iload_n C.1 C.2.1 hd rfl (hl.2.2 _ _ hv) (k p e s m args below meth c H locs ls C hl hP hS)
theorem r_ld {i : Nat} {z : Int} (hd : At y pc nx 2 (.iload i)) (hv : lv[i]? = some (some (vi z))) (k : R Ly g y d nx lv (vi z :: st) M Post) : R Ly g y d pc lv st M Post := by
  intro p e s m args below meth c H locs ls C hl hP hS
  obtain ⟨hd, rfl⟩ := hd
  exact lv_iload C.1 C.2.1 hd (hl.2.2 _ _ hv) (k p e s m args below meth c H locs ls C hl hP hS)
theorem r_lldn {i : Fin 4} {z : Int} (hd : At y pc nx 1 (.lload_n i)) (hv : lv[(i : Nat)]? = some (some (vl z))) (k : R Ly g y d nx lv (vl z :: st) M Post) : R Ly g y d pc lv st M Post := by
  intro p e s m args below meth c H locs ls C hl hP hS
  obtain ⟨hd, rfl⟩ := hd
  exact lv_lload_n C.1 C.2.1 hd rfl (hl.2.2 _ _ hv) (k p e s m args below meth c H locs ls C hl hP hS)
theorem r_lld {i : Nat} {z : Int} (hd : At y pc nx 2 (.lload i)) (hv : lv[i]? = some (some (vl z))) (k : R Ly g y d nx lv (vl z :: st) M Post) : R Ly g y d pc lv st M Post := by
  intro p e s m args below meth c H locs ls C hl hP hS
  obtain ⟨hd, rfl⟩ := hd
  exact lv_lload C.1 C.2.1 hd (hl.2.2 _ _ hv) (k p e s m args below meth c H locs ls C hl hP hS)
theorem r_aldn {i : Fin 4} {z : Nat} (hd : At y pc nx 1 (.aload_n i)) (hv : lv[(i : Nat)]? = some (some (vr z))) (k : R Ly g y d nx lv (vr z :: st) M Post) : R Ly g y d pc lv st M Post := by
  intro p e s m args below meth c H locs ls C hl hP hS
  obtain ⟨hd, rfl⟩ := hd
  exact lv_aload_n C.1 C.2.1 hd rfl (hl.2.2 _ _ hv) (k p e s m args below meth c H locs ls C hl hP hS)
/-! stores into locals -/
def okS (lv : List (Option MV)) (i : Nat) : Bool := match i with
  | 0 => true
  | i + 1 => match lv[i]? with
    | some (some (.inr (.inl _))) => false
    | _ => true
def toL (ad : Nat → Nat) (lv : List (Option MV)) : List (Nat × Value) := lv.zipIdx.filterMap (fun q => q.1.map (fun w => (q.2, rv ad w)))
theorem toL_mem {ad : Nat → Nat} {lv : List (Option MV)} {j : Nat} {w : MV} (h : lv[j]? = some (some w)) : (j, rv ad w) ∈ toL ad lv := by
  refine List.mem_filterMap.mpr ⟨(some w, j), ?_, rfl⟩
  rw [List.mem_zipIdx_iff_getElem?]
  exact h
theorem lvO.has {ad : Nat → Nat} {nL : Nat} {lv : List (Option MV)} {ls : Array Slot} (h : lvO ad nL lv ls) : lv_has ls nL (toL ad lv) := by
  refine ⟨h.1, h.2.1, fun q hq => ?_⟩
  obtain ⟨⟨o, j⟩, h1, h2⟩ := List.mem_filterMap.mp hq
  rw [List.mem_zipIdx_iff_getElem?] at h1
  cases o with
  | none => cases h2
  | some w => cases h2; exact h.2.2 j w h1
theorem lvO.set1 {ad : Nat → Nat} {nL i : Nat} {lv : List (Option MV)} {ls : Array Slot} {w : MV} (ho : okS lv i = true) (h : lv_has ls nL ((i, rv ad w) :: (toL ad lv).filter (fun q => !(q.1 == i) && !(q.1 + 1 == i && q.2.category == 2)))) : lvO ad nL (lv.set i (some w)) ls := by
  refine ⟨h.1, h.2.1, fun j u hj => ?_⟩
  by_cases hji : j = i
  · subst hji
    have hlt := (List.getElem?_eq_some_iff.mp hj).1
    rw [List.length_set] at hlt
    rw [List.getElem?_set_self hlt] at hj
    cases hj
    exact h.2.2 _ List.mem_cons_self
  · rw [List.getElem?_set_ne (Ne.symm hji)] at hj
    refine h.2.2 (j, rv ad u) (List.mem_cons_of_mem _ (List.mem_filter.mpr ⟨toL_mem hj, ?_⟩))
    simp only [Bool.and_eq_true, Bool.not_eq_true', beq_eq_false_iff_ne, ne_eq, Bool.and_eq_false_iff]
    refine ⟨hji, ?_⟩
    by_cases hj1 : j + 1 = i
    · refine Or.inr ?_
      subst hj1
      simp only [okS, hj] at ho
      rcases u with z | z | z
      · simp [rv, Value.category]
      · simp at ho
      · simp [rv, Value.category]
    · exact Or.inl hj1
theorem lvO.set2 {ad : Nat → Nat} {nL i : Nat} {lv : List (Option MV)} {ls : Array Slot} {w : MV} (ho : okS lv i = true) (h : lv_has ls nL ((i, rv ad w) :: (toL ad lv).filter (fun q => !(q.1 == i) && (!(q.1 == i + 1) && !(q.1 + 1 == i && q.2.category == 2))))) : lvO ad nL ((lv.set i (some w)).set (i + 1) none) ls := by
  refine ⟨h.1, h.2.1, fun j u hj => ?_⟩
  by_cases hj2 : j = i + 1
  · subst hj2
    have hlt := (List.getElem?_eq_some_iff.mp hj).1
    rw [List.length_set] at hlt
    rw [List.getElem?_set_self hlt] at hj
    cases hj
  rw [List.getElem?_set_ne (Ne.symm hj2)] at hj
  by_cases hji : j = i
  · subst hji
    have hlt := (List.getElem?_eq_some_iff.mp hj).1
    rw [List.length_set] at hlt
    rw [List.getElem?_set_self hlt] at hj
    cases hj
    exact h.2.2 _ List.mem_cons_self
  · rw [List.getElem?_set_ne (Ne.symm hji)] at hj
    refine h.2.2 (j, rv ad u) (List.mem_cons_of_mem _ (List.mem_filter.mpr ⟨toL_mem hj, ?_⟩))
    simp only [Bool.and_eq_true, Bool.not_eq_true', beq_eq_false_iff_ne, ne_eq, Bool.and_eq_false_iff]
    refine ⟨hji, hj2, ?_⟩
    by_cases hj1 : j + 1 = i
    · refine Or.inr ?_
      subst hj1
      simp only [okS, hj] at ho
      rcases u with z | z | z
      · simp [rv, Value.category]
      · simp at ho
      · simp [rv, Value.category]
    · exact Or.inl hj1
theorem r_stn {i : Fin 4} {z : Int} (hd : At y pc nx 1 (.istore_n i)) (hi : (i : Nat) < y.2.2.1) (ho : okS lv i = true) (k : R Ly g y d nx (lv.set i (some (vi z))) st M Post) : R Ly g y d pc lv (vi z :: st) M Post := by
  intro p e s m args below meth c H locs ls C hl hP hS
  obtain ⟨hd, rfl⟩ := hd
  exact lv_istore_n C.1 C.2.1 hd rfl hl.has hi rfl (fun ls' hl' => k p e s m args below meth c H locs ls' C (lvO.set1 ho hl') hP hS)
theorem r_st {i : Nat} {z : Int} (hd : At y pc nx 2 (.istore i)) (hi : i < y.2.2.1) (ho : okS lv i = true) (k : R Ly g y d nx (lv.set i (some (vi z))) st M Post) : R Ly g y d pc lv (vi z :: st) M Post := by
  intro p e s m args below meth c H locs ls C hl hP hS
  obtain ⟨hd, rfl⟩ := hd
  exact lv_istore C.1 C.2.1 hd hl.has hi rfl (fun ls' hl' => k p e s m args below meth c H locs ls' C (lvO.set1 ho hl') hP hS)
theorem r_astn {i : Fin 4} {z : Nat} (hd : At y pc nx 1 (.astore_n i)) (hi : (i : Nat) < y.2.2.1) (ho : okS lv i = true) (k : R Ly g y d nx (lv.set i (some (vr z))) st M Post) : R Ly g y d pc lv (vr z :: st) M Post := by
  intro p e s m args below meth c H locs ls C hl hP hS
  obtain ⟨hd, rfl⟩ := hd
  exact lv_astore_n C.1 C.2.1 hd rfl hl.has hi rfl (fun ls' hl' => k p e s m args below meth c H locs ls' C (lvO.set1 ho hl') hP hS)
theorem r_lstn {i : Fin 4} {z : Int} (hd : At y pc nx 1 (.lstore_n i)) (hi : (i : Nat) + 1 < y.2.2.1) (ho : okS lv i = true) (k : R Ly g y d nx ((lv.set i (some (vl z))).set (i + 1) none) st M Post) : R Ly g y d pc lv (vl z :: st) M Post := by
  intro p e s m args below meth c H locs ls C hl hP hS
  obtain ⟨hd, rfl⟩ := hd
  exact lv_lstore_n C.1 C.2.1 hd rfl hl.has hi rfl (fun ls' hl' => k p e s m args below meth c H locs ls' C (lvO.set2 ho hl') hP hS)
theorem r_lst {i : Nat} {z : Int} (hd : At y pc nx 2 (.lstore i)) (hi : i + 1 < y.2.2.1) (ho : okS lv i = true) (k : R Ly g y d nx ((lv.set i (some (vl z))).set (i + 1) none) st M Post) : R Ly g y d pc lv (vl z :: st) M Post := by
  intro p e s m args below meth c H locs ls C hl hP hS
  obtain ⟨hd, rfl⟩ := hd
  exact lv_lstore C.1 C.2.1 hd hl.has hi rfl (fun ls' hl' => k p e s m args below meth c H locs ls' C (lvO.set2 ho hl') hP hS)
theorem r_inc {i : Nat} {n z : Int} (hd : At y pc nx 3 (.iinc i n)) (hv : lv[i]? = some (some (vi z))) (hi : i < y.2.2.1) (ho : okS lv i = true) (k : R Ly g y d nx (lv.set i (some (vi (z + n)))) st M Post) : R Ly g y d pc lv st M Post := by
  intro p e s m args below meth c H locs ls C hl hP hS
  obtain ⟨hd, rfl⟩ := hd
  obtain ⟨q, hq⟩ := List.getElem?_of_mem (toL_mem (ad := g.2.2.1) hv)
  exact lv_iinc C.1 C.2.1 hd hl.has hq (v := Int32.ofInt (z + n)) (by rw [Int32.ofInt_add]) hi rfl (fun ls' hl' => k p e s m args below meth c H locs ls' C (lvO.set1 (w := vi (z + n)) ho hl') hP hS)
/-! arithmetic -/
theorem r_add {a b : Int} (hd : At y pc nx 1 .iadd) (k : R Ly g y d nx lv (vi (a + b) :: st) M Post) : R Ly g y d pc lv (vi b :: vi a :: st) M Post := by
  intro p e s m args below meth c H locs ls C hl hP hS
  obtain ⟨hd, rfl⟩ := hd
  refine lv_iadd C.1 C.2.1 hd ?_
  rw [← Int32.ofInt_add]
  exact k p e s m args below meth c H locs ls C hl hP hS
theorem r_sub {a b : Int} (hd : At y pc nx 1 .isub) (k : R Ly g y d nx lv (vi (a - b) :: st) M Post) : R Ly g y d pc lv (vi b :: vi a :: st) M Post := by
  intro p e s m args below meth c H locs ls C hl hP hS
  obtain ⟨hd, rfl⟩ := hd
  refine lv_isub C.1 C.2.1 hd ?_
  rw [← Int32.ofInt_sub]
  exact k p e s m args below meth c H locs ls C hl hP hS
theorem r_mul {a b : Int} (hd : At y pc nx 1 .imul) (k : R Ly g y d nx lv (vi (a * b) :: st) M Post) : R Ly g y d pc lv (vi b :: vi a :: st) M Post := by
  intro p e s m args below meth c H locs ls C hl hP hS
  obtain ⟨hd, rfl⟩ := hd
  refine lv_imul C.1 C.2.1 hd ?_
  rw [← Int32.ofInt_mul]
  exact k p e s m args below meth c H locs ls C hl hP hS
theorem r_neg {a : Int} (hd : At y pc nx 1 .ineg) (k : R Ly g y d nx lv (vi (-a) :: st) M Post) : R Ly g y d pc lv (vi a :: st) M Post := by
  intro p e s m args below meth c H locs ls C hl hP hS
  obtain ⟨hd, rfl⟩ := hd
  refine lv_ineg C.1 C.2.1 hd ?_
  rw [← Int32.ofInt_neg]
  exact k p e s m args below meth c H locs ls C hl hP hS
theorem r_div {a b : Int} (hd : At y pc nx 1 .idiv) (ha : 0 ≤ a ∧ a ≤ 2147483647) (hb : 0 < b ∧ b ≤ 2147483647) (k : R Ly g y d nx lv (vi (a / b) :: st) M Post) : R Ly g y d pc lv (vi b :: vi a :: st) M Post := by
  intro p e s m args below meth c H locs ls C hl hP hS
  obtain ⟨hd, rfl⟩ := hd
  have e1 : Int32.ofInt a / Int32.ofInt b = Int32.ofInt (a / b) := by
    obtain ⟨n, rfl⟩ : ∃ n : Nat, a = n := ⟨a.toNat, by omega⟩
    obtain ⟨q, rfl⟩ : ∃ q : Nat, b = q := ⟨b.toNat, by omega⟩
    rw [← Int.natCast_ediv, cI_nat (Int.natCast_nonneg n), cI_nat (Int.natCast_nonneg q), cI_nat (Int.natCast_nonneg _)]
    exact pk_div (a := n) (d := q) (by omega) (by omega) (by omega)
  refine lv_idiv C.1 C.2.1 hd ?_ ?_
  · rw [cI_0, cI_eq (by omega) (by omega)]; omega
  · rw [e1]
    exact k p e s m args below meth c H locs ls C hl hP hS
theorem r_rem {a b : Int} (hd : At y pc nx 1 .irem) (ha : 0 ≤ a ∧ a ≤ 2147483647) (hb : 0 < b ∧ b ≤ 2147483647) (k : R Ly g y d nx lv (vi (a % b) :: st) M Post) : R Ly g y d pc lv (vi b :: vi a :: st) M Post := by
  intro p e s m args below meth c H locs ls C hl hP hS
  obtain ⟨hd, rfl⟩ := hd
  have e1 : Int32.ofInt a - Int32.ofInt a / Int32.ofInt b * Int32.ofInt b = Int32.ofInt (a % b) := by
    obtain ⟨n, rfl⟩ : ∃ n : Nat, a = n := ⟨a.toNat, by omega⟩
    obtain ⟨q, rfl⟩ : ∃ q : Nat, b = q := ⟨b.toNat, by omega⟩
    rw [← Int.natCast_emod, cI_nat (Int.natCast_nonneg n), cI_nat (Int.natCast_nonneg q), cI_nat (Int.natCast_nonneg _)]
    exact pk_rem (a := n) (d := q) (by omega) (by omega) (by omega)
  refine lv_irem C.1 C.2.1 hd ?_ ?_
  · rw [cI_0, cI_eq (by omega) (by omega)]; omega
  · rw [e1]
    exact k p e s m args below meth c H locs ls C hl hP hS
theorem c_shl1 : ∀ n, n < 31 → (1 : Int32) <<< (Int32.ofInt ((n : Nat) : Int) &&& 31) = Int32.ofInt (((2 ^ n : Nat)) : Int) := by decide +kernel
theorem c_sh : ∀ n, n < 32 → ((Int32.ofInt ((n : Nat) : Int) &&& 31).toBitVec.smod 32).toNat = n := by decide +kernel
theorem r_shl {b : Int} (hd : At y pc nx 1 .ishl) (hb : 0 ≤ b ∧ b ≤ 30) (k : R Ly g y d nx lv (vi (2 ^ b.toNat) :: st) M Post) : R Ly g y d pc lv (vi b :: vi 1 :: st) M Post := by
  intro p e s m args below meth c H locs ls C hl hP hS
  obtain ⟨hd, rfl⟩ := hd
  refine lv_ishl C.1 C.2.1 hd ?_
  obtain ⟨n, rfl⟩ : ∃ n : Nat, b = n := ⟨b.toNat, by omega⟩
  have e1 := c_shl1 n (by omega)
  rw [show (Int32.ofInt 1) = 1 by decide, e1]
  have e2 : (((2 ^ n : Nat)) : Int) = 2 ^ (n : Int).toNat := by simp
  rw [e2]
  exact k p e s m args below meth c H locs ls C hl hP hS
theorem r_shr {a b : Int} (hd : At y pc nx 1 .ishr) (ha : 0 ≤ a ∧ a ≤ 2147483647) (hb : 0 ≤ b ∧ b ≤ 31) (k : R Ly g y d nx lv (vi (a / 2 ^ b.toNat) :: st) M Post) : R Ly g y d pc lv (vi b :: vi a :: st) M Post := by
  intro p e s m args below meth c H locs ls C hl hP hS
  obtain ⟨hd, rfl⟩ := hd
  refine lv_ishr C.1 C.2.1 hd ?_
  obtain ⟨n, rfl⟩ : ∃ n : Nat, b = n := ⟨b.toNat, by omega⟩
  obtain ⟨x, rfl⟩ : ∃ x : Nat, a = x := ⟨a.toNat, by omega⟩
  have e1 := pk_shrN (n := x) (by omega) _ n (c_sh n (by omega))
  rw [cI_nat (z := (x : Int)) (by omega), Int.toNat_natCast, e1]
  have e2 : nI (x / 2 ^ n) = Int32.ofInt ((x : Int) / 2 ^ (n : Int).toNat) := by
    have : ((x : Int) / 2 ^ (n : Int).toNat) = ((x / 2 ^ n : Nat) : Int) := by simp
    rw [this, cI_nat (Int.natCast_nonneg _), Int.toNat_natCast]
  rw [e2]
  exact k p e s m args below meth c H locs ls C hl hP hS
theorem r_and1 {a : Int} (hd : At y pc nx 1 .iand) (ha : 0 ≤ a ∧ a ≤ 2147483647) (k : R Ly g y d nx lv (vi (a % 2) :: st) M Post) : R Ly g y d pc lv (vi 1 :: vi a :: st) M Post := by
  intro p e s m args below meth c H locs ls C hl hP hS
  obtain ⟨hd, rfl⟩ := hd
  refine lv_iand C.1 C.2.1 hd ?_
  obtain ⟨x, rfl⟩ : ∃ x : Nat, a = x := ⟨a.toNat, by omega⟩
  have e1 := pk_andN (n := x) (m := 1) (by omega) 1 (by decide)
  rw [cI_nat (z := (x : Int)) (by omega), Int.toNat_natCast, show (Int32.ofInt 1) = 1 by decide, e1]
  have e2 : nI (x % 2 ^ 1) = Int32.ofInt ((x : Int) % 2) := by
    have : ((x : Int) % 2) = ((x % 2 ^ 1 : Nat) : Int) := by simp
    rw [this, cI_nat (Int.natCast_nonneg _), Int.toNat_natCast]
  rw [e2]
  exact k p e s m args below meth c H locs ls C hl hP hS
theorem c_or (a b : Nat) : nI a ||| nI b = nI (a ||| b) := by
  apply Int32.toBitVec_inj.mp
  simp only [Int32.toBitVec_or, nI, Int32.toBitVec_ofNat']
  apply BitVec.eq_of_toNat_eq
  simp [Nat.or_mod_two_pow]
theorem r_or {a b : Int} (hd : At y pc nx 1 .ior) (ha : 0 ≤ a) (hb : 0 ≤ b) (k : R Ly g y d nx lv (vi ((a.toNat ||| b.toNat : Nat) : Int) :: st) M Post) : R Ly g y d pc lv (vi b :: vi a :: st) M Post := by
  intro p e s m args below meth c H locs ls C hl hP hS
  obtain ⟨hd, rfl⟩ := hd
  refine lv_ior C.1 C.2.1 hd ?_
  rw [cI_nat ha, cI_nat hb, c_or]
  have e2 : nI (a.toNat ||| b.toNat) = Int32.ofInt ((a.toNat ||| b.toNat : Nat) : Int) := by
    rw [cI_nat (by omega), Int.toNat_natCast]
  rw [e2]
  exact k p e s m args below meth c H locs ls C hl hP hS
end RW1
