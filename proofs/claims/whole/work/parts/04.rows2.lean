/-! branches, fields, arrays, calls, ends -/
section RW2
variable {Ly : List Ent} {g : Gt} {y : Mth} {d pc nx : Nat} {lv : List (Option MV)} {st : List MV} {M : Mem} {Post : Option MV → Mem → Prop}
theorem r_goto {tgt : Nat} (hd : Jt y pc nx tgt .goto) (k : R Ly g y d tgt lv st M Post) : R Ly g y d pc lv st M Post := by
  intro p e s m args below meth c H locs ls C hl hP hS
  obtain ⟨off, hd, -, ht⟩ := hd
  exact lv_goto C.1 C.2.1 hd ht (k p e s m args below meth c H locs ls C hl hP hS)
theorem r_ifeq {tgt : Nat} {a : Int} (hd : Jt y pc nx tgt (.ifCond .eq)) (ha : -2147483648 ≤ a ∧ a ≤ 2147483647) (k1 : a = 0 → R Ly g y d tgt lv st M Post) (k2 : a ≠ 0 → R Ly g y d nx lv st M Post) : R Ly g y d pc lv (vi a :: st) M Post := by
  intro p e s m args below meth c H locs ls C hl hP hS
  obtain ⟨off, hd, rfl, ht⟩ := hd
  have h0 : Int32.ofInt a = 0 ↔ a = 0 := by rw [cI_0, cI_eq ha (by omega)]
  exact lv_if_eq C.1 C.2.1 hd ht (fun h => k1 (h0.mp h) p e s m args below meth c H locs ls C hl hP hS) (fun h => k2 (fun q => h (h0.mpr q)) p e s m args below meth c H locs ls C hl hP hS)
theorem r_ifne {tgt : Nat} {a : Int} (hd : Jt y pc nx tgt (.ifCond .ne)) (ha : -2147483648 ≤ a ∧ a ≤ 2147483647) (k1 : a ≠ 0 → R Ly g y d tgt lv st M Post) (k2 : a = 0 → R Ly g y d nx lv st M Post) : R Ly g y d pc lv (vi a :: st) M Post := by
  intro p e s m args below meth c H locs ls C hl hP hS
  obtain ⟨off, hd, rfl, ht⟩ := hd
  have h0 : Int32.ofInt a = 0 ↔ a = 0 := by rw [cI_0, cI_eq ha (by omega)]
  exact lv_if_ne C.1 C.2.1 hd ht (fun h => k1 (fun q => h (h0.mpr q)) p e s m args below meth c H locs ls C hl hP hS) (fun h => k2 (h0.mp h) p e s m args below meth c H locs ls C hl hP hS)
theorem r_iflt {tgt : Nat} {a : Int} (hd : Jt y pc nx tgt (.ifCond .lt)) (ha : -2147483648 ≤ a ∧ a ≤ 2147483647) (k1 : a < 0 → R Ly g y d tgt lv st M Post) (k2 : 0 ≤ a → R Ly g y d nx lv st M Post) : R Ly g y d pc lv (vi a :: st) M Post := by
  intro p e s m args below meth c H locs ls C hl hP hS
  obtain ⟨off, hd, rfl, ht⟩ := hd
  have h0 : Int32.ofInt a < 0 ↔ a < 0 := by rw [cI_0, cI_lt ha (by omega)]
  exact lv_if_lt C.1 C.2.1 hd ht (fun h => k1 (h0.mp h) p e s m args below meth c H locs ls C hl hP hS) (fun h => k2 (Int.not_lt.mp (fun q => h (h0.mpr q))) p e s m args below meth c H locs ls C hl hP hS)
theorem r_ifge {tgt : Nat} {a : Int} (hd : Jt y pc nx tgt (.ifCond .ge)) (ha : -2147483648 ≤ a ∧ a ≤ 2147483647) (k1 : 0 ≤ a → R Ly g y d tgt lv st M Post) (k2 : a < 0 → R Ly g y d nx lv st M Post) : R Ly g y d pc lv (vi a :: st) M Post := by
  intro p e s m args below meth c H locs ls C hl hP hS
  obtain ⟨off, hd, rfl, ht⟩ := hd
  have h0 : (0 : Int32) ≤ Int32.ofInt a ↔ 0 ≤ a := by rw [cI_0, cI_le (by omega) ha]
  exact lv_if_ge C.1 C.2.1 hd ht (fun h => k1 (h0.mp h) p e s m args below meth c H locs ls C hl hP hS) (fun h => k2 (Int.not_le.mp (fun q => h (h0.mpr q))) p e s m args below meth c H locs ls C hl hP hS)
theorem r_ifgt {tgt : Nat} {a : Int} (hd : Jt y pc nx tgt (.ifCond .gt)) (ha : -2147483648 ≤ a ∧ a ≤ 2147483647) (k1 : 0 < a → R Ly g y d tgt lv st M Post) (k2 : a ≤ 0 → R Ly g y d nx lv st M Post) : R Ly g y d pc lv (vi a :: st) M Post := by
  intro p e s m args below meth c H locs ls C hl hP hS
  obtain ⟨off, hd, rfl, ht⟩ := hd
  have h0 : (0 : Int32) < Int32.ofInt a ↔ 0 < a := by rw [cI_0, cI_lt (by omega) ha]
  exact lv_if_gt C.1 C.2.1 hd ht (fun h => k1 (h0.mp h) p e s m args below meth c H locs ls C hl hP hS) (fun h => k2 (Int.not_lt.mp (fun q => h (h0.mpr q))) p e s m args below meth c H locs ls C hl hP hS)
theorem r_ifle {tgt : Nat} {a : Int} (hd : Jt y pc nx tgt (.ifCond .le)) (ha : -2147483648 ≤ a ∧ a ≤ 2147483647) (k1 : a ≤ 0 → R Ly g y d tgt lv st M Post) (k2 : 0 < a → R Ly g y d nx lv st M Post) : R Ly g y d pc lv (vi a :: st) M Post := by
  intro p e s m args below meth c H locs ls C hl hP hS
  obtain ⟨off, hd, rfl, ht⟩ := hd
  have h0 : Int32.ofInt a ≤ 0 ↔ a ≤ 0 := by rw [cI_0, cI_le ha (by omega)]
  exact lv_if_le C.1 C.2.1 hd ht (fun h => k1 (h0.mp h) p e s m args below meth c H locs ls C hl hP hS) (fun h => k2 (Int.not_le.mp (fun q => h (h0.mpr q))) p e s m args below meth c H locs ls C hl hP hS)
theorem r_ceq {tgt : Nat} {a b : Int} (hd : Jt y pc nx tgt (.if_icmp .eq)) (ha : (-2147483648 ≤ a ∧ a ≤ 2147483647) ∧ (-2147483648 ≤ b ∧ b ≤ 2147483647)) (k1 : a = b → R Ly g y d tgt lv st M Post) (k2 : a ≠ b → R Ly g y d nx lv st M Post) : R Ly g y d pc lv (vi b :: vi a :: st) M Post := by
  intro p e s m args below meth c H locs ls C hl hP hS
  obtain ⟨off, hd, rfl, ht⟩ := hd
  have h0 := cI_eq ha.1 ha.2
  exact lv_icmp_eq C.1 C.2.1 hd ht (fun h => k1 (h0.mp h) p e s m args below meth c H locs ls C hl hP hS) (fun h => k2 (fun q => h (h0.mpr q)) p e s m args below meth c H locs ls C hl hP hS)
theorem r_cne {tgt : Nat} {a b : Int} (hd : Jt y pc nx tgt (.if_icmp .ne)) (ha : (-2147483648 ≤ a ∧ a ≤ 2147483647) ∧ (-2147483648 ≤ b ∧ b ≤ 2147483647)) (k1 : a ≠ b → R Ly g y d tgt lv st M Post) (k2 : a = b → R Ly g y d nx lv st M Post) : R Ly g y d pc lv (vi b :: vi a :: st) M Post := by
  intro p e s m args below meth c H locs ls C hl hP hS
  obtain ⟨off, hd, rfl, ht⟩ := hd
  have h0 := cI_eq ha.1 ha.2
  exact lv_icmp_ne C.1 C.2.1 hd ht (fun h => k1 (fun q => h (h0.mpr q)) p e s m args below meth c H locs ls C hl hP hS) (fun h => k2 (h0.mp h) p e s m args below meth c H locs ls C hl hP hS)
theorem r_clt {tgt : Nat} {a b : Int} (hd : Jt y pc nx tgt (.if_icmp .lt)) (ha : (-2147483648 ≤ a ∧ a ≤ 2147483647) ∧ (-2147483648 ≤ b ∧ b ≤ 2147483647)) (k1 : a < b → R Ly g y d tgt lv st M Post) (k2 : b ≤ a → R Ly g y d nx lv st M Post) : R Ly g y d pc lv (vi b :: vi a :: st) M Post := by
  intro p e s m args below meth c H locs ls C hl hP hS
  obtain ⟨off, hd, rfl, ht⟩ := hd
  have h0 := cI_lt ha.1 ha.2
  exact lv_icmp_lt C.1 C.2.1 hd ht (fun h => k1 (h0.mp h) p e s m args below meth c H locs ls C hl hP hS) (fun h => k2 (Int.not_lt.mp (fun q => h (h0.mpr q))) p e s m args below meth c H locs ls C hl hP hS)
theorem r_cge {tgt : Nat} {a b : Int} (hd : Jt y pc nx tgt (.if_icmp .ge)) (ha : (-2147483648 ≤ a ∧ a ≤ 2147483647) ∧ (-2147483648 ≤ b ∧ b ≤ 2147483647)) (k1 : b ≤ a → R Ly g y d tgt lv st M Post) (k2 : a < b → R Ly g y d nx lv st M Post) : R Ly g y d pc lv (vi b :: vi a :: st) M Post := by
  intro p e s m args below meth c H locs ls C hl hP hS
  obtain ⟨off, hd, rfl, ht⟩ := hd
  have h0 := cI_le ha.2 ha.1
  exact lv_icmp_ge C.1 C.2.1 hd ht (fun h => k1 (h0.mp h) p e s m args below meth c H locs ls C hl hP hS) (fun h => k2 (Int.not_le.mp (fun q => h (h0.mpr q))) p e s m args below meth c H locs ls C hl hP hS)
theorem r_cgt {tgt : Nat} {a b : Int} (hd : Jt y pc nx tgt (.if_icmp .gt)) (ha : (-2147483648 ≤ a ∧ a ≤ 2147483647) ∧ (-2147483648 ≤ b ∧ b ≤ 2147483647)) (k1 : b < a → R Ly g y d tgt lv st M Post) (k2 : a ≤ b → R Ly g y d nx lv st M Post) : R Ly g y d pc lv (vi b :: vi a :: st) M Post := by
  intro p e s m args below meth c H locs ls C hl hP hS
  obtain ⟨off, hd, rfl, ht⟩ := hd
  have h0 := cI_lt ha.2 ha.1
  exact lv_icmp_gt C.1 C.2.1 hd ht (fun h => k1 (h0.mp h) p e s m args below meth c H locs ls C hl hP hS) (fun h => k2 (Int.not_lt.mp (fun q => h (h0.mpr q))) p e s m args below meth c H locs ls C hl hP hS)
theorem r_cle {tgt : Nat} {a b : Int} (hd : Jt y pc nx tgt (.if_icmp .le)) (ha : (-2147483648 ≤ a ∧ a ≤ 2147483647) ∧ (-2147483648 ≤ b ∧ b ≤ 2147483647)) (k1 : a ≤ b → R Ly g y d tgt lv st M Post) (k2 : b < a → R Ly g y d nx lv st M Post) : R Ly g y d pc lv (vi b :: vi a :: st) M Post := by
  intro p e s m args below meth c H locs ls C hl hP hS
  obtain ⟨off, hd, rfl, ht⟩ := hd
  have h0 := cI_le ha.1 ha.2
  exact lv_icmp_le C.1 C.2.1 hd ht (fun h => k1 (h0.mp h) p e s m args below meth c H locs ls C hl hP hS) (fun h => k2 (Int.not_le.mp (fun q => h (h0.mpr q))) p e s m args below meth c H locs ls C hl hP hS)
theorem r_tabIn {dflt lo hi off : Int} {offs : Array Int} {len tgt : Nat} {a : Int} (hd : At y pc nx len (.tableswitch dflt lo hi offs)) (ha : -2147483648 ≤ a ∧ a ≤ 2147483647) (h1 : ¬ a < lo) (h2 : ¬ hi < a) (ho : offs[(a - lo).toNat]? = some off) (ht : (pc : Int) + off = (tgt : Int)) (k : R Ly g y d tgt lv st M Post) : R Ly g y d pc lv (vi a :: st) M Post := by
  intro p e s m args below meth c H locs ls C hl hP hS
  obtain ⟨hd, -⟩ := hd
  have h0 := cI_rng ha
  exact lv_tableIn C.1 C.2.1 hd (by rw [h0]; exact h1) (by rw [h0]; exact h2) (by rw [h0]; exact ho) ht (k p e s m args below meth c H locs ls C hl hP hS)
theorem r_tabOut {dflt lo hi : Int} {offs : Array Int} {len tgt : Nat} {a : Int} (hd : At y pc nx len (.tableswitch dflt lo hi offs)) (ha : -2147483648 ≤ a ∧ a ≤ 2147483647) (h1 : a < lo ∨ hi < a) (ht : (pc : Int) + dflt = (tgt : Int)) (k : R Ly g y d tgt lv st M Post) : R Ly g y d pc lv (vi a :: st) M Post := by
  intro p e s m args below meth c H locs ls C hl hP hS
  obtain ⟨hd, -⟩ := hd
  have h0 := cI_rng ha
  exact lv_tableOut C.1 C.2.1 hd (by rw [h0]; exact h1) ht (k p e s m args below meth c H locs ls C hl hP hS)
theorem r_look {dflt off : Int} {ps : Array (Int × Int)} {len tgt : Nat} {a : Int} (hd : At y pc nx len (.lookupswitch dflt ps)) (ha : -2147483648 ≤ a ∧ a ≤ 2147483647) (hp : (ps.toList.zip (ps.toList.drop 1)).all (fun (a, next) => a.1 < next.1) = true) (ho : Op.lookupswitch.offset ps.toList dflt a = off) (ht : (pc : Int) + off = (tgt : Int)) (k : R Ly g y d tgt lv st M Post) : R Ly g y d pc lv (vi a :: st) M Post := by
  intro p e s m args below meth c H locs ls C hl hP hS
  obtain ⟨hd, -⟩ := hd
  have h0 := cI_rng ha
  exact lv_lookup C.1 C.2.1 hd hp (by rw [h0]; exact ho) ht (k p e s m args below meth c H locs ls C hl hP hS)
/-! the operand stack -/
def cat1 (v : MV) : Bool := match v with
  | .inr (.inl _) => false
  | _ => true
theorem cat1_ok {ad : Nat → Nat} {v : MV} (h : cat1 v = true) : (rv ad v).category = 1 := by
  rcases v with z | z | z
  · rfl
  · cases h
  · rfl
theorem r_dup {v : MV} (hd : At y pc nx 1 .dup) (hv : cat1 v = true) (k : R Ly g y d nx lv (v :: v :: st) M Post) : R Ly g y d pc lv (v :: st) M Post := by
  intro p e s m args below meth c H locs ls C hl hP hS
  obtain ⟨hd, rfl⟩ := hd
  exact lv_dup C.1 C.2.1 hd (cat1_ok hv) (k p e s m args below meth c H locs ls C hl hP hS)
theorem r_dup2 {v w : MV} (hd : At y pc nx 1 .dup2) (hv : cat1 v = true) (hw : cat1 w = true) (k : R Ly g y d nx lv (v :: w :: v :: w :: st) M Post) : R Ly g y d pc lv (v :: w :: st) M Post := by
  intro p e s m args below meth c H locs ls C hl hP hS
  obtain ⟨hd, rfl⟩ := hd
  exact lv_dup2_11 C.1 C.2.1 hd (cat1_ok hv) (cat1_ok hw) (k p e s m args below meth c H locs ls C hl hP hS)
/-! longs -/
theorem r_i2l {a : Int} (hd : At y pc nx 1 .i2l) (ha : -2147483648 ≤ a ∧ a ≤ 2147483647) (k : R Ly g y d nx lv (vl a :: st) M Post) : R Ly g y d pc lv (vi a :: st) M Post := by
  intro p e s m args below meth c H locs ls C hl hP hS
  obtain ⟨hd, rfl⟩ := hd
  refine lv_i2l C.1 C.2.1 hd ?_ (k p e s m args below meth c H locs ls C hl hP hS)
  rw [← Int64.toInt_inj, Int32.toInt_toInt64, cI_rng ha, cL_rng (by omega)]
theorem r_l2i {a : Int} (hd : At y pc nx 1 .l2i) (ha : -2147483648 ≤ a ∧ a ≤ 2147483647) (k : R Ly g y d nx lv (vi a :: st) M Post) : R Ly g y d pc lv (vl a :: st) M Post := by
  intro p e s m args below meth c H locs ls C hl hP hS
  obtain ⟨hd, rfl⟩ := hd
  refine lv_l2i C.1 C.2.1 hd ?_ (k p e s m args below meth c H locs ls C hl hP hS)
  rw [← Int32.toInt_inj, Int64.toInt_toInt32, cI_rng ha, cL_rng (by omega)]
  exact Int.bmod_eq_of_le (by omega) (by omega)
theorem r_lsub {a b : Int} (hd : At y pc nx 1 .lsub) (k : R Ly g y d nx lv (vl (a - b) :: st) M Post) : R Ly g y d pc lv (vl b :: vl a :: st) M Post := by
  intro p e s m args below meth c H locs ls C hl hP hS
  obtain ⟨hd, rfl⟩ := hd
  refine lv_lsub C.1 C.2.1 hd ?_
  rw [← Int64.ofInt_sub]
  exact k p e s m args below meth c H locs ls C hl hP hS
theorem r_lmul {a b : Int} (hd : At y pc nx 1 .lmul) (k : R Ly g y d nx lv (vl (a * b) :: st) M Post) : R Ly g y d pc lv (vl b :: vl a :: st) M Post := by
  intro p e s m args below meth c H locs ls C hl hP hS
  obtain ⟨hd, rfl⟩ := hd
  refine lv_lmul C.1 C.2.1 hd ?_
  rw [← Int64.ofInt_mul]
  exact k p e s m args below meth c H locs ls C hl hP hS
theorem r_lneg {a : Int} (hd : At y pc nx 1 .lneg) (k : R Ly g y d nx lv (vl (-a) :: st) M Post) : R Ly g y d pc lv (vl a :: st) M Post := by
  intro p e s m args below meth c H locs ls C hl hP hS
  obtain ⟨hd, rfl⟩ := hd
  refine lv_lneg C.1 C.2.1 hd ?_
  rw [← Int64.ofInt_neg]
  exact k p e s m args below meth c H locs ls C hl hP hS
theorem cL_eq {x y : Int} (hx : -9223372036854775808 ≤ x ∧ x ≤ 9223372036854775807) (hy : -9223372036854775808 ≤ y ∧ y ≤ 9223372036854775807) : Int64.ofInt x = Int64.ofInt y ↔ x = y := by
  rw [← Int64.toInt_inj, cL_rng hx, cL_rng hy]
theorem cL_0 : (0 : Int64) = Int64.ofInt 0 := by decide
theorem r_ldiv {a b : Int} (hd : At y pc nx 1 .ldiv) (ha : 0 ≤ a ∧ a ≤ 9223372036854775807) (hb : 0 < b ∧ b ≤ 9223372036854775807) (k : R Ly g y d nx lv (vl (a / b) :: st) M Post) : R Ly g y d pc lv (vl b :: vl a :: st) M Post := by
  intro p e s m args below meth c H locs ls C hl hP hS
  obtain ⟨hd, rfl⟩ := hd
  have e1 : Int64.ofInt a / Int64.ofInt b = Int64.ofInt (a / b) := by
    obtain ⟨n, rfl⟩ : ∃ n : Nat, a = n := ⟨a.toNat, by omega⟩
    obtain ⟨q, rfl⟩ : ∃ q : Nat, b = q := ⟨b.toNat, by omega⟩
    rw [← Int.natCast_ediv, cL_nat (Int.natCast_nonneg n), cL_nat (Int.natCast_nonneg q), cL_nat (Int.natCast_nonneg _)]
    exact pk_lDiv (a := n) (b := q) (by omega) (by omega) (by omega)
  refine lv_ldiv C.1 C.2.1 hd ?_ ?_
  · rw [cL_0, cL_eq (by omega) (by omega)]; omega
  · rw [e1]
    exact k p e s m args below meth c H locs ls C hl hP hS
theorem r_lrem {a b : Int} (hd : At y pc nx 1 .lrem) (ha : 0 ≤ a ∧ a ≤ 9223372036854775807) (hb : 0 < b ∧ b ≤ 9223372036854775807) (k : R Ly g y d nx lv (vl (a % b) :: st) M Post) : R Ly g y d pc lv (vl b :: vl a :: st) M Post := by
  intro p e s m args below meth c H locs ls C hl hP hS
  obtain ⟨hd, rfl⟩ := hd
  have e1 : Int64.ofInt a - Int64.ofInt a / Int64.ofInt b * Int64.ofInt b = Int64.ofInt (a % b) := by
    obtain ⟨n, rfl⟩ : ∃ n : Nat, a = n := ⟨a.toNat, by omega⟩
    obtain ⟨q, rfl⟩ : ∃ q : Nat, b = q := ⟨b.toNat, by omega⟩
    rw [← Int.natCast_emod, cL_nat (Int.natCast_nonneg n), cL_nat (Int.natCast_nonneg q), cL_nat (Int.natCast_nonneg _)]
    exact pk_lRem (a := n) (b := q) (by omega) (by omega) (by omega)
  refine lv_lrem C.1 C.2.1 hd ?_ ?_
  · rw [cL_0, cL_eq (by omega) (by omega)]; omega
  · rw [e1]
    exact k p e s m args below meth c H locs ls C hl hP hS
theorem r_lcmp {a b : Int} (hd : At y pc nx 1 .lcmp) (ha : (-9223372036854775808 ≤ a ∧ a ≤ 9223372036854775807) ∧ (-9223372036854775808 ≤ b ∧ b ≤ 9223372036854775807)) (k : R Ly g y d nx lv (vi (if b < a then 1 else if a = b then 0 else -1) :: st) M Post) : R Ly g y d pc lv (vl b :: vl a :: st) M Post := by
  intro p e s m args below meth c H locs ls C hl hP hS
  obtain ⟨hd, rfl⟩ := hd
  have h1 : Int64.ofInt a > Int64.ofInt b ↔ b < a := by
    show Int64.ofInt b < Int64.ofInt a ↔ _
    rw [Int64.lt_iff_toInt_lt, cL_rng ha.1, cL_rng ha.2]
  have h2 := cL_eq ha.1 ha.2
  refine W.lcmp C.1 C.2.1 hd ?_
  have e1 : lg_cmp (Int64.ofInt a) (Int64.ofInt b) = Int32.ofInt (if b < a then 1 else if a = b then 0 else -1) := by
    unfold lg_cmp
    by_cases q1 : b < a
    · rw [if_pos (h1.mpr q1), if_pos q1]; decide
    · rw [if_neg (fun h => q1 (h1.mp h)), if_neg q1]
      by_cases q2 : a = b
      · rw [if_pos (h2.mpr q2), if_pos q2]; decide
      · rw [if_neg (fun h => q2 (h2.mp h)), if_neg q2]; decide
  rw [e1]
  exact k p e s m args below meth c H locs ls C hl hP hS
/-! ends -/
theorem r_iret {a : Int} (hd : At y pc nx 1 .ireturn) (hr : y.2.2.2 = some .int) (hp : Post (some (vi a)) M) : R Ly g y d pc lv [vi a] M Post := by
  intro p e s m args below meth c H locs ls C hl hP hS
  obtain ⟨hx, hb, hr', hml, hown, hts, hlocks, hK, hi⟩ := C
  exact W.iret (v := Int32.ofInt a) hx hb (hr'.trans hr) (fun t ht hW => ⟨some (vi a), M, rfl, hp, ⟨by rw [ht]; exact hP, hK.moved hW⟩, hS.F ht⟩) hS.2.2 hd.1 hlocks
theorem r_zret {a : Int} (hd : At y pc nx 1 .ireturn) (hr : y.2.2.2 = some .boolean) (ha : a = 0 ∨ a = 1) (hp : Post (some (vi a)) M) : R Ly g y d pc lv [vi a] M Post := by
  intro p e s m args below meth c H locs ls C hl hP hS
  obtain ⟨hx, hb, hr', hml, hown, hts, hlocks, hK, hi⟩ := C
  refine W.zret (v := Int32.ofInt a) hx hb (hr'.trans hr) ?_ (fun t ht hW => ⟨some (vi a), M, rfl, hp, ⟨by rw [ht]; exact hP, hK.moved hW⟩, hS.F ht⟩) hS.2.2 hd.1 hlocks
  rcases ha with rfl | rfl <;> decide
theorem r_vret (hd : At y pc nx 1 .return_) (hr : y.2.2.2 = none) (hp : Post none M) : R Ly g y d pc lv [] M Post := by
  intro p e s m args below meth c H locs ls C hl hP hS
  obtain ⟨hx, hb, hr', hml, hown, hts, hlocks, hK, hi⟩ := C
  exact W.vret hx hb (hr'.trans hr) (fun t ht hW => ⟨none, M, rfl, hp, ⟨by rw [ht]; exact hP, hK.moved hW⟩, hS.F ht⟩) hS.2.2 hd.1 hlocks
theorem r_lret {a : Int} (hd : At y pc nx 1 .lreturn) (hr : y.2.2.2 = some .long) (hp : Post (some (vl a)) M) : R Ly g y d pc lv [vl a] M Post := by
  intro p e s m args below meth c H locs ls C hl hP hS
  obtain ⟨hx, hb, hr', hml, hown, hts, hlocks, hK, hi⟩ := C
  exact W.lret (v := Int64.ofInt a) hx hb (hr'.trans hr) (fun t ht hW => ⟨some (vl a), M, rfl, hp, ⟨by rw [ht]; exact hP, hK.moved hW⟩, hS.F ht⟩) hS.2.2 hd.1 hlocks
theorem r_aret {a : Nat} {n : String} (hd : At y pc nx 1 .areturn) (hr : y.2.2.2 = some (.object n)) (hp : Post (some (vr a)) M) : R Ly g y d pc lv [vr a] M Post := by
  intro p e s m args below meth c H locs ls C hl hP hS
  obtain ⟨hx, hb, hr', hml, hown, hts, hlocks, hK, hi⟩ := C
  exact W.aret (v := .ref (g.2.2.1 a)) hx hb (hr'.trans hr) (Or.inl ⟨n, rfl⟩) (Or.inr ⟨_, rfl⟩) (fun t ht hW => ⟨some (vr a), M, rfl, hp, ⟨by rw [ht]; exact hP, hK.moved hW⟩, hS.F ht⟩) hS.2.2 hd.1 hlocks
end RW2
