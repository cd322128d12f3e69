/-! the constructors -/
theorem objW : Cond.code Lib.objectInit ⟨#[0xb1]⟩ 1 none ∈ gtab := (gmem 20 (by decide +kernel) (by decide +kernel))
theorem objI : Cond.instanceMethod Lib.objectInit ∈ gtab := (gmem 19 (by decide +kernel) (by decide +kernel))
theorem arrI : Cond.arrayClass .int ∈ gtab := (gmem 112 (by decide +kernel) (by decide +kernel))
theorem arrZ : Cond.arrayClass .boolean ∈ gtab := (gmem 147 (by decide +kernel) (by decide +kernel))
theorem arrJ : Cond.arrayClass .long ∈ gtab := (gmem 828 (by decide +kernel) (by decide +kernel))
section BS1
variable {g : Gt} {y : Mth} {rm : Room} {pc nx : Nat} {lv : List (Nat × Value)} {st : List Value} {ws ws' : va_W} {cells slots : Nat} {Post : va_W → Prop}
theorem b_ws (h : ws = ws') (kk : RB g y rm pc lv st ws' cells slots Post) : RB g y rm pc lv st ws cells slots Post := h ▸ kk
theorem b_cs {c' s' : Nat} (h : cells = c') (h2 : slots = s') (kk : RB g y rm pc lv st ws c' s' Post) : RB g y rm pc lv st ws cells slots Post := h ▸ h2 ▸ kk
theorem b_ist {k : Fin 4} {i : Nat} {x : Int32} {lv' : List (Nat × Value)} (hd : At y pc nx 1 (.istore_n k)) (hi : (k : Nat) = i) (hn : i < y.2.2.1) (hl : (i, Value.int x) :: lv.filter (fun q => !(q.1 == i) && !(q.1 + 1 == i && q.2.category == 2)) = lv') (kk : RB g y rm nx lv' st ws cells slots Post) : RB g y rm pc lv (.int x :: st) ws cells slots Post := by
  intro p e s m args below meth c H locs ls A C h1 hP hD hS hA
  obtain ⟨hd, rfl⟩ := hd
  exact lv_istore_n C.1 C.2.1 hd hi h1 hn hl (fun ls' h1 => kk p e s m args below meth c H locs ls' A C h1 hP hD hS hA)
theorem b_ild {k : Fin 4} {i j : Nat} {x : Int32} (hd : At y pc nx 1 (.iload_n k)) (hi : (k : Nat) = i) (hl : lv[j]? = some (i, .int x)) (kk : RB g y rm nx lv (.int x :: st) ws cells slots Post) : RB g y rm pc lv st ws cells slots Post := by
  intro p e s m args below meth c H locs ls A C h1 hP hD hS hA
  obtain ⟨hd, rfl⟩ := hd
  exact lv_iload_n C.1 C.2.1 hd hi (lv_at h1 j hl) (kk p e s m args below meth c H locs ls A C h1 hP hD hS hA)
theorem b_cge {x z : Int32} {tgt : Nat} (hd : Jt y pc nx tgt (fun o => .if_icmp .ge o)) (kt : z ≤ x → RB g y rm tgt lv st ws cells slots Post) (kf : ¬ z ≤ x → RB g y rm nx lv st ws cells slots Post) : RB g y rm pc lv (.int z :: .int x :: st) ws cells slots Post := by
  intro p e s m args below meth c H locs ls A C h1 hP hD hS hA
  obtain ⟨off, hd, rfl, ht⟩ := hd
  exact lv_icmp_ge C.1 C.2.1 hd ht (fun q => kt q p e s m args below meth c H locs ls A C h1 hP hD hS hA) (fun q => kf q p e s m args below meth c H locs ls A C h1 hP hD hS hA)
theorem b_goto {tgt : Nat} (hd : Jt y pc nx tgt (fun o => .goto o)) (kk : RB g y rm tgt lv st ws cells slots Post) : RB g y rm pc lv st ws cells slots Post := by
  intro p e s m args below meth c H locs ls A C h1 hP hD hS hA
  obtain ⟨off, hd, rfl, ht⟩ := hd
  exact lv_goto C.1 C.2.1 hd ht (kk p e s m args below meth c H locs ls A C h1 hP hD hS hA)
theorem b_inc {i k : Nat} {n : Int} {x v : Int32} {lv' : List (Nat × Value)} (hd : At y pc nx 3 (.iinc i n)) (hk : lv[k]? = some (i, .int x)) (hv : x + Int32.ofInt n = v) (hn : i < y.2.2.1) (hl : (i, Value.int v) :: lv.filter (fun q => !(q.1 == i) && !(q.1 + 1 == i && q.2.category == 2)) = lv') (kk : RB g y rm nx lv' st ws cells slots Post) : RB g y rm pc lv st ws cells slots Post := by
  intro p e s m args below meth c H locs ls A C h1 hP hD hS hA
  obtain ⟨hd, rfl⟩ := hd
  exact lv_iinc C.1 C.2.1 hd h1 hk hv hn hl (fun ls' h1 => kk p e s m args below meth c H locs ls' A C h1 hP hD hS hA)
theorem b_get {idx k ci a : Nat} {fs : List Value} {v : Value} (hd : At y pc nx 3 (.getfield idx)) (hf : FL y.1.cls idx ci k) (he : ws[0]? = some (a, .inr (ci, fs))) (hv : fs[k]? = some v) (kk : RB g y rm nx lv (v :: st) ws cells slots Post) : RB g y rm pc lv (.ref a :: st) ws cells slots Post := by
  intro p e s m args below meth c H locs ls A C h1 hP hD hS hA
  obtain ⟨hd, rfl⟩ := hd
  obtain ⟨hx, hb, hr', hml, hown, hts, hlocks, hK, hin⟩ := id C
  obtain ⟨Cn, T, N, a1, a2, a3, a4⟩ := hf
  exact va_get (D := g.2.1) (ci := ci) (v := v) (C := Cn) (T := T) (N := N) hx hb hts a3 hown hK.1 hP 0 he a1 k a2 (hts _ a4) (fun _ h => h) hv hd (kk p e s m args below meth c H locs ls A C h1 hP hD hS hA)
theorem b_iast {q0 a n : Nat} {f : Nat → Int32} {i x : Int32} (hd : At y pc nx 1 .iastore) (ha : ws[q0]? = some (a, .inl (g.2.2.2 0, n, .inl f))) (hin : vp_in i n) (kk : RB g y rm nx lv st (ws.set q0 (a, .inl (g.2.2.2 0, n, .inl (upd f i.toNatClampNeg x)))) cells slots Post) : RB g y rm pc lv (.int x :: .int i :: .ref a :: st) ws cells slots Post := by
  intro p e s m args below meth c H locs ls A C h1 hP hD hS hA
  obtain ⟨hd, rfl⟩ := hd
  obtain ⟨hx, hb, hr', hml, hown, hts, hlocks, hK, hin'⟩ := id C
  exact va_iast (D := g.2.1) hx hb hK.1 hP hD hS q0 0 ha rfl hin hd (fun H1 locs1 hP hD hS => kk p e s m args below meth c H1 locs1 ls A C h1 hP hD hS hA)
end BS1
def mX0_init : Mth := (⟨RX0, "<init>", "()V"⟩, prog_2_method_1_code, 1, none)
theorem miX0_init : Mi mX0_init := ⟨(gmem 187 (by decide +kernel) (by decide +kernel)), (gmem 6 (by decide +kernel) (by decide +kernel)), (gmem 186 (by decide +kernel) (by decide +kernel)), rfl, rfl, by decide +kernel, by decide +kernel, by decide +kernel, by decide⟩
theorem iX0_init_0 : At mX0_init 0 1 1 (.aload_n 0) := ⟨by decide +kernel, rfl⟩
theorem iX0_init_1 : At mX0_init 1 4 3 (.invokespecial 3) := ⟨by decide +kernel, rfl⟩
theorem iX0_init_4 : At mX0_init 4 5 1 (.aload_n 0) := ⟨by decide +kernel, rfl⟩
theorem iX0_init_5 : At mX0_init 5 7 2 (.ldc 11) := ⟨by decide +kernel, rfl⟩
theorem iX0_init_7 : At mX0_init 7 10 3 (.putfield 12) := ⟨by decide +kernel, rfl⟩
theorem fcX0_12 : FPc RX0 12 0 0 .int false := ⟨RX0, TX0, 8, tyX0, rfl, by decide, gwX0, (gmem 190 (by decide +kernel) (by decide +kernel)), tyX0_ok, nmX0, rfl, rfl, by decide +kernel⟩
theorem iX0_init_10 : At mX0_init 10 11 1 (.aload_n 0) := ⟨by decide +kernel, rfl⟩
theorem iX0_init_11 : At mX0_init 11 12 1 (.iconst 5) := ⟨by decide +kernel, rfl⟩
theorem iX0_init_12 : At mX0_init 12 14 2 (.newarray .int) := ⟨by decide +kernel, rfl⟩
theorem iX0_init_14 : At mX0_init 14 17 3 (.putfield 16) := ⟨by decide +kernel, rfl⟩
theorem fcX0_16 : FPc RX0 16 0 1 (.array .int) true := ⟨RX0, TX0, 8, tyX0, rfl, by decide, gwX0, (gmem 192 (by decide +kernel) (by decide +kernel)), tyX0_ok, nmX0, rfl, rfl, by decide +kernel⟩
theorem iX0_init_17 : At mX0_init 17 18 1 (.aload_n 0) := ⟨by decide +kernel, rfl⟩
theorem iX0_init_18 : At mX0_init 18 19 1 (.iconst 5) := ⟨by decide +kernel, rfl⟩
theorem iX0_init_19 : At mX0_init 19 21 2 (.newarray .int) := ⟨by decide +kernel, rfl⟩
theorem iX0_init_21 : At mX0_init 21 24 3 (.putfield 20) := ⟨by decide +kernel, rfl⟩
theorem fcX0_20 : FPc RX0 20 0 2 (.array .int) true := ⟨RX0, TX0, 8, tyX0, rfl, by decide, gwX0, (gmem 194 (by decide +kernel) (by decide +kernel)), tyX0_ok, nmX0, rfl, rfl, by decide +kernel⟩
theorem iX0_init_24 : At mX0_init 24 25 1 (.aload_n 0) := ⟨by decide +kernel, rfl⟩
theorem iX0_init_25 : At mX0_init 25 26 1 (.iconst 5) := ⟨by decide +kernel, rfl⟩
theorem iX0_init_26 : At mX0_init 26 28 2 (.newarray .int) := ⟨by decide +kernel, rfl⟩
theorem iX0_init_28 : At mX0_init 28 31 3 (.putfield 23) := ⟨by decide +kernel, rfl⟩
theorem fcX0_23 : FPc RX0 23 0 3 (.array .int) true := ⟨RX0, TX0, 8, tyX0, rfl, by decide, gwX0, (gmem 195 (by decide +kernel) (by decide +kernel)), tyX0_ok, nmX0, rfl, rfl, by decide +kernel⟩
theorem iX0_init_31 : At mX0_init 31 32 1 (.aload_n 0) := ⟨by decide +kernel, rfl⟩
theorem iX0_init_32 : At mX0_init 32 33 1 (.iconst 5) := ⟨by decide +kernel, rfl⟩
theorem iX0_init_33 : At mX0_init 33 35 2 (.newarray .int) := ⟨by decide +kernel, rfl⟩
theorem iX0_init_35 : At mX0_init 35 38 3 (.putfield 26) := ⟨by decide +kernel, rfl⟩
theorem fcX0_26 : FPc RX0 26 0 4 (.array .int) true := ⟨RX0, TX0, 8, tyX0, rfl, by decide, gwX0, (gmem 196 (by decide +kernel) (by decide +kernel)), tyX0_ok, nmX0, rfl, rfl, by decide +kernel⟩
theorem iX0_init_38 : At mX0_init 38 39 1 (.aload_n 0) := ⟨by decide +kernel, rfl⟩
theorem iX0_init_39 : At mX0_init 39 41 2 (.bipush 40) := ⟨by decide +kernel, rfl⟩
theorem iX0_init_41 : At mX0_init 41 43 2 (.newarray .int) := ⟨by decide +kernel, rfl⟩
theorem iX0_init_43 : At mX0_init 43 46 3 (.putfield 29) := ⟨by decide +kernel, rfl⟩
theorem fcX0_29 : FPc RX0 29 0 5 (.array .int) true := ⟨RX0, TX0, 8, tyX0, rfl, by decide, gwX0, (gmem 197 (by decide +kernel) (by decide +kernel)), tyX0_ok, nmX0, rfl, rfl, by decide +kernel⟩
theorem iX0_init_46 : At mX0_init 46 47 1 (.aload_n 0) := ⟨by decide +kernel, rfl⟩
theorem iX0_init_47 : At mX0_init 47 49 2 (.bipush 6) := ⟨by decide +kernel, rfl⟩
theorem iX0_init_49 : At mX0_init 49 51 2 (.newarray .int) := ⟨by decide +kernel, rfl⟩
theorem iX0_init_51 : At mX0_init 51 54 3 (.putfield 32) := ⟨by decide +kernel, rfl⟩
theorem fcX0_32 : FPc RX0 32 0 6 (.array .int) true := ⟨RX0, TX0, 8, tyX0, rfl, by decide, gwX0, (gmem 198 (by decide +kernel) (by decide +kernel)), tyX0_ok, nmX0, rfl, rfl, by decide +kernel⟩
theorem iX0_init_54 : At mX0_init 54 55 1 (.aload_n 0) := ⟨by decide +kernel, rfl⟩
theorem iX0_init_55 : At mX0_init 55 57 2 (.bipush 20) := ⟨by decide +kernel, rfl⟩
theorem iX0_init_57 : At mX0_init 57 59 2 (.newarray .int) := ⟨by decide +kernel, rfl⟩
theorem iX0_init_59 : At mX0_init 59 62 3 (.putfield 35) := ⟨by decide +kernel, rfl⟩
theorem fcX0_35 : FPc RX0 35 0 7 (.array .int) true := ⟨RX0, TX0, 8, tyX0, rfl, by decide, gwX0, (gmem 199 (by decide +kernel) (by decide +kernel)), tyX0_ok, nmX0, rfl, rfl, by decide +kernel⟩
theorem iX0_init_62 : At mX0_init 62 63 1 (.return_) := ⟨by decide +kernel, rfl⟩
theorem olX0 : Cond.methodLink RX0 3 Lib.objectInit ∈ gtab := (gmem 188 (by decide +kernel) (by decide +kernel))
def mX2_init : Mth := (⟨RX2, "<init>", "()V"⟩, prog_4_method_1_code, 1, none)
theorem miX2_init : Mi mX2_init := ⟨(gmem 140 (by decide +kernel) (by decide +kernel)), (gmem 5 (by decide +kernel) (by decide +kernel)), (gmem 139 (by decide +kernel) (by decide +kernel)), rfl, rfl, by decide +kernel, by decide +kernel, by decide +kernel, by decide⟩
theorem iX2_init_0 : At mX2_init 0 1 1 (.aload_n 0) := ⟨by decide +kernel, rfl⟩
theorem iX2_init_1 : At mX2_init 1 4 3 (.invokespecial 3) := ⟨by decide +kernel, rfl⟩
theorem iX2_init_4 : At mX2_init 4 5 1 (.aload_n 0) := ⟨by decide +kernel, rfl⟩
theorem iX2_init_5 : At mX2_init 5 7 2 (.bipush 9) := ⟨by decide +kernel, rfl⟩
theorem iX2_init_7 : At mX2_init 7 9 2 (.newarray .int) := ⟨by decide +kernel, rfl⟩
theorem iX2_init_9 : At mX2_init 9 12 3 (.putfield 9) := ⟨by decide +kernel, rfl⟩
theorem fcX2_9 : FPc RX2 9 1 0 (.array .int) true := ⟨RX2, TX2, 1, tyX2, rfl, by decide, gwX2, (gmem 142 (by decide +kernel) (by decide +kernel)), tyX2_ok, nmX2, rfl, rfl, by decide +kernel⟩
theorem iX2_init_12 : At mX2_init 12 13 1 (.return_) := ⟨by decide +kernel, rfl⟩
theorem olX2 : Cond.methodLink RX2 3 Lib.objectInit ∈ gtab := (gmem 141 (by decide +kernel) (by decide +kernel))
def mX3_init : Mth := (⟨RX3, "<init>", "()V"⟩, prog_5_method_1_code, 1, none)
theorem miX3_init : Mi mX3_init := ⟨(gmem 25 (by decide +kernel) (by decide +kernel)), (gmem 2 (by decide +kernel) (by decide +kernel)), (gmem 24 (by decide +kernel) (by decide +kernel)), rfl, rfl, by decide +kernel, by decide +kernel, by decide +kernel, by decide⟩
theorem iX3_init_0 : At mX3_init 0 1 1 (.aload_n 0) := ⟨by decide +kernel, rfl⟩
theorem iX3_init_1 : At mX3_init 1 4 3 (.invokespecial 3) := ⟨by decide +kernel, rfl⟩
theorem iX3_init_4 : At mX3_init 4 5 1 (.aload_n 0) := ⟨by decide +kernel, rfl⟩
theorem iX3_init_5 : At mX3_init 5 6 1 (.iconst 1) := ⟨by decide +kernel, rfl⟩
theorem iX3_init_6 : At mX3_init 6 9 3 (.putfield 9) := ⟨by decide +kernel, rfl⟩
theorem fcX3_9 : FPc RX3 9 2 0 .int false := ⟨RX3, TX3, 12, tyX3, rfl, by decide, gwX3, (gmem 27 (by decide +kernel) (by decide +kernel)), tyX3_ok, nmX3, rfl, rfl, by decide +kernel⟩
theorem iX3_init_9 : At mX3_init 9 10 1 (.aload_n 0) := ⟨by decide +kernel, rfl⟩
theorem iX3_init_10 : At mX3_init 10 11 1 (.iconst 0) := ⟨by decide +kernel, rfl⟩
theorem iX3_init_11 : At mX3_init 11 14 3 (.putfield 15) := ⟨by decide +kernel, rfl⟩
theorem fcX3_15 : FPc RX3 15 2 1 .int false := ⟨RX3, TX3, 12, tyX3, rfl, by decide, gwX3, (gmem 32 (by decide +kernel) (by decide +kernel)), tyX3_ok, nmX3, rfl, rfl, by decide +kernel⟩
theorem iX3_init_14 : At mX3_init 14 15 1 (.aload_n 0) := ⟨by decide +kernel, rfl⟩
theorem iX3_init_15 : At mX3_init 15 16 1 (.iconst 0) := ⟨by decide +kernel, rfl⟩
theorem iX3_init_16 : At mX3_init 16 19 3 (.putfield 18) := ⟨by decide +kernel, rfl⟩
theorem fcX3_18 : FPc RX3 18 2 2 .int false := ⟨RX3, TX3, 12, tyX3, rfl, by decide, gwX3, (gmem 39 (by decide +kernel) (by decide +kernel)), tyX3_ok, nmX3, rfl, rfl, by decide +kernel⟩
theorem iX3_init_19 : At mX3_init 19 20 1 (.aload_n 0) := ⟨by decide +kernel, rfl⟩
theorem iX3_init_20 : At mX3_init 20 22 2 (.bipush 20) := ⟨by decide +kernel, rfl⟩
theorem iX3_init_22 : At mX3_init 22 24 2 (.newarray .int) := ⟨by decide +kernel, rfl⟩
theorem iX3_init_24 : At mX3_init 24 27 3 (.putfield 21) := ⟨by decide +kernel, rfl⟩
theorem fcX3_21 : FPc RX3 21 2 3 (.array .int) true := ⟨RX3, TX3, 12, tyX3, rfl, by decide, gwX3, (gmem 46 (by decide +kernel) (by decide +kernel)), tyX3_ok, nmX3, rfl, rfl, by decide +kernel⟩
theorem iX3_init_27 : At mX3_init 27 28 1 (.aload_n 0) := ⟨by decide +kernel, rfl⟩
theorem iX3_init_28 : At mX3_init 28 30 2 (.bipush 20) := ⟨by decide +kernel, rfl⟩
theorem iX3_init_30 : At mX3_init 30 32 2 (.newarray .int) := ⟨by decide +kernel, rfl⟩
theorem iX3_init_32 : At mX3_init 32 35 3 (.putfield 25) := ⟨by decide +kernel, rfl⟩
theorem fcX3_25 : FPc RX3 25 2 4 (.array .int) true := ⟨RX3, TX3, 12, tyX3, rfl, by decide, gwX3, (gmem 50 (by decide +kernel) (by decide +kernel)), tyX3_ok, nmX3, rfl, rfl, by decide +kernel⟩
theorem iX3_init_35 : At mX3_init 35 36 1 (.aload_n 0) := ⟨by decide +kernel, rfl⟩
theorem iX3_init_36 : At mX3_init 36 38 2 (.bipush 20) := ⟨by decide +kernel, rfl⟩
theorem iX3_init_38 : At mX3_init 38 40 2 (.newarray .int) := ⟨by decide +kernel, rfl⟩
theorem iX3_init_40 : At mX3_init 40 43 3 (.putfield 28) := ⟨by decide +kernel, rfl⟩
theorem fcX3_28 : FPc RX3 28 2 5 (.array .int) true := ⟨RX3, TX3, 12, tyX3, rfl, by decide, gwX3, (gmem 54 (by decide +kernel) (by decide +kernel)), tyX3_ok, nmX3, rfl, rfl, by decide +kernel⟩
theorem iX3_init_43 : At mX3_init 43 44 1 (.aload_n 0) := ⟨by decide +kernel, rfl⟩
theorem iX3_init_44 : At mX3_init 44 46 2 (.bipush 20) := ⟨by decide +kernel, rfl⟩
theorem iX3_init_46 : At mX3_init 46 48 2 (.newarray .int) := ⟨by decide +kernel, rfl⟩
theorem iX3_init_48 : At mX3_init 48 51 3 (.putfield 31) := ⟨by decide +kernel, rfl⟩
theorem fcX3_31 : FPc RX3 31 2 6 (.array .int) true := ⟨RX3, TX3, 12, tyX3, rfl, by decide, gwX3, (gmem 60 (by decide +kernel) (by decide +kernel)), tyX3_ok, nmX3, rfl, rfl, by decide +kernel⟩
theorem iX3_init_51 : At mX3_init 51 52 1 (.aload_n 0) := ⟨by decide +kernel, rfl⟩
theorem iX3_init_52 : At mX3_init 52 54 2 (.bipush 20) := ⟨by decide +kernel, rfl⟩
theorem iX3_init_54 : At mX3_init 54 56 2 (.newarray .int) := ⟨by decide +kernel, rfl⟩
theorem iX3_init_56 : At mX3_init 56 59 3 (.putfield 34) := ⟨by decide +kernel, rfl⟩
theorem fcX3_34 : FPc RX3 34 2 7 (.array .int) true := ⟨RX3, TX3, 12, tyX3, rfl, by decide, gwX3, (gmem 63 (by decide +kernel) (by decide +kernel)), tyX3_ok, nmX3, rfl, rfl, by decide +kernel⟩
theorem iX3_init_59 : At mX3_init 59 60 1 (.aload_n 0) := ⟨by decide +kernel, rfl⟩
theorem iX3_init_60 : At mX3_init 60 61 1 (.iconst 5) := ⟨by decide +kernel, rfl⟩
theorem iX3_init_61 : At mX3_init 61 63 2 (.newarray .int) := ⟨by decide +kernel, rfl⟩
theorem iX3_init_63 : At mX3_init 63 66 3 (.putfield 37) := ⟨by decide +kernel, rfl⟩
theorem fcX3_37 : FPc RX3 37 2 8 (.array .int) true := ⟨RX3, TX3, 12, tyX3, rfl, by decide, gwX3, (gmem 66 (by decide +kernel) (by decide +kernel)), tyX3_ok, nmX3, rfl, rfl, by decide +kernel⟩
theorem iX3_init_66 : At mX3_init 66 67 1 (.aload_n 0) := ⟨by decide +kernel, rfl⟩
theorem iX3_init_67 : At mX3_init 67 68 1 (.iconst 5) := ⟨by decide +kernel, rfl⟩
theorem iX3_init_68 : At mX3_init 68 70 2 (.newarray .int) := ⟨by decide +kernel, rfl⟩
theorem iX3_init_70 : At mX3_init 70 73 3 (.putfield 40) := ⟨by decide +kernel, rfl⟩
theorem fcX3_40 : FPc RX3 40 2 9 (.array .int) true := ⟨RX3, TX3, 12, tyX3, rfl, by decide, gwX3, (gmem 71 (by decide +kernel) (by decide +kernel)), tyX3_ok, nmX3, rfl, rfl, by decide +kernel⟩
theorem iX3_init_73 : At mX3_init 73 74 1 (.aload_n 0) := ⟨by decide +kernel, rfl⟩
theorem iX3_init_74 : At mX3_init 74 75 1 (.iconst 5) := ⟨by decide +kernel, rfl⟩
theorem iX3_init_75 : At mX3_init 75 77 2 (.newarray .int) := ⟨by decide +kernel, rfl⟩
theorem iX3_init_77 : At mX3_init 77 80 3 (.putfield 43) := ⟨by decide +kernel, rfl⟩
theorem fcX3_43 : FPc RX3 43 2 10 (.array .int) true := ⟨RX3, TX3, 12, tyX3, rfl, by decide, gwX3, (gmem 76 (by decide +kernel) (by decide +kernel)), tyX3_ok, nmX3, rfl, rfl, by decide +kernel⟩
theorem iX3_init_80 : At mX3_init 80 81 1 (.aload_n 0) := ⟨by decide +kernel, rfl⟩
theorem iX3_init_81 : At mX3_init 81 82 1 (.iconst 5) := ⟨by decide +kernel, rfl⟩
theorem iX3_init_82 : At mX3_init 82 84 2 (.newarray .int) := ⟨by decide +kernel, rfl⟩
theorem iX3_init_84 : At mX3_init 84 87 3 (.putfield 46) := ⟨by decide +kernel, rfl⟩
theorem fcX3_46 : FPc RX3 46 2 11 (.array .int) true := ⟨RX3, TX3, 12, tyX3, rfl, by decide, gwX3, (gmem 81 (by decide +kernel) (by decide +kernel)), tyX3_ok, nmX3, rfl, rfl, by decide +kernel⟩
theorem iX3_init_87 : At mX3_init 87 88 1 (.return_) := ⟨by decide +kernel, rfl⟩
theorem olX3 : Cond.methodLink RX3 3 Lib.objectInit ∈ gtab := (gmem 26 (by decide +kernel) (by decide +kernel))
def mX4_init : Mth := (⟨RX4, "<init>", "()V"⟩, prog_6_method_1_code, 1, none)
theorem miX4_init : Mi mX4_init := ⟨(gmem 117 (by decide +kernel) (by decide +kernel)), (gmem 3 (by decide +kernel) (by decide +kernel)), (gmem 116 (by decide +kernel) (by decide +kernel)), rfl, rfl, by decide +kernel, by decide +kernel, by decide +kernel, by decide⟩
theorem iX4_init_0 : At mX4_init 0 1 1 (.aload_n 0) := ⟨by decide +kernel, rfl⟩
theorem iX4_init_1 : At mX4_init 1 4 3 (.invokespecial 3) := ⟨by decide +kernel, rfl⟩
theorem iX4_init_4 : At mX4_init 4 5 1 (.aload_n 0) := ⟨by decide +kernel, rfl⟩
theorem iX4_init_5 : At mX4_init 5 7 2 (.bipush 40) := ⟨by decide +kernel, rfl⟩
theorem iX4_init_7 : At mX4_init 7 9 2 (.newarray .int) := ⟨by decide +kernel, rfl⟩
theorem iX4_init_9 : At mX4_init 9 12 3 (.putfield 9) := ⟨by decide +kernel, rfl⟩
theorem fcX4_9 : FPc RX4 9 3 0 (.array .int) true := ⟨RX4, TX4, 2, tyX4, rfl, by decide, gwX4, (gmem 119 (by decide +kernel) (by decide +kernel)), tyX4_ok, nmX4, rfl, rfl, by decide +kernel⟩
theorem iX4_init_12 : At mX4_init 12 13 1 (.aload_n 0) := ⟨by decide +kernel, rfl⟩
theorem iX4_init_13 : At mX4_init 13 14 1 (.iconst 5) := ⟨by decide +kernel, rfl⟩
theorem iX4_init_14 : At mX4_init 14 16 2 (.newarray .int) := ⟨by decide +kernel, rfl⟩
theorem iX4_init_16 : At mX4_init 16 19 3 (.putfield 15) := ⟨by decide +kernel, rfl⟩
theorem fcX4_15 : FPc RX4 15 3 1 (.array .int) true := ⟨RX4, TX4, 2, tyX4, rfl, by decide, gwX4, (gmem 121 (by decide +kernel) (by decide +kernel)), tyX4_ok, nmX4, rfl, rfl, by decide +kernel⟩
theorem iX4_init_19 : At mX4_init 19 20 1 (.return_) := ⟨by decide +kernel, rfl⟩
theorem olX4 : Cond.methodLink RX4 3 Lib.objectInit ∈ gtab := (gmem 118 (by decide +kernel) (by decide +kernel))
def mX5_init : Mth := (⟨RX5, "<init>", "()V"⟩, prog_7_method_1_code, 1, none)
theorem miX5_init : Mi mX5_init := ⟨(gmem 221 (by decide +kernel) (by decide +kernel)), (gmem 7 (by decide +kernel) (by decide +kernel)), (gmem 220 (by decide +kernel) (by decide +kernel)), rfl, rfl, by decide +kernel, by decide +kernel, by decide +kernel, by decide⟩
theorem iX5_init_0 : At mX5_init 0 1 1 (.aload_n 0) := ⟨by decide +kernel, rfl⟩
theorem iX5_init_1 : At mX5_init 1 4 3 (.invokespecial 3) := ⟨by decide +kernel, rfl⟩
theorem iX5_init_4 : At mX5_init 4 5 1 (.aload_n 0) := ⟨by decide +kernel, rfl⟩
theorem iX5_init_5 : At mX5_init 5 6 1 (.iconst 5) := ⟨by decide +kernel, rfl⟩
theorem iX5_init_6 : At mX5_init 6 8 2 (.newarray .int) := ⟨by decide +kernel, rfl⟩
theorem iX5_init_8 : At mX5_init 8 11 3 (.putfield 9) := ⟨by decide +kernel, rfl⟩
theorem fcX5_9 : FPc RX5 9 4 0 (.array .int) true := ⟨RX5, TX5, 3, tyX5, rfl, by decide, gwX5, (gmem 223 (by decide +kernel) (by decide +kernel)), tyX5_ok, nmX5, rfl, rfl, by decide +kernel⟩
theorem iX5_init_11 : At mX5_init 11 12 1 (.aload_n 0) := ⟨by decide +kernel, rfl⟩
theorem iX5_init_12 : At mX5_init 12 13 1 (.iconst 5) := ⟨by decide +kernel, rfl⟩
theorem iX5_init_13 : At mX5_init 13 15 2 (.newarray .int) := ⟨by decide +kernel, rfl⟩
theorem iX5_init_15 : At mX5_init 15 18 3 (.putfield 15) := ⟨by decide +kernel, rfl⟩
theorem fcX5_15 : FPc RX5 15 4 1 (.array .int) true := ⟨RX5, TX5, 3, tyX5, rfl, by decide, gwX5, (gmem 224 (by decide +kernel) (by decide +kernel)), tyX5_ok, nmX5, rfl, rfl, by decide +kernel⟩
theorem iX5_init_18 : At mX5_init 18 19 1 (.aload_n 0) := ⟨by decide +kernel, rfl⟩
theorem iX5_init_19 : At mX5_init 19 20 1 (.iconst 5) := ⟨by decide +kernel, rfl⟩
theorem iX5_init_20 : At mX5_init 20 22 2 (.newarray .boolean) := ⟨by decide +kernel, rfl⟩
theorem iX5_init_22 : At mX5_init 22 25 3 (.putfield 18) := ⟨by decide +kernel, rfl⟩
theorem fcX5_18 : FPc RX5 18 4 2 (.array .boolean) true := ⟨RX5, TX5, 3, tyX5, rfl, by decide, gwX5, (gmem 225 (by decide +kernel) (by decide +kernel)), tyX5_ok, nmX5, rfl, rfl, by decide +kernel⟩
theorem iX5_init_25 : At mX5_init 25 26 1 (.return_) := ⟨by decide +kernel, rfl⟩
theorem olX5 : Cond.methodLink RX5 3 Lib.objectInit ∈ gtab := (gmem 222 (by decide +kernel) (by decide +kernel))
def mX6_init : Mth := (⟨RX6, "<init>", "()V"⟩, prog_8_method_1_code, 2, none)
theorem miX6_init : Mi mX6_init := ⟨(gmem 134 (by decide +kernel) (by decide +kernel)), (gmem 4 (by decide +kernel) (by decide +kernel)), (gmem 133 (by decide +kernel) (by decide +kernel)), rfl, rfl, by decide +kernel, by decide +kernel, by decide +kernel, by decide⟩
theorem iX6_init_0 : At mX6_init 0 1 1 (.aload_n 0) := ⟨by decide +kernel, rfl⟩
theorem iX6_init_1 : At mX6_init 1 4 3 (.invokespecial 3) := ⟨by decide +kernel, rfl⟩
theorem iX6_init_4 : At mX6_init 4 5 1 (.aload_n 0) := ⟨by decide +kernel, rfl⟩
theorem iX6_init_5 : At mX6_init 5 6 1 (.iconst 5) := ⟨by decide +kernel, rfl⟩
theorem iX6_init_6 : At mX6_init 6 8 2 (.newarray .int) := ⟨by decide +kernel, rfl⟩
theorem iX6_init_8 : At mX6_init 8 11 3 (.putfield 9) := ⟨by decide +kernel, rfl⟩
theorem fcX6_9 : FPc RX6 9 5 0 (.array .int) true := ⟨RX6, TX6, 8, tyX6, rfl, by decide, gwX6, (gmem 148 (by decide +kernel) (by decide +kernel)), tyX6_ok, nmX6, rfl, rfl, by decide +kernel⟩
theorem iX6_init_11 : At mX6_init 11 12 1 (.aload_n 0) := ⟨by decide +kernel, rfl⟩
theorem iX6_init_12 : At mX6_init 12 14 2 (.bipush 40) := ⟨by decide +kernel, rfl⟩
theorem iX6_init_14 : At mX6_init 14 16 2 (.newarray .int) := ⟨by decide +kernel, rfl⟩
theorem iX6_init_16 : At mX6_init 16 19 3 (.putfield 15) := ⟨by decide +kernel, rfl⟩
theorem fcX6_15 : FPc RX6 15 5 1 (.array .int) true := ⟨RX6, TX6, 8, tyX6, rfl, by decide, gwX6, (gmem 153 (by decide +kernel) (by decide +kernel)), tyX6_ok, nmX6, rfl, rfl, by decide +kernel⟩
theorem iX6_init_19 : At mX6_init 19 20 1 (.aload_n 0) := ⟨by decide +kernel, rfl⟩
theorem iX6_init_20 : At mX6_init 20 22 2 (.bipush 40) := ⟨by decide +kernel, rfl⟩
theorem iX6_init_22 : At mX6_init 22 24 2 (.newarray .int) := ⟨by decide +kernel, rfl⟩
theorem iX6_init_24 : At mX6_init 24 27 3 (.putfield 18) := ⟨by decide +kernel, rfl⟩
theorem fcX6_18 : FPc RX6 18 5 2 (.array .int) true := ⟨RX6, TX6, 8, tyX6, rfl, by decide, gwX6, (gmem 157 (by decide +kernel) (by decide +kernel)), tyX6_ok, nmX6, rfl, rfl, by decide +kernel⟩
theorem iX6_init_27 : At mX6_init 27 28 1 (.aload_n 0) := ⟨by decide +kernel, rfl⟩
theorem iX6_init_28 : At mX6_init 28 31 3 (.sipush 320) := ⟨by decide +kernel, rfl⟩
theorem iX6_init_31 : At mX6_init 31 33 2 (.newarray .int) := ⟨by decide +kernel, rfl⟩
theorem iX6_init_33 : At mX6_init 33 36 3 (.putfield 21) := ⟨by decide +kernel, rfl⟩
theorem fcX6_21 : FPc RX6 21 5 3 (.array .int) true := ⟨RX6, TX6, 8, tyX6, rfl, by decide, gwX6, (gmem 159 (by decide +kernel) (by decide +kernel)), tyX6_ok, nmX6, rfl, rfl, by decide +kernel⟩
theorem iX6_init_36 : At mX6_init 36 37 1 (.aload_n 0) := ⟨by decide +kernel, rfl⟩
theorem iX6_init_37 : At mX6_init 37 38 1 (.iconst 5) := ⟨by decide +kernel, rfl⟩
theorem iX6_init_38 : At mX6_init 38 40 2 (.newarray .boolean) := ⟨by decide +kernel, rfl⟩
theorem iX6_init_40 : At mX6_init 40 43 3 (.putfield 24) := ⟨by decide +kernel, rfl⟩
theorem fcX6_24 : FPc RX6 24 5 4 (.array .boolean) true := ⟨RX6, TX6, 8, tyX6, rfl, by decide, gwX6, (gmem 160 (by decide +kernel) (by decide +kernel)), tyX6_ok, nmX6, rfl, rfl, by decide +kernel⟩
theorem iX6_init_43 : At mX6_init 43 44 1 (.aload_n 0) := ⟨by decide +kernel, rfl⟩
theorem iX6_init_44 : At mX6_init 44 47 3 (.new 28) := ⟨by decide +kernel, rfl⟩
theorem nwX6_28 : Nw RX6 28 1 [.null] := ⟨RX2, TX2, 1, tyX2, rfl, rfl, gwX2, tyX2_ok, (gmem 136 (by decide +kernel) (by decide +kernel)), (gmem 137 (by decide +kernel) (by decide +kernel)), (gmem 5 (by decide +kernel) (by decide +kernel)), by decide +kernel⟩
theorem iX6_init_47 : At mX6_init 47 48 1 (.dup) := ⟨by decide +kernel, rfl⟩
theorem iX6_init_48 : At mX6_init 48 51 3 (.invokespecial 30) := ⟨by decide +kernel, rfl⟩
theorem iX6_init_51 : At mX6_init 51 54 3 (.putfield 31) := ⟨by decide +kernel, rfl⟩
theorem fcX6_31 : FPc RX6 31 5 5 (.object "LoadYard$Distances") true := ⟨RX6, TX6, 8, tyX6, rfl, by decide, gwX6, (gmem 161 (by decide +kernel) (by decide +kernel)), tyX6_ok, nmX6, rfl, rfl, by decide +kernel⟩
theorem iX6_init_54 : At mX6_init 54 55 1 (.aload_n 0) := ⟨by decide +kernel, rfl⟩
theorem iX6_init_55 : At mX6_init 55 57 2 (.bipush 20) := ⟨by decide +kernel, rfl⟩
theorem iX6_init_57 : At mX6_init 57 59 2 (.newarray .int) := ⟨by decide +kernel, rfl⟩
theorem iX6_init_59 : At mX6_init 59 62 3 (.putfield 35) := ⟨by decide +kernel, rfl⟩
theorem fcX6_35 : FPc RX6 35 5 6 (.array .int) true := ⟨RX6, TX6, 8, tyX6, rfl, by decide, gwX6, (gmem 162 (by decide +kernel) (by decide +kernel)), tyX6_ok, nmX6, rfl, rfl, by decide +kernel⟩
theorem iX6_init_62 : At mX6_init 62 63 1 (.aload_n 0) := ⟨by decide +kernel, rfl⟩
theorem iX6_init_63 : At mX6_init 63 65 2 (.bipush 8) := ⟨by decide +kernel, rfl⟩
theorem iX6_init_65 : At mX6_init 65 67 2 (.newarray .int) := ⟨by decide +kernel, rfl⟩
theorem iX6_init_67 : At mX6_init 67 70 3 (.putfield 38) := ⟨by decide +kernel, rfl⟩
theorem fcX6_38 : FPc RX6 38 5 7 (.array .int) true := ⟨RX6, TX6, 8, tyX6, rfl, by decide, gwX6, (gmem 163 (by decide +kernel) (by decide +kernel)), tyX6_ok, nmX6, rfl, rfl, by decide +kernel⟩
theorem iX6_init_70 : At mX6_init 70 71 1 (.iconst 0) := ⟨by decide +kernel, rfl⟩
theorem iX6_init_71 : At mX6_init 71 72 1 (.istore_n 1) := ⟨by decide +kernel, rfl⟩
theorem iX6_init_72 : At mX6_init 72 73 1 (.iload_n 1) := ⟨by decide +kernel, rfl⟩
theorem iX6_init_73 : At mX6_init 73 75 2 (.bipush 20) := ⟨by decide +kernel, rfl⟩
theorem iX6_init_75 : Jt mX6_init 75 78 91 (fun o => .if_icmp .ge o) := ⟨16, by decide +kernel, rfl, by decide⟩
theorem iX6_init_78 : At mX6_init 78 79 1 (.aload_n 0) := ⟨by decide +kernel, rfl⟩
theorem iX6_init_79 : At mX6_init 79 82 3 (.getfield 35) := ⟨by decide +kernel, rfl⟩
theorem iX6_init_82 : At mX6_init 82 83 1 (.iload_n 1) := ⟨by decide +kernel, rfl⟩
theorem iX6_init_83 : At mX6_init 83 84 1 (.iconst 1) := ⟨by decide +kernel, rfl⟩
theorem iX6_init_84 : At mX6_init 84 85 1 (.iastore) := ⟨by decide +kernel, rfl⟩
theorem iX6_init_85 : At mX6_init 85 88 3 (.iinc 1 1) := ⟨by decide +kernel, rfl⟩
theorem iX6_init_88 : Jt mX6_init 88 91 72 (fun o => .goto o) := ⟨(-16), by decide +kernel, rfl, by decide⟩
theorem iX6_init_91 : At mX6_init 91 92 1 (.return_) := ⟨by decide +kernel, rfl⟩
theorem olX6 : Cond.methodLink RX6 3 Lib.objectInit ∈ gtab := (gmem 135 (by decide +kernel) (by decide +kernel))
def mX7_init : Mth := (⟨RX7, "<init>", "()V"⟩, prog_1_method_1_code, 1, none)
theorem miX7_init : Mi mX7_init := ⟨(gmem 17 (by decide +kernel) (by decide +kernel)), (gmem 1 (by decide +kernel) (by decide +kernel)), (gmem 16 (by decide +kernel) (by decide +kernel)), rfl, rfl, by decide +kernel, by decide +kernel, by decide +kernel, by decide⟩
theorem iX7_init_0 : At mX7_init 0 1 1 (.aload_n 0) := ⟨by decide +kernel, rfl⟩
theorem iX7_init_1 : At mX7_init 1 4 3 (.invokespecial 3) := ⟨by decide +kernel, rfl⟩
theorem iX7_init_4 : At mX7_init 4 5 1 (.aload_n 0) := ⟨by decide +kernel, rfl⟩
theorem iX7_init_5 : At mX7_init 5 8 3 (.new 9) := ⟨by decide +kernel, rfl⟩
theorem nwX7_9 : Nw RX7 9 2 [.int 0, .int 0, .int 0, .null, .null, .null, .null, .null, .null, .null, .null, .null] := ⟨RX3, TX3, 12, tyX3, rfl, rfl, gwX3, tyX3_ok, (gmem 21 (by decide +kernel) (by decide +kernel)), (gmem 22 (by decide +kernel) (by decide +kernel)), (gmem 2 (by decide +kernel) (by decide +kernel)), by decide +kernel⟩
theorem iX7_init_8 : At mX7_init 8 9 1 (.dup) := ⟨by decide +kernel, rfl⟩
theorem iX7_init_9 : At mX7_init 9 12 3 (.invokespecial 11) := ⟨by decide +kernel, rfl⟩
theorem iX7_init_12 : At mX7_init 12 15 3 (.putfield 12) := ⟨by decide +kernel, rfl⟩
theorem fcX7_12 : FPc RX7 12 6 0 (.object "LoadYard$Net") true := ⟨RX7, TX7, 9, tyX7, rfl, by decide, gwX7, (gmem 233 (by decide +kernel) (by decide +kernel)), tyX7_ok, nmX7, rfl, rfl, by decide +kernel⟩
theorem iX7_init_15 : At mX7_init 15 16 1 (.aload_n 0) := ⟨by decide +kernel, rfl⟩
theorem iX7_init_16 : At mX7_init 16 19 3 (.new 9) := ⟨by decide +kernel, rfl⟩
theorem iX7_init_19 : At mX7_init 19 20 1 (.dup) := ⟨by decide +kernel, rfl⟩
theorem iX7_init_20 : At mX7_init 20 23 3 (.invokespecial 11) := ⟨by decide +kernel, rfl⟩
theorem iX7_init_23 : At mX7_init 23 26 3 (.putfield 16) := ⟨by decide +kernel, rfl⟩
theorem fcX7_16 : FPc RX7 16 6 1 (.object "LoadYard$Net") true := ⟨RX7, TX7, 9, tyX7, rfl, by decide, gwX7, (gmem 234 (by decide +kernel) (by decide +kernel)), tyX7_ok, nmX7, rfl, rfl, by decide +kernel⟩
theorem iX7_init_26 : At mX7_init 26 27 1 (.aload_n 0) := ⟨by decide +kernel, rfl⟩
theorem iX7_init_27 : At mX7_init 27 30 3 (.new 19) := ⟨by decide +kernel, rfl⟩
theorem nwX7_19 : Nw RX7 19 3 [.null, .null] := ⟨RX4, TX4, 2, tyX4, rfl, rfl, gwX4, tyX4_ok, (gmem 113 (by decide +kernel) (by decide +kernel)), (gmem 114 (by decide +kernel) (by decide +kernel)), (gmem 3 (by decide +kernel) (by decide +kernel)), by decide +kernel⟩
theorem iX7_init_30 : At mX7_init 30 31 1 (.dup) := ⟨by decide +kernel, rfl⟩
theorem iX7_init_31 : At mX7_init 31 34 3 (.invokespecial 21) := ⟨by decide +kernel, rfl⟩
theorem iX7_init_34 : At mX7_init 34 37 3 (.putfield 22) := ⟨by decide +kernel, rfl⟩
theorem fcX7_22 : FPc RX7 22 6 2 (.object "LoadYard$Sending") true := ⟨RX7, TX7, 9, tyX7, rfl, by decide, gwX7, (gmem 235 (by decide +kernel) (by decide +kernel)), tyX7_ok, nmX7, rfl, rfl, by decide +kernel⟩
theorem iX7_init_37 : At mX7_init 37 38 1 (.aload_n 0) := ⟨by decide +kernel, rfl⟩
theorem iX7_init_38 : At mX7_init 38 41 3 (.new 19) := ⟨by decide +kernel, rfl⟩
theorem iX7_init_41 : At mX7_init 41 42 1 (.dup) := ⟨by decide +kernel, rfl⟩
theorem iX7_init_42 : At mX7_init 42 45 3 (.invokespecial 21) := ⟨by decide +kernel, rfl⟩
theorem iX7_init_45 : At mX7_init 45 48 3 (.putfield 26) := ⟨by decide +kernel, rfl⟩
theorem fcX7_26 : FPc RX7 26 6 3 (.object "LoadYard$Sending") true := ⟨RX7, TX7, 9, tyX7, rfl, by decide, gwX7, (gmem 236 (by decide +kernel) (by decide +kernel)), tyX7_ok, nmX7, rfl, rfl, by decide +kernel⟩
theorem iX7_init_48 : At mX7_init 48 49 1 (.aload_n 0) := ⟨by decide +kernel, rfl⟩
theorem iX7_init_49 : At mX7_init 49 52 3 (.new 29) := ⟨by decide +kernel, rfl⟩
theorem nwX7_29 : Nw RX7 29 5 [.null, .null, .null, .null, .null, .null, .null, .null] := ⟨RX6, TX6, 8, tyX6, rfl, rfl, gwX6, tyX6_ok, (gmem 130 (by decide +kernel) (by decide +kernel)), (gmem 131 (by decide +kernel) (by decide +kernel)), (gmem 4 (by decide +kernel) (by decide +kernel)), by decide +kernel⟩
theorem iX7_init_52 : At mX7_init 52 53 1 (.dup) := ⟨by decide +kernel, rfl⟩
theorem iX7_init_53 : At mX7_init 53 56 3 (.invokespecial 31) := ⟨by decide +kernel, rfl⟩
theorem iX7_init_56 : At mX7_init 56 59 3 (.putfield 32) := ⟨by decide +kernel, rfl⟩
theorem fcX7_32 : FPc RX7 32 6 4 (.object "LoadYard$Ways") true := ⟨RX7, TX7, 9, tyX7, rfl, by decide, gwX7, (gmem 237 (by decide +kernel) (by decide +kernel)), tyX7_ok, nmX7, rfl, rfl, by decide +kernel⟩
theorem iX7_init_59 : At mX7_init 59 60 1 (.aload_n 0) := ⟨by decide +kernel, rfl⟩
theorem iX7_init_60 : At mX7_init 60 63 3 (.new 36) := ⟨by decide +kernel, rfl⟩
theorem nwX7_36 : Nw RX7 36 1 [.null] := ⟨RX2, TX2, 1, tyX2, rfl, rfl, gwX2, tyX2_ok, (gmem 181 (by decide +kernel) (by decide +kernel)), (gmem 137 (by decide +kernel) (by decide +kernel)), (gmem 5 (by decide +kernel) (by decide +kernel)), by decide +kernel⟩
theorem iX7_init_63 : At mX7_init 63 64 1 (.dup) := ⟨by decide +kernel, rfl⟩
theorem iX7_init_64 : At mX7_init 64 67 3 (.invokespecial 38) := ⟨by decide +kernel, rfl⟩
theorem iX7_init_67 : At mX7_init 67 70 3 (.putfield 39) := ⟨by decide +kernel, rfl⟩
theorem fcX7_39 : FPc RX7 39 6 5 (.object "LoadYard$Distances") true := ⟨RX7, TX7, 9, tyX7, rfl, by decide, gwX7, (gmem 238 (by decide +kernel) (by decide +kernel)), tyX7_ok, nmX7, rfl, rfl, by decide +kernel⟩
theorem iX7_init_70 : At mX7_init 70 71 1 (.aload_n 0) := ⟨by decide +kernel, rfl⟩
theorem iX7_init_71 : At mX7_init 71 74 3 (.new 43) := ⟨by decide +kernel, rfl⟩
theorem nwX7_43 : Nw RX7 43 0 [.int 0, .null, .null, .null, .null, .null, .null, .null] := ⟨RX0, TX0, 8, tyX0, rfl, rfl, gwX0, tyX0_ok, (gmem 183 (by decide +kernel) (by decide +kernel)), (gmem 184 (by decide +kernel) (by decide +kernel)), (gmem 6 (by decide +kernel) (by decide +kernel)), by decide +kernel⟩
theorem iX7_init_74 : At mX7_init 74 75 1 (.dup) := ⟨by decide +kernel, rfl⟩
theorem iX7_init_75 : At mX7_init 75 78 3 (.invokespecial 45) := ⟨by decide +kernel, rfl⟩
theorem iX7_init_78 : At mX7_init 78 81 3 (.putfield 46) := ⟨by decide +kernel, rfl⟩
theorem fcX7_46 : FPc RX7 46 6 6 (.object "LoadYard$Choice") true := ⟨RX7, TX7, 9, tyX7, rfl, by decide, gwX7, (gmem 239 (by decide +kernel) (by decide +kernel)), tyX7_ok, nmX7, rfl, rfl, by decide +kernel⟩
theorem iX7_init_81 : At mX7_init 81 82 1 (.aload_n 0) := ⟨by decide +kernel, rfl⟩
theorem iX7_init_82 : At mX7_init 82 85 3 (.new 50) := ⟨by decide +kernel, rfl⟩
theorem nwX7_50 : Nw RX7 50 4 [.null, .null, .null] := ⟨RX5, TX5, 3, tyX5, rfl, rfl, gwX5, tyX5_ok, (gmem 217 (by decide +kernel) (by decide +kernel)), (gmem 218 (by decide +kernel) (by decide +kernel)), (gmem 7 (by decide +kernel) (by decide +kernel)), by decide +kernel⟩
theorem iX7_init_85 : At mX7_init 85 86 1 (.dup) := ⟨by decide +kernel, rfl⟩
theorem iX7_init_86 : At mX7_init 86 89 3 (.invokespecial 52) := ⟨by decide +kernel, rfl⟩
theorem iX7_init_89 : At mX7_init 89 92 3 (.putfield 53) := ⟨by decide +kernel, rfl⟩
theorem fcX7_53 : FPc RX7 53 6 7 (.object "LoadYard$Shares") true := ⟨RX7, TX7, 9, tyX7, rfl, by decide, gwX7, (gmem 240 (by decide +kernel) (by decide +kernel)), tyX7_ok, nmX7, rfl, rfl, by decide +kernel⟩
theorem iX7_init_92 : At mX7_init 92 93 1 (.aload_n 0) := ⟨by decide +kernel, rfl⟩
theorem iX7_init_93 : At mX7_init 93 94 1 (.iconst 0) := ⟨by decide +kernel, rfl⟩
theorem iX7_init_94 : At mX7_init 94 97 3 (.putfield 57) := ⟨by decide +kernel, rfl⟩
theorem fcX7_57 : FPc RX7 57 6 8 .boolean false := ⟨RX7, TX7, 9, tyX7, rfl, by decide, gwX7, (gmem 241 (by decide +kernel) (by decide +kernel)), tyX7_ok, nmX7, rfl, rfl, by decide +kernel⟩
theorem iX7_init_97 : At mX7_init 97 98 1 (.return_) := ⟨by decide +kernel, rfl⟩
theorem olX7 : Cond.methodLink RX7 3 Lib.objectInit ∈ gtab := (gmem 18 (by decide +kernel) (by decide +kernel))
def mX8_init : Mth := (⟨RX8, "<init>", "()V"⟩, prog_10_method_1_code, 1, none)
theorem miX8_init : Mi mX8_init := ⟨(gmem 726 (by decide +kernel) (by decide +kernel)), (gmem 8 (by decide +kernel) (by decide +kernel)), (gmem 725 (by decide +kernel) (by decide +kernel)), rfl, rfl, by decide +kernel, by decide +kernel, by decide +kernel, by decide⟩
theorem iX8_init_0 : At mX8_init 0 1 1 (.aload_n 0) := ⟨by decide +kernel, rfl⟩
theorem iX8_init_1 : At mX8_init 1 4 3 (.invokespecial 1) := ⟨by decide +kernel, rfl⟩
theorem iX8_init_4 : At mX8_init 4 5 1 (.aload_n 0) := ⟨by decide +kernel, rfl⟩
theorem iX8_init_5 : At mX8_init 5 6 1 (.iconst 1) := ⟨by decide +kernel, rfl⟩
theorem iX8_init_6 : At mX8_init 6 9 3 (.putfield 7) := ⟨by decide +kernel, rfl⟩
theorem fcX8_7 : FPc RX8 7 7 0 .int false := ⟨RX8, TX8, 33, tyX8, rfl, by decide, gwX8, (gmem 728 (by decide +kernel) (by decide +kernel)), tyX8_ok, nmX8, rfl, rfl, by decide +kernel⟩
theorem iX8_init_9 : At mX8_init 9 10 1 (.aload_n 0) := ⟨by decide +kernel, rfl⟩
theorem iX8_init_10 : At mX8_init 10 12 2 (.bipush 40) := ⟨by decide +kernel, rfl⟩
theorem iX8_init_12 : At mX8_init 12 14 2 (.newarray .int) := ⟨by decide +kernel, rfl⟩
theorem iX8_init_14 : At mX8_init 14 17 3 (.putfield 13) := ⟨by decide +kernel, rfl⟩
theorem fcX8_13 : FPc RX8 13 7 2 (.array .int) true := ⟨RX8, TX8, 33, tyX8, rfl, by decide, gwX8, (gmem 730 (by decide +kernel) (by decide +kernel)), tyX8_ok, nmX8, rfl, rfl, by decide +kernel⟩
theorem iX8_init_17 : At mX8_init 17 18 1 (.aload_n 0) := ⟨by decide +kernel, rfl⟩
theorem iX8_init_18 : At mX8_init 18 20 2 (.bipush 20) := ⟨by decide +kernel, rfl⟩
theorem iX8_init_20 : At mX8_init 20 22 2 (.newarray .int) := ⟨by decide +kernel, rfl⟩
theorem iX8_init_22 : At mX8_init 22 25 3 (.putfield 17) := ⟨by decide +kernel, rfl⟩
theorem fcX8_17 : FPc RX8 17 7 3 (.array .int) true := ⟨RX8, TX8, 33, tyX8, rfl, by decide, gwX8, (gmem 731 (by decide +kernel) (by decide +kernel)), tyX8_ok, nmX8, rfl, rfl, by decide +kernel⟩
theorem iX8_init_25 : At mX8_init 25 26 1 (.aload_n 0) := ⟨by decide +kernel, rfl⟩
theorem iX8_init_26 : At mX8_init 26 28 2 (.bipush 20) := ⟨by decide +kernel, rfl⟩
theorem iX8_init_28 : At mX8_init 28 30 2 (.newarray .int) := ⟨by decide +kernel, rfl⟩
theorem iX8_init_30 : At mX8_init 30 33 3 (.putfield 20) := ⟨by decide +kernel, rfl⟩
theorem fcX8_20 : FPc RX8 20 7 4 (.array .int) true := ⟨RX8, TX8, 33, tyX8, rfl, by decide, gwX8, (gmem 732 (by decide +kernel) (by decide +kernel)), tyX8_ok, nmX8, rfl, rfl, by decide +kernel⟩
theorem iX8_init_33 : At mX8_init 33 34 1 (.aload_n 0) := ⟨by decide +kernel, rfl⟩
theorem iX8_init_34 : At mX8_init 34 36 2 (.bipush 20) := ⟨by decide +kernel, rfl⟩
theorem iX8_init_36 : At mX8_init 36 38 2 (.newarray .int) := ⟨by decide +kernel, rfl⟩
theorem iX8_init_38 : At mX8_init 38 41 3 (.putfield 23) := ⟨by decide +kernel, rfl⟩
theorem fcX8_23 : FPc RX8 23 7 5 (.array .int) true := ⟨RX8, TX8, 33, tyX8, rfl, by decide, gwX8, (gmem 733 (by decide +kernel) (by decide +kernel)), tyX8_ok, nmX8, rfl, rfl, by decide +kernel⟩
theorem iX8_init_41 : At mX8_init 41 42 1 (.aload_n 0) := ⟨by decide +kernel, rfl⟩
theorem iX8_init_42 : At mX8_init 42 43 1 (.iconst 5) := ⟨by decide +kernel, rfl⟩
theorem iX8_init_43 : At mX8_init 43 45 2 (.newarray .int) := ⟨by decide +kernel, rfl⟩
theorem iX8_init_45 : At mX8_init 45 48 3 (.putfield 26) := ⟨by decide +kernel, rfl⟩
theorem fcX8_26 : FPc RX8 26 7 7 (.array .int) true := ⟨RX8, TX8, 33, tyX8, rfl, by decide, gwX8, (gmem 735 (by decide +kernel) (by decide +kernel)), tyX8_ok, nmX8, rfl, rfl, by decide +kernel⟩
theorem iX8_init_48 : At mX8_init 48 49 1 (.aload_n 0) := ⟨by decide +kernel, rfl⟩
theorem iX8_init_49 : At mX8_init 49 50 1 (.iconst 5) := ⟨by decide +kernel, rfl⟩
theorem iX8_init_50 : At mX8_init 50 52 2 (.newarray .int) := ⟨by decide +kernel, rfl⟩
theorem iX8_init_52 : At mX8_init 52 55 3 (.putfield 29) := ⟨by decide +kernel, rfl⟩
theorem fcX8_29 : FPc RX8 29 7 8 (.array .int) true := ⟨RX8, TX8, 33, tyX8, rfl, by decide, gwX8, (gmem 736 (by decide +kernel) (by decide +kernel)), tyX8_ok, nmX8, rfl, rfl, by decide +kernel⟩
theorem iX8_init_55 : At mX8_init 55 56 1 (.aload_n 0) := ⟨by decide +kernel, rfl⟩
theorem iX8_init_56 : At mX8_init 56 57 1 (.iconst 5) := ⟨by decide +kernel, rfl⟩
theorem iX8_init_57 : At mX8_init 57 59 2 (.newarray .int) := ⟨by decide +kernel, rfl⟩
theorem iX8_init_59 : At mX8_init 59 62 3 (.putfield 32) := ⟨by decide +kernel, rfl⟩
theorem fcX8_32 : FPc RX8 32 7 9 (.array .int) true := ⟨RX8, TX8, 33, tyX8, rfl, by decide, gwX8, (gmem 737 (by decide +kernel) (by decide +kernel)), tyX8_ok, nmX8, rfl, rfl, by decide +kernel⟩
theorem iX8_init_62 : At mX8_init 62 63 1 (.aload_n 0) := ⟨by decide +kernel, rfl⟩
theorem iX8_init_63 : At mX8_init 63 64 1 (.iconst 5) := ⟨by decide +kernel, rfl⟩
theorem iX8_init_64 : At mX8_init 64 66 2 (.newarray .int) := ⟨by decide +kernel, rfl⟩
theorem iX8_init_66 : At mX8_init 66 69 3 (.putfield 35) := ⟨by decide +kernel, rfl⟩
theorem fcX8_35 : FPc RX8 35 7 10 (.array .int) true := ⟨RX8, TX8, 33, tyX8, rfl, by decide, gwX8, (gmem 738 (by decide +kernel) (by decide +kernel)), tyX8_ok, nmX8, rfl, rfl, by decide +kernel⟩
theorem iX8_init_69 : At mX8_init 69 70 1 (.aload_n 0) := ⟨by decide +kernel, rfl⟩
theorem iX8_init_70 : At mX8_init 70 71 1 (.iconst 5) := ⟨by decide +kernel, rfl⟩
theorem iX8_init_71 : At mX8_init 71 73 2 (.newarray .int) := ⟨by decide +kernel, rfl⟩
theorem iX8_init_73 : At mX8_init 73 76 3 (.putfield 38) := ⟨by decide +kernel, rfl⟩
theorem fcX8_38 : FPc RX8 38 7 11 (.array .int) true := ⟨RX8, TX8, 33, tyX8, rfl, by decide, gwX8, (gmem 739 (by decide +kernel) (by decide +kernel)), tyX8_ok, nmX8, rfl, rfl, by decide +kernel⟩
theorem iX8_init_76 : At mX8_init 76 77 1 (.aload_n 0) := ⟨by decide +kernel, rfl⟩
theorem iX8_init_77 : At mX8_init 77 79 2 (.bipush 40) := ⟨by decide +kernel, rfl⟩
theorem iX8_init_79 : At mX8_init 79 81 2 (.newarray .int) := ⟨by decide +kernel, rfl⟩
theorem iX8_init_81 : At mX8_init 81 84 3 (.putfield 41) := ⟨by decide +kernel, rfl⟩
theorem fcX8_41 : FPc RX8 41 7 12 (.array .int) true := ⟨RX8, TX8, 33, tyX8, rfl, by decide, gwX8, (gmem 740 (by decide +kernel) (by decide +kernel)), tyX8_ok, nmX8, rfl, rfl, by decide +kernel⟩
theorem iX8_init_84 : At mX8_init 84 85 1 (.aload_n 0) := ⟨by decide +kernel, rfl⟩
theorem iX8_init_85 : At mX8_init 85 86 1 (.iconst 5) := ⟨by decide +kernel, rfl⟩
theorem iX8_init_86 : At mX8_init 86 88 2 (.newarray .int) := ⟨by decide +kernel, rfl⟩
theorem iX8_init_88 : At mX8_init 88 91 3 (.putfield 44) := ⟨by decide +kernel, rfl⟩
theorem fcX8_44 : FPc RX8 44 7 13 (.array .int) true := ⟨RX8, TX8, 33, tyX8, rfl, by decide, gwX8, (gmem 741 (by decide +kernel) (by decide +kernel)), tyX8_ok, nmX8, rfl, rfl, by decide +kernel⟩
theorem iX8_init_91 : At mX8_init 91 92 1 (.aload_n 0) := ⟨by decide +kernel, rfl⟩
theorem iX8_init_92 : At mX8_init 92 94 2 (.bipush 40) := ⟨by decide +kernel, rfl⟩
theorem iX8_init_94 : At mX8_init 94 96 2 (.newarray .int) := ⟨by decide +kernel, rfl⟩
theorem iX8_init_96 : At mX8_init 96 99 3 (.putfield 47) := ⟨by decide +kernel, rfl⟩
theorem fcX8_47 : FPc RX8 47 7 14 (.array .int) true := ⟨RX8, TX8, 33, tyX8, rfl, by decide, gwX8, (gmem 742 (by decide +kernel) (by decide +kernel)), tyX8_ok, nmX8, rfl, rfl, by decide +kernel⟩
theorem iX8_init_99 : At mX8_init 99 100 1 (.aload_n 0) := ⟨by decide +kernel, rfl⟩
theorem iX8_init_100 : At mX8_init 100 103 3 (.sipush 320) := ⟨by decide +kernel, rfl⟩
theorem iX8_init_103 : At mX8_init 103 105 2 (.newarray .int) := ⟨by decide +kernel, rfl⟩
theorem iX8_init_105 : At mX8_init 105 108 3 (.putfield 50) := ⟨by decide +kernel, rfl⟩
theorem fcX8_50 : FPc RX8 50 7 15 (.array .int) true := ⟨RX8, TX8, 33, tyX8, rfl, by decide, gwX8, (gmem 743 (by decide +kernel) (by decide +kernel)), tyX8_ok, nmX8, rfl, rfl, by decide +kernel⟩
theorem iX8_init_108 : At mX8_init 108 109 1 (.aload_n 0) := ⟨by decide +kernel, rfl⟩
theorem iX8_init_109 : At mX8_init 109 110 1 (.iconst 3) := ⟨by decide +kernel, rfl⟩
theorem iX8_init_110 : At mX8_init 110 112 2 (.newarray .int) := ⟨by decide +kernel, rfl⟩
theorem iX8_init_112 : At mX8_init 112 115 3 (.putfield 53) := ⟨by decide +kernel, rfl⟩
theorem fcX8_53 : FPc RX8 53 7 17 (.array .int) true := ⟨RX8, TX8, 33, tyX8, rfl, by decide, gwX8, (gmem 745 (by decide +kernel) (by decide +kernel)), tyX8_ok, nmX8, rfl, rfl, by decide +kernel⟩
theorem iX8_init_115 : At mX8_init 115 116 1 (.aload_n 0) := ⟨by decide +kernel, rfl⟩
theorem iX8_init_116 : At mX8_init 116 118 2 (.bipush 100) := ⟨by decide +kernel, rfl⟩
theorem iX8_init_118 : At mX8_init 118 120 2 (.newarray .int) := ⟨by decide +kernel, rfl⟩
theorem iX8_init_120 : At mX8_init 120 123 3 (.putfield 56) := ⟨by decide +kernel, rfl⟩
theorem fcX8_56 : FPc RX8 56 7 18 (.array .int) true := ⟨RX8, TX8, 33, tyX8, rfl, by decide, gwX8, (gmem 746 (by decide +kernel) (by decide +kernel)), tyX8_ok, nmX8, rfl, rfl, by decide +kernel⟩
theorem iX8_init_123 : At mX8_init 123 124 1 (.aload_n 0) := ⟨by decide +kernel, rfl⟩
theorem iX8_init_124 : At mX8_init 124 126 2 (.bipush 25) := ⟨by decide +kernel, rfl⟩
theorem iX8_init_126 : At mX8_init 126 128 2 (.newarray .int) := ⟨by decide +kernel, rfl⟩
theorem iX8_init_128 : At mX8_init 128 131 3 (.putfield 59) := ⟨by decide +kernel, rfl⟩
theorem fcX8_59 : FPc RX8 59 7 19 (.array .int) true := ⟨RX8, TX8, 33, tyX8, rfl, by decide, gwX8, (gmem 747 (by decide +kernel) (by decide +kernel)), tyX8_ok, nmX8, rfl, rfl, by decide +kernel⟩
theorem iX8_init_131 : At mX8_init 131 132 1 (.aload_n 0) := ⟨by decide +kernel, rfl⟩
theorem iX8_init_132 : At mX8_init 132 134 2 (.bipush 40) := ⟨by decide +kernel, rfl⟩
theorem iX8_init_134 : At mX8_init 134 136 2 (.newarray .int) := ⟨by decide +kernel, rfl⟩
theorem iX8_init_136 : At mX8_init 136 139 3 (.putfield 62) := ⟨by decide +kernel, rfl⟩
theorem fcX8_62 : FPc RX8 62 7 20 (.array .int) true := ⟨RX8, TX8, 33, tyX8, rfl, by decide, gwX8, (gmem 748 (by decide +kernel) (by decide +kernel)), tyX8_ok, nmX8, rfl, rfl, by decide +kernel⟩
theorem iX8_init_139 : At mX8_init 139 140 1 (.aload_n 0) := ⟨by decide +kernel, rfl⟩
theorem iX8_init_140 : At mX8_init 140 142 2 (.bipush 9) := ⟨by decide +kernel, rfl⟩
theorem iX8_init_142 : At mX8_init 142 144 2 (.newarray .int) := ⟨by decide +kernel, rfl⟩
theorem iX8_init_144 : At mX8_init 144 147 3 (.putfield 65) := ⟨by decide +kernel, rfl⟩
theorem fcX8_65 : FPc RX8 65 7 21 (.array .int) true := ⟨RX8, TX8, 33, tyX8, rfl, by decide, gwX8, (gmem 749 (by decide +kernel) (by decide +kernel)), tyX8_ok, nmX8, rfl, rfl, by decide +kernel⟩
theorem iX8_init_147 : At mX8_init 147 148 1 (.aload_n 0) := ⟨by decide +kernel, rfl⟩
theorem iX8_init_148 : At mX8_init 148 150 2 (.bipush 10) := ⟨by decide +kernel, rfl⟩
theorem iX8_init_150 : At mX8_init 150 152 2 (.newarray .int) := ⟨by decide +kernel, rfl⟩
theorem iX8_init_152 : At mX8_init 152 155 3 (.putfield 68) := ⟨by decide +kernel, rfl⟩
theorem fcX8_68 : FPc RX8 68 7 22 (.array .int) true := ⟨RX8, TX8, 33, tyX8, rfl, by decide, gwX8, (gmem 750 (by decide +kernel) (by decide +kernel)), tyX8_ok, nmX8, rfl, rfl, by decide +kernel⟩
theorem iX8_init_155 : At mX8_init 155 156 1 (.aload_n 0) := ⟨by decide +kernel, rfl⟩
theorem iX8_init_156 : At mX8_init 156 157 1 (.iconst 5) := ⟨by decide +kernel, rfl⟩
theorem iX8_init_157 : At mX8_init 157 159 2 (.newarray .int) := ⟨by decide +kernel, rfl⟩
theorem iX8_init_159 : At mX8_init 159 162 3 (.putfield 71) := ⟨by decide +kernel, rfl⟩
theorem fcX8_71 : FPc RX8 71 7 23 (.array .int) true := ⟨RX8, TX8, 33, tyX8, rfl, by decide, gwX8, (gmem 751 (by decide +kernel) (by decide +kernel)), tyX8_ok, nmX8, rfl, rfl, by decide +kernel⟩
theorem iX8_init_162 : At mX8_init 162 163 1 (.aload_n 0) := ⟨by decide +kernel, rfl⟩
theorem iX8_init_163 : At mX8_init 163 164 1 (.iconst 5) := ⟨by decide +kernel, rfl⟩
theorem iX8_init_164 : At mX8_init 164 166 2 (.newarray .int) := ⟨by decide +kernel, rfl⟩
theorem iX8_init_166 : At mX8_init 166 169 3 (.putfield 74) := ⟨by decide +kernel, rfl⟩
theorem fcX8_74 : FPc RX8 74 7 24 (.array .int) true := ⟨RX8, TX8, 33, tyX8, rfl, by decide, gwX8, (gmem 752 (by decide +kernel) (by decide +kernel)), tyX8_ok, nmX8, rfl, rfl, by decide +kernel⟩
theorem iX8_init_169 : At mX8_init 169 170 1 (.aload_n 0) := ⟨by decide +kernel, rfl⟩
theorem iX8_init_170 : At mX8_init 170 172 2 (.bipush 20) := ⟨by decide +kernel, rfl⟩
theorem iX8_init_172 : At mX8_init 172 174 2 (.newarray .int) := ⟨by decide +kernel, rfl⟩
theorem iX8_init_174 : At mX8_init 174 177 3 (.putfield 77) := ⟨by decide +kernel, rfl⟩
theorem fcX8_77 : FPc RX8 77 7 25 (.array .int) true := ⟨RX8, TX8, 33, tyX8, rfl, by decide, gwX8, (gmem 753 (by decide +kernel) (by decide +kernel)), tyX8_ok, nmX8, rfl, rfl, by decide +kernel⟩
theorem iX8_init_177 : At mX8_init 177 178 1 (.aload_n 0) := ⟨by decide +kernel, rfl⟩
theorem iX8_init_178 : At mX8_init 178 180 2 (.bipush 9) := ⟨by decide +kernel, rfl⟩
theorem iX8_init_180 : At mX8_init 180 182 2 (.newarray .int) := ⟨by decide +kernel, rfl⟩
theorem iX8_init_182 : At mX8_init 182 185 3 (.putfield 80) := ⟨by decide +kernel, rfl⟩
theorem fcX8_80 : FPc RX8 80 7 26 (.array .int) true := ⟨RX8, TX8, 33, tyX8, rfl, by decide, gwX8, (gmem 754 (by decide +kernel) (by decide +kernel)), tyX8_ok, nmX8, rfl, rfl, by decide +kernel⟩
theorem iX8_init_185 : At mX8_init 185 186 1 (.aload_n 0) := ⟨by decide +kernel, rfl⟩
theorem iX8_init_186 : At mX8_init 186 187 1 (.iconst 5) := ⟨by decide +kernel, rfl⟩
theorem iX8_init_187 : At mX8_init 187 189 2 (.newarray .boolean) := ⟨by decide +kernel, rfl⟩
theorem iX8_init_189 : At mX8_init 189 192 3 (.putfield 83) := ⟨by decide +kernel, rfl⟩
theorem fcX8_83 : FPc RX8 83 7 27 (.array .boolean) true := ⟨RX8, TX8, 33, tyX8, rfl, by decide, gwX8, (gmem 755 (by decide +kernel) (by decide +kernel)), tyX8_ok, nmX8, rfl, rfl, by decide +kernel⟩
theorem iX8_init_192 : At mX8_init 192 193 1 (.aload_n 0) := ⟨by decide +kernel, rfl⟩
theorem iX8_init_193 : At mX8_init 193 194 1 (.iconst 5) := ⟨by decide +kernel, rfl⟩
theorem iX8_init_194 : At mX8_init 194 196 2 (.newarray .int) := ⟨by decide +kernel, rfl⟩
theorem iX8_init_196 : At mX8_init 196 199 3 (.putfield 87) := ⟨by decide +kernel, rfl⟩
theorem fcX8_87 : FPc RX8 87 7 28 (.array .int) true := ⟨RX8, TX8, 33, tyX8, rfl, by decide, gwX8, (gmem 756 (by decide +kernel) (by decide +kernel)), tyX8_ok, nmX8, rfl, rfl, by decide +kernel⟩
theorem iX8_init_199 : At mX8_init 199 200 1 (.aload_n 0) := ⟨by decide +kernel, rfl⟩
theorem iX8_init_200 : At mX8_init 200 201 1 (.iconst 5) := ⟨by decide +kernel, rfl⟩
theorem iX8_init_201 : At mX8_init 201 203 2 (.newarray .long) := ⟨by decide +kernel, rfl⟩
theorem iX8_init_203 : At mX8_init 203 206 3 (.putfield 90) := ⟨by decide +kernel, rfl⟩
theorem fcX8_90 : FPc RX8 90 7 29 (.array .long) true := ⟨RX8, TX8, 33, tyX8, rfl, by decide, gwX8, (gmem 757 (by decide +kernel) (by decide +kernel)), tyX8_ok, nmX8, rfl, rfl, by decide +kernel⟩
theorem iX8_init_206 : At mX8_init 206 207 1 (.aload_n 0) := ⟨by decide +kernel, rfl⟩
theorem iX8_init_207 : At mX8_init 207 208 1 (.iconst 5) := ⟨by decide +kernel, rfl⟩
theorem iX8_init_208 : At mX8_init 208 210 2 (.newarray .long) := ⟨by decide +kernel, rfl⟩
theorem iX8_init_210 : At mX8_init 210 213 3 (.putfield 94) := ⟨by decide +kernel, rfl⟩
theorem fcX8_94 : FPc RX8 94 7 30 (.array .long) true := ⟨RX8, TX8, 33, tyX8, rfl, by decide, gwX8, (gmem 758 (by decide +kernel) (by decide +kernel)), tyX8_ok, nmX8, rfl, rfl, by decide +kernel⟩
theorem iX8_init_213 : At mX8_init 213 214 1 (.return_) := ⟨by decide +kernel, rfl⟩
theorem olX8 : Cond.methodLink RX8 1 Lib.objectInit ∈ gtab := (gmem 727 (by decide +kernel) (by decide +kernel))
theorem cX2_init {g : Gt} : Cn g mX2_init ⟨1, 1, 9, 12⟩ 1 [.null] (fun h w => ∃ q0, w = [(h, (.inr (1, [.ref q0]))), (q0, (.inl (g.2.2.2 0, 9, .inl (fun _ => 0))))]) := by
  refine Cn.in (by decide +kernel) rfl (by decide) (fun h => ?_)
  refine b_ald (j := 0) iX2_init_0 rfl rfl ?_
  refine b_obj iX2_init_1 olX2 objI objW (by decide) (by decide) ?_
  refine b_ald (j := 0) iX2_init_4 rfl rfl ?_
  refine b_bip (v := 9) iX2_init_5 (by decide) ?_
  refine b_newa (t := 0) (N := 9) (a0 := (9, .inl (fun _ => 0))) iX2_init_7 arrI rfl rfl (fun _ => rfl) (by decide) (by decide) (by decide) (by decide) (by decide) (fun q0 => ?_)
  refine b_put (k := 0) (v := .ref q0) (fs := [.null]) iX2_init_9 fcX2_9 rfl rfl rfl (Nat.le_of_ble_eq_true rfl) ?_
  refine b_ws (ws' := [(h, (.inr (1, [.ref q0]))), (q0, (.inl (g.2.2.2 0, 9, .inl (fun _ => 0))))]) rfl ?_
  exact b_ret iX2_init_12 rfl rfl rfl ⟨q0, rfl⟩
theorem cX3_init {g : Gt} : Cn g mX3_init ⟨1, 9, 120, 12⟩ 2 [.int 0, .int 0, .int 0, .null, .null, .null, .null, .null, .null, .null, .null, .null] (fun h w => ∃ q0 q1 q2 q3 q4 q5 q6 q7 q8, w = [(h, (.inr (2, [.int 1, .int 0, .int 0, .ref q0, .ref q1, .ref q2, .ref q3, .ref q4, .ref q5, .ref q6, .ref q7, .ref q8]))), (q0, (.inl (g.2.2.2 0, 20, .inl (fun _ => 0)))), (q1, (.inl (g.2.2.2 0, 20, .inl (fun _ => 0)))), (q2, (.inl (g.2.2.2 0, 20, .inl (fun _ => 0)))), (q3, (.inl (g.2.2.2 0, 20, .inl (fun _ => 0)))), (q4, (.inl (g.2.2.2 0, 20, .inl (fun _ => 0)))), (q5, (.inl (g.2.2.2 0, 5, .inl (fun _ => 0)))), (q6, (.inl (g.2.2.2 0, 5, .inl (fun _ => 0)))), (q7, (.inl (g.2.2.2 0, 5, .inl (fun _ => 0)))), (q8, (.inl (g.2.2.2 0, 5, .inl (fun _ => 0))))]) := by
  refine Cn.in (by decide +kernel) rfl (by decide) (fun h => ?_)
  refine b_ald (j := 0) iX3_init_0 rfl rfl ?_
  refine b_obj iX3_init_1 olX3 objI objW (by decide) (by decide) ?_
  refine b_ald (j := 0) iX3_init_4 rfl rfl ?_
  refine b_con (v := 1) iX3_init_5 (by decide) ?_
  refine b_put (k := 0) (v := .int 1) (fs := [.int 0, .int 0, .int 0, .null, .null, .null, .null, .null, .null, .null, .null, .null]) iX3_init_6 fcX3_9 rfl rfl rfl (Nat.le_of_ble_eq_true rfl) ?_
  refine b_ws (ws' := [(h, (.inr (2, [.int 1, .int 0, .int 0, .null, .null, .null, .null, .null, .null, .null, .null, .null])))]) rfl ?_
  refine b_ald (j := 0) iX3_init_9 rfl rfl ?_
  refine b_con (v := 0) iX3_init_10 (by decide) ?_
  refine b_put (k := 1) (v := .int 0) (fs := [.int 1, .int 0, .int 0, .null, .null, .null, .null, .null, .null, .null, .null, .null]) iX3_init_11 fcX3_15 rfl rfl rfl (Nat.le_of_ble_eq_true rfl) ?_
  refine b_ws (ws' := [(h, (.inr (2, [.int 1, .int 0, .int 0, .null, .null, .null, .null, .null, .null, .null, .null, .null])))]) rfl ?_
  refine b_ald (j := 0) iX3_init_14 rfl rfl ?_
  refine b_con (v := 0) iX3_init_15 (by decide) ?_
  refine b_put (k := 2) (v := .int 0) (fs := [.int 1, .int 0, .int 0, .null, .null, .null, .null, .null, .null, .null, .null, .null]) iX3_init_16 fcX3_18 rfl rfl rfl (Nat.le_of_ble_eq_true rfl) ?_
  refine b_ws (ws' := [(h, (.inr (2, [.int 1, .int 0, .int 0, .null, .null, .null, .null, .null, .null, .null, .null, .null])))]) rfl ?_
  refine b_ald (j := 0) iX3_init_19 rfl rfl ?_
  refine b_bip (v := 20) iX3_init_20 (by decide) ?_
  refine b_newa (t := 0) (N := 20) (a0 := (20, .inl (fun _ => 0))) iX3_init_22 arrI rfl rfl (fun _ => rfl) (by decide) (by decide) (by decide) (by decide) (by decide) (fun q0 => ?_)
  refine b_put (k := 3) (v := .ref q0) (fs := [.int 1, .int 0, .int 0, .null, .null, .null, .null, .null, .null, .null, .null, .null]) iX3_init_24 fcX3_21 rfl rfl rfl (Nat.le_of_ble_eq_true rfl) ?_
  refine b_ws (ws' := [(h, (.inr (2, [.int 1, .int 0, .int 0, .ref q0, .null, .null, .null, .null, .null, .null, .null, .null]))), (q0, (.inl (g.2.2.2 0, 20, .inl (fun _ => 0))))]) rfl ?_
  refine b_ald (j := 0) iX3_init_27 rfl rfl ?_
  refine b_bip (v := 20) iX3_init_28 (by decide) ?_
  refine b_newa (t := 0) (N := 20) (a0 := (20, .inl (fun _ => 0))) iX3_init_30 arrI rfl rfl (fun _ => rfl) (by decide) (by decide) (by decide) (by decide) (by decide) (fun q1 => ?_)
  refine b_put (k := 4) (v := .ref q1) (fs := [.int 1, .int 0, .int 0, .ref q0, .null, .null, .null, .null, .null, .null, .null, .null]) iX3_init_32 fcX3_25 rfl rfl rfl (Nat.le_of_ble_eq_true rfl) ?_
  refine b_ws (ws' := [(h, (.inr (2, [.int 1, .int 0, .int 0, .ref q0, .ref q1, .null, .null, .null, .null, .null, .null, .null]))), (q0, (.inl (g.2.2.2 0, 20, .inl (fun _ => 0)))), (q1, (.inl (g.2.2.2 0, 20, .inl (fun _ => 0))))]) rfl ?_
  refine b_ald (j := 0) iX3_init_35 rfl rfl ?_
  refine b_bip (v := 20) iX3_init_36 (by decide) ?_
  refine b_newa (t := 0) (N := 20) (a0 := (20, .inl (fun _ => 0))) iX3_init_38 arrI rfl rfl (fun _ => rfl) (by decide) (by decide) (by decide) (by decide) (by decide) (fun q2 => ?_)
  refine b_put (k := 5) (v := .ref q2) (fs := [.int 1, .int 0, .int 0, .ref q0, .ref q1, .null, .null, .null, .null, .null, .null, .null]) iX3_init_40 fcX3_28 rfl rfl rfl (Nat.le_of_ble_eq_true rfl) ?_
  refine b_ws (ws' := [(h, (.inr (2, [.int 1, .int 0, .int 0, .ref q0, .ref q1, .ref q2, .null, .null, .null, .null, .null, .null]))), (q0, (.inl (g.2.2.2 0, 20, .inl (fun _ => 0)))), (q1, (.inl (g.2.2.2 0, 20, .inl (fun _ => 0)))), (q2, (.inl (g.2.2.2 0, 20, .inl (fun _ => 0))))]) rfl ?_
  refine b_ald (j := 0) iX3_init_43 rfl rfl ?_
  refine b_bip (v := 20) iX3_init_44 (by decide) ?_
  refine b_newa (t := 0) (N := 20) (a0 := (20, .inl (fun _ => 0))) iX3_init_46 arrI rfl rfl (fun _ => rfl) (by decide) (by decide) (by decide) (by decide) (by decide) (fun q3 => ?_)
  refine b_put (k := 6) (v := .ref q3) (fs := [.int 1, .int 0, .int 0, .ref q0, .ref q1, .ref q2, .null, .null, .null, .null, .null, .null]) iX3_init_48 fcX3_31 rfl rfl rfl (Nat.le_of_ble_eq_true rfl) ?_
  refine b_ws (ws' := [(h, (.inr (2, [.int 1, .int 0, .int 0, .ref q0, .ref q1, .ref q2, .ref q3, .null, .null, .null, .null, .null]))), (q0, (.inl (g.2.2.2 0, 20, .inl (fun _ => 0)))), (q1, (.inl (g.2.2.2 0, 20, .inl (fun _ => 0)))), (q2, (.inl (g.2.2.2 0, 20, .inl (fun _ => 0)))), (q3, (.inl (g.2.2.2 0, 20, .inl (fun _ => 0))))]) rfl ?_
  refine b_ald (j := 0) iX3_init_51 rfl rfl ?_
  refine b_bip (v := 20) iX3_init_52 (by decide) ?_
  refine b_newa (t := 0) (N := 20) (a0 := (20, .inl (fun _ => 0))) iX3_init_54 arrI rfl rfl (fun _ => rfl) (by decide) (by decide) (by decide) (by decide) (by decide) (fun q4 => ?_)
  refine b_put (k := 7) (v := .ref q4) (fs := [.int 1, .int 0, .int 0, .ref q0, .ref q1, .ref q2, .ref q3, .null, .null, .null, .null, .null]) iX3_init_56 fcX3_34 rfl rfl rfl (Nat.le_of_ble_eq_true rfl) ?_
  refine b_ws (ws' := [(h, (.inr (2, [.int 1, .int 0, .int 0, .ref q0, .ref q1, .ref q2, .ref q3, .ref q4, .null, .null, .null, .null]))), (q0, (.inl (g.2.2.2 0, 20, .inl (fun _ => 0)))), (q1, (.inl (g.2.2.2 0, 20, .inl (fun _ => 0)))), (q2, (.inl (g.2.2.2 0, 20, .inl (fun _ => 0)))), (q3, (.inl (g.2.2.2 0, 20, .inl (fun _ => 0)))), (q4, (.inl (g.2.2.2 0, 20, .inl (fun _ => 0))))]) rfl ?_
  refine b_ald (j := 0) iX3_init_59 rfl rfl ?_
  refine b_con (v := 5) iX3_init_60 (by decide) ?_
  refine b_newa (t := 0) (N := 5) (a0 := (5, .inl (fun _ => 0))) iX3_init_61 arrI rfl rfl (fun _ => rfl) (by decide) (by decide) (by decide) (by decide) (by decide) (fun q5 => ?_)
  refine b_put (k := 8) (v := .ref q5) (fs := [.int 1, .int 0, .int 0, .ref q0, .ref q1, .ref q2, .ref q3, .ref q4, .null, .null, .null, .null]) iX3_init_63 fcX3_37 rfl rfl rfl (Nat.le_of_ble_eq_true rfl) ?_
  refine b_ws (ws' := [(h, (.inr (2, [.int 1, .int 0, .int 0, .ref q0, .ref q1, .ref q2, .ref q3, .ref q4, .ref q5, .null, .null, .null]))), (q0, (.inl (g.2.2.2 0, 20, .inl (fun _ => 0)))), (q1, (.inl (g.2.2.2 0, 20, .inl (fun _ => 0)))), (q2, (.inl (g.2.2.2 0, 20, .inl (fun _ => 0)))), (q3, (.inl (g.2.2.2 0, 20, .inl (fun _ => 0)))), (q4, (.inl (g.2.2.2 0, 20, .inl (fun _ => 0)))), (q5, (.inl (g.2.2.2 0, 5, .inl (fun _ => 0))))]) rfl ?_
  refine b_ald (j := 0) iX3_init_66 rfl rfl ?_
  refine b_con (v := 5) iX3_init_67 (by decide) ?_
  refine b_newa (t := 0) (N := 5) (a0 := (5, .inl (fun _ => 0))) iX3_init_68 arrI rfl rfl (fun _ => rfl) (by decide) (by decide) (by decide) (by decide) (by decide) (fun q6 => ?_)
  refine b_put (k := 9) (v := .ref q6) (fs := [.int 1, .int 0, .int 0, .ref q0, .ref q1, .ref q2, .ref q3, .ref q4, .ref q5, .null, .null, .null]) iX3_init_70 fcX3_40 rfl rfl rfl (Nat.le_of_ble_eq_true rfl) ?_
  refine b_ws (ws' := [(h, (.inr (2, [.int 1, .int 0, .int 0, .ref q0, .ref q1, .ref q2, .ref q3, .ref q4, .ref q5, .ref q6, .null, .null]))), (q0, (.inl (g.2.2.2 0, 20, .inl (fun _ => 0)))), (q1, (.inl (g.2.2.2 0, 20, .inl (fun _ => 0)))), (q2, (.inl (g.2.2.2 0, 20, .inl (fun _ => 0)))), (q3, (.inl (g.2.2.2 0, 20, .inl (fun _ => 0)))), (q4, (.inl (g.2.2.2 0, 20, .inl (fun _ => 0)))), (q5, (.inl (g.2.2.2 0, 5, .inl (fun _ => 0)))), (q6, (.inl (g.2.2.2 0, 5, .inl (fun _ => 0))))]) rfl ?_
  refine b_ald (j := 0) iX3_init_73 rfl rfl ?_
  refine b_con (v := 5) iX3_init_74 (by decide) ?_
  refine b_newa (t := 0) (N := 5) (a0 := (5, .inl (fun _ => 0))) iX3_init_75 arrI rfl rfl (fun _ => rfl) (by decide) (by decide) (by decide) (by decide) (by decide) (fun q7 => ?_)
  refine b_put (k := 10) (v := .ref q7) (fs := [.int 1, .int 0, .int 0, .ref q0, .ref q1, .ref q2, .ref q3, .ref q4, .ref q5, .ref q6, .null, .null]) iX3_init_77 fcX3_43 rfl rfl rfl (Nat.le_of_ble_eq_true rfl) ?_
  refine b_ws (ws' := [(h, (.inr (2, [.int 1, .int 0, .int 0, .ref q0, .ref q1, .ref q2, .ref q3, .ref q4, .ref q5, .ref q6, .ref q7, .null]))), (q0, (.inl (g.2.2.2 0, 20, .inl (fun _ => 0)))), (q1, (.inl (g.2.2.2 0, 20, .inl (fun _ => 0)))), (q2, (.inl (g.2.2.2 0, 20, .inl (fun _ => 0)))), (q3, (.inl (g.2.2.2 0, 20, .inl (fun _ => 0)))), (q4, (.inl (g.2.2.2 0, 20, .inl (fun _ => 0)))), (q5, (.inl (g.2.2.2 0, 5, .inl (fun _ => 0)))), (q6, (.inl (g.2.2.2 0, 5, .inl (fun _ => 0)))), (q7, (.inl (g.2.2.2 0, 5, .inl (fun _ => 0))))]) rfl ?_
  refine b_ald (j := 0) iX3_init_80 rfl rfl ?_
  refine b_con (v := 5) iX3_init_81 (by decide) ?_
  refine b_newa (t := 0) (N := 5) (a0 := (5, .inl (fun _ => 0))) iX3_init_82 arrI rfl rfl (fun _ => rfl) (by decide) (by decide) (by decide) (by decide) (by decide) (fun q8 => ?_)
  refine b_put (k := 11) (v := .ref q8) (fs := [.int 1, .int 0, .int 0, .ref q0, .ref q1, .ref q2, .ref q3, .ref q4, .ref q5, .ref q6, .ref q7, .null]) iX3_init_84 fcX3_46 rfl rfl rfl (Nat.le_of_ble_eq_true rfl) ?_
  refine b_ws (ws' := [(h, (.inr (2, [.int 1, .int 0, .int 0, .ref q0, .ref q1, .ref q2, .ref q3, .ref q4, .ref q5, .ref q6, .ref q7, .ref q8]))), (q0, (.inl (g.2.2.2 0, 20, .inl (fun _ => 0)))), (q1, (.inl (g.2.2.2 0, 20, .inl (fun _ => 0)))), (q2, (.inl (g.2.2.2 0, 20, .inl (fun _ => 0)))), (q3, (.inl (g.2.2.2 0, 20, .inl (fun _ => 0)))), (q4, (.inl (g.2.2.2 0, 20, .inl (fun _ => 0)))), (q5, (.inl (g.2.2.2 0, 5, .inl (fun _ => 0)))), (q6, (.inl (g.2.2.2 0, 5, .inl (fun _ => 0)))), (q7, (.inl (g.2.2.2 0, 5, .inl (fun _ => 0)))), (q8, (.inl (g.2.2.2 0, 5, .inl (fun _ => 0))))]) rfl ?_
  exact b_ret iX3_init_87 rfl rfl rfl ⟨q0, q1, q2, q3, q4, q5, q6, q7, q8, rfl⟩
theorem cX4_init {g : Gt} : Cn g mX4_init ⟨1, 2, 45, 12⟩ 3 [.null, .null] (fun h w => ∃ q0 q1, w = [(h, (.inr (3, [.ref q0, .ref q1]))), (q0, (.inl (g.2.2.2 0, 40, .inl (fun _ => 0)))), (q1, (.inl (g.2.2.2 0, 5, .inl (fun _ => 0))))]) := by
  refine Cn.in (by decide +kernel) rfl (by decide) (fun h => ?_)
  refine b_ald (j := 0) iX4_init_0 rfl rfl ?_
  refine b_obj iX4_init_1 olX4 objI objW (by decide) (by decide) ?_
  refine b_ald (j := 0) iX4_init_4 rfl rfl ?_
  refine b_bip (v := 40) iX4_init_5 (by decide) ?_
  refine b_newa (t := 0) (N := 40) (a0 := (40, .inl (fun _ => 0))) iX4_init_7 arrI rfl rfl (fun _ => rfl) (by decide) (by decide) (by decide) (by decide) (by decide) (fun q0 => ?_)
  refine b_put (k := 0) (v := .ref q0) (fs := [.null, .null]) iX4_init_9 fcX4_9 rfl rfl rfl (Nat.le_of_ble_eq_true rfl) ?_
  refine b_ws (ws' := [(h, (.inr (3, [.ref q0, .null]))), (q0, (.inl (g.2.2.2 0, 40, .inl (fun _ => 0))))]) rfl ?_
  refine b_ald (j := 0) iX4_init_12 rfl rfl ?_
  refine b_con (v := 5) iX4_init_13 (by decide) ?_
  refine b_newa (t := 0) (N := 5) (a0 := (5, .inl (fun _ => 0))) iX4_init_14 arrI rfl rfl (fun _ => rfl) (by decide) (by decide) (by decide) (by decide) (by decide) (fun q1 => ?_)
  refine b_put (k := 1) (v := .ref q1) (fs := [.ref q0, .null]) iX4_init_16 fcX4_15 rfl rfl rfl (Nat.le_of_ble_eq_true rfl) ?_
  refine b_ws (ws' := [(h, (.inr (3, [.ref q0, .ref q1]))), (q0, (.inl (g.2.2.2 0, 40, .inl (fun _ => 0)))), (q1, (.inl (g.2.2.2 0, 5, .inl (fun _ => 0))))]) rfl ?_
  exact b_ret iX4_init_19 rfl rfl rfl ⟨q0, q1, rfl⟩
theorem cX0_init {g : Gt} : Cn g mX0_init ⟨1, 7, 86, 12⟩ 0 [.int 0, .null, .null, .null, .null, .null, .null, .null] (fun h w => ∃ q0 q1 q2 q3 q4 q5 q6, w = [(h, (.inr (0, [.int 1000000000, .ref q0, .ref q1, .ref q2, .ref q3, .ref q4, .ref q5, .ref q6]))), (q0, (.inl (g.2.2.2 0, 5, .inl (fun _ => 0)))), (q1, (.inl (g.2.2.2 0, 5, .inl (fun _ => 0)))), (q2, (.inl (g.2.2.2 0, 5, .inl (fun _ => 0)))), (q3, (.inl (g.2.2.2 0, 5, .inl (fun _ => 0)))), (q4, (.inl (g.2.2.2 0, 40, .inl (fun _ => 0)))), (q5, (.inl (g.2.2.2 0, 6, .inl (fun _ => 0)))), (q6, (.inl (g.2.2.2 0, 20, .inl (fun _ => 0))))]) := by
  refine Cn.in (by decide +kernel) rfl (by decide) (fun h => ?_)
  refine b_ald (j := 0) iX0_init_0 rfl rfl ?_
  refine b_obj iX0_init_1 olX0 objI objW (by decide) (by decide) ?_
  refine b_ald (j := 0) iX0_init_4 rfl rfl ?_
  refine b_ldc (v := 1000000000) iX0_init_5 (gmem 189 (by decide +kernel) (by decide +kernel)) ?_
  refine b_put (k := 0) (v := .int 1000000000) (fs := [.int 0, .null, .null, .null, .null, .null, .null, .null]) iX0_init_7 fcX0_12 rfl rfl rfl (Nat.le_of_ble_eq_true rfl) ?_
  refine b_ws (ws' := [(h, (.inr (0, [.int 1000000000, .null, .null, .null, .null, .null, .null, .null])))]) rfl ?_
  refine b_ald (j := 0) iX0_init_10 rfl rfl ?_
  refine b_con (v := 5) iX0_init_11 (by decide) ?_
  refine b_newa (t := 0) (N := 5) (a0 := (5, .inl (fun _ => 0))) iX0_init_12 arrI rfl rfl (fun _ => rfl) (by decide) (by decide) (by decide) (by decide) (by decide) (fun q0 => ?_)
  refine b_put (k := 1) (v := .ref q0) (fs := [.int 1000000000, .null, .null, .null, .null, .null, .null, .null]) iX0_init_14 fcX0_16 rfl rfl rfl (Nat.le_of_ble_eq_true rfl) ?_
  refine b_ws (ws' := [(h, (.inr (0, [.int 1000000000, .ref q0, .null, .null, .null, .null, .null, .null]))), (q0, (.inl (g.2.2.2 0, 5, .inl (fun _ => 0))))]) rfl ?_
  refine b_ald (j := 0) iX0_init_17 rfl rfl ?_
  refine b_con (v := 5) iX0_init_18 (by decide) ?_
  refine b_newa (t := 0) (N := 5) (a0 := (5, .inl (fun _ => 0))) iX0_init_19 arrI rfl rfl (fun _ => rfl) (by decide) (by decide) (by decide) (by decide) (by decide) (fun q1 => ?_)
  refine b_put (k := 2) (v := .ref q1) (fs := [.int 1000000000, .ref q0, .null, .null, .null, .null, .null, .null]) iX0_init_21 fcX0_20 rfl rfl rfl (Nat.le_of_ble_eq_true rfl) ?_
  refine b_ws (ws' := [(h, (.inr (0, [.int 1000000000, .ref q0, .ref q1, .null, .null, .null, .null, .null]))), (q0, (.inl (g.2.2.2 0, 5, .inl (fun _ => 0)))), (q1, (.inl (g.2.2.2 0, 5, .inl (fun _ => 0))))]) rfl ?_
  refine b_ald (j := 0) iX0_init_24 rfl rfl ?_
  refine b_con (v := 5) iX0_init_25 (by decide) ?_
  refine b_newa (t := 0) (N := 5) (a0 := (5, .inl (fun _ => 0))) iX0_init_26 arrI rfl rfl (fun _ => rfl) (by decide) (by decide) (by decide) (by decide) (by decide) (fun q2 => ?_)
  refine b_put (k := 3) (v := .ref q2) (fs := [.int 1000000000, .ref q0, .ref q1, .null, .null, .null, .null, .null]) iX0_init_28 fcX0_23 rfl rfl rfl (Nat.le_of_ble_eq_true rfl) ?_
  refine b_ws (ws' := [(h, (.inr (0, [.int 1000000000, .ref q0, .ref q1, .ref q2, .null, .null, .null, .null]))), (q0, (.inl (g.2.2.2 0, 5, .inl (fun _ => 0)))), (q1, (.inl (g.2.2.2 0, 5, .inl (fun _ => 0)))), (q2, (.inl (g.2.2.2 0, 5, .inl (fun _ => 0))))]) rfl ?_
  refine b_ald (j := 0) iX0_init_31 rfl rfl ?_
  refine b_con (v := 5) iX0_init_32 (by decide) ?_
  refine b_newa (t := 0) (N := 5) (a0 := (5, .inl (fun _ => 0))) iX0_init_33 arrI rfl rfl (fun _ => rfl) (by decide) (by decide) (by decide) (by decide) (by decide) (fun q3 => ?_)
  refine b_put (k := 4) (v := .ref q3) (fs := [.int 1000000000, .ref q0, .ref q1, .ref q2, .null, .null, .null, .null]) iX0_init_35 fcX0_26 rfl rfl rfl (Nat.le_of_ble_eq_true rfl) ?_
  refine b_ws (ws' := [(h, (.inr (0, [.int 1000000000, .ref q0, .ref q1, .ref q2, .ref q3, .null, .null, .null]))), (q0, (.inl (g.2.2.2 0, 5, .inl (fun _ => 0)))), (q1, (.inl (g.2.2.2 0, 5, .inl (fun _ => 0)))), (q2, (.inl (g.2.2.2 0, 5, .inl (fun _ => 0)))), (q3, (.inl (g.2.2.2 0, 5, .inl (fun _ => 0))))]) rfl ?_
  refine b_ald (j := 0) iX0_init_38 rfl rfl ?_
  refine b_bip (v := 40) iX0_init_39 (by decide) ?_
  refine b_newa (t := 0) (N := 40) (a0 := (40, .inl (fun _ => 0))) iX0_init_41 arrI rfl rfl (fun _ => rfl) (by decide) (by decide) (by decide) (by decide) (by decide) (fun q4 => ?_)
  refine b_put (k := 5) (v := .ref q4) (fs := [.int 1000000000, .ref q0, .ref q1, .ref q2, .ref q3, .null, .null, .null]) iX0_init_43 fcX0_29 rfl rfl rfl (Nat.le_of_ble_eq_true rfl) ?_
  refine b_ws (ws' := [(h, (.inr (0, [.int 1000000000, .ref q0, .ref q1, .ref q2, .ref q3, .ref q4, .null, .null]))), (q0, (.inl (g.2.2.2 0, 5, .inl (fun _ => 0)))), (q1, (.inl (g.2.2.2 0, 5, .inl (fun _ => 0)))), (q2, (.inl (g.2.2.2 0, 5, .inl (fun _ => 0)))), (q3, (.inl (g.2.2.2 0, 5, .inl (fun _ => 0)))), (q4, (.inl (g.2.2.2 0, 40, .inl (fun _ => 0))))]) rfl ?_
  refine b_ald (j := 0) iX0_init_46 rfl rfl ?_
  refine b_bip (v := 6) iX0_init_47 (by decide) ?_
  refine b_newa (t := 0) (N := 6) (a0 := (6, .inl (fun _ => 0))) iX0_init_49 arrI rfl rfl (fun _ => rfl) (by decide) (by decide) (by decide) (by decide) (by decide) (fun q5 => ?_)
  refine b_put (k := 6) (v := .ref q5) (fs := [.int 1000000000, .ref q0, .ref q1, .ref q2, .ref q3, .ref q4, .null, .null]) iX0_init_51 fcX0_32 rfl rfl rfl (Nat.le_of_ble_eq_true rfl) ?_
  refine b_ws (ws' := [(h, (.inr (0, [.int 1000000000, .ref q0, .ref q1, .ref q2, .ref q3, .ref q4, .ref q5, .null]))), (q0, (.inl (g.2.2.2 0, 5, .inl (fun _ => 0)))), (q1, (.inl (g.2.2.2 0, 5, .inl (fun _ => 0)))), (q2, (.inl (g.2.2.2 0, 5, .inl (fun _ => 0)))), (q3, (.inl (g.2.2.2 0, 5, .inl (fun _ => 0)))), (q4, (.inl (g.2.2.2 0, 40, .inl (fun _ => 0)))), (q5, (.inl (g.2.2.2 0, 6, .inl (fun _ => 0))))]) rfl ?_
  refine b_ald (j := 0) iX0_init_54 rfl rfl ?_
  refine b_bip (v := 20) iX0_init_55 (by decide) ?_
  refine b_newa (t := 0) (N := 20) (a0 := (20, .inl (fun _ => 0))) iX0_init_57 arrI rfl rfl (fun _ => rfl) (by decide) (by decide) (by decide) (by decide) (by decide) (fun q6 => ?_)
  refine b_put (k := 7) (v := .ref q6) (fs := [.int 1000000000, .ref q0, .ref q1, .ref q2, .ref q3, .ref q4, .ref q5, .null]) iX0_init_59 fcX0_35 rfl rfl rfl (Nat.le_of_ble_eq_true rfl) ?_
  refine b_ws (ws' := [(h, (.inr (0, [.int 1000000000, .ref q0, .ref q1, .ref q2, .ref q3, .ref q4, .ref q5, .ref q6]))), (q0, (.inl (g.2.2.2 0, 5, .inl (fun _ => 0)))), (q1, (.inl (g.2.2.2 0, 5, .inl (fun _ => 0)))), (q2, (.inl (g.2.2.2 0, 5, .inl (fun _ => 0)))), (q3, (.inl (g.2.2.2 0, 5, .inl (fun _ => 0)))), (q4, (.inl (g.2.2.2 0, 40, .inl (fun _ => 0)))), (q5, (.inl (g.2.2.2 0, 6, .inl (fun _ => 0)))), (q6, (.inl (g.2.2.2 0, 20, .inl (fun _ => 0))))]) rfl ?_
  exact b_ret iX0_init_62 rfl rfl rfl ⟨q0, q1, q2, q3, q4, q5, q6, rfl⟩
theorem cX5_init {g : Gt} : Cn g mX5_init ⟨1, 3, 15, 12⟩ 4 [.null, .null, .null] (fun h w => ∃ q0 q1 q2, w = [(h, (.inr (4, [.ref q0, .ref q1, .ref q2]))), (q0, (.inl (g.2.2.2 0, 5, .inl (fun _ => 0)))), (q1, (.inl (g.2.2.2 0, 5, .inl (fun _ => 0)))), (q2, (.inl (g.2.2.2 1, 5, .inl (fun _ => 0))))]) := by
  refine Cn.in (by decide +kernel) rfl (by decide) (fun h => ?_)
  refine b_ald (j := 0) iX5_init_0 rfl rfl ?_
  refine b_obj iX5_init_1 olX5 objI objW (by decide) (by decide) ?_
  refine b_ald (j := 0) iX5_init_4 rfl rfl ?_
  refine b_con (v := 5) iX5_init_5 (by decide) ?_
  refine b_newa (t := 0) (N := 5) (a0 := (5, .inl (fun _ => 0))) iX5_init_6 arrI rfl rfl (fun _ => rfl) (by decide) (by decide) (by decide) (by decide) (by decide) (fun q0 => ?_)
  refine b_put (k := 0) (v := .ref q0) (fs := [.null, .null, .null]) iX5_init_8 fcX5_9 rfl rfl rfl (Nat.le_of_ble_eq_true rfl) ?_
  refine b_ws (ws' := [(h, (.inr (4, [.ref q0, .null, .null]))), (q0, (.inl (g.2.2.2 0, 5, .inl (fun _ => 0))))]) rfl ?_
  refine b_ald (j := 0) iX5_init_11 rfl rfl ?_
  refine b_con (v := 5) iX5_init_12 (by decide) ?_
  refine b_newa (t := 0) (N := 5) (a0 := (5, .inl (fun _ => 0))) iX5_init_13 arrI rfl rfl (fun _ => rfl) (by decide) (by decide) (by decide) (by decide) (by decide) (fun q1 => ?_)
  refine b_put (k := 1) (v := .ref q1) (fs := [.ref q0, .null, .null]) iX5_init_15 fcX5_15 rfl rfl rfl (Nat.le_of_ble_eq_true rfl) ?_
  refine b_ws (ws' := [(h, (.inr (4, [.ref q0, .ref q1, .null]))), (q0, (.inl (g.2.2.2 0, 5, .inl (fun _ => 0)))), (q1, (.inl (g.2.2.2 0, 5, .inl (fun _ => 0))))]) rfl ?_
  refine b_ald (j := 0) iX5_init_18 rfl rfl ?_
  refine b_con (v := 5) iX5_init_19 (by decide) ?_
  refine b_newa (t := 1) (N := 5) (a0 := (5, .inl (fun _ => 0))) iX5_init_20 arrZ rfl rfl (fun _ => rfl) (by decide) (by decide) (by decide) (by decide) (by decide) (fun q2 => ?_)
  refine b_put (k := 2) (v := .ref q2) (fs := [.ref q0, .ref q1, .null]) iX5_init_22 fcX5_18 rfl rfl rfl (Nat.le_of_ble_eq_true rfl) ?_
  refine b_ws (ws' := [(h, (.inr (4, [.ref q0, .ref q1, .ref q2]))), (q0, (.inl (g.2.2.2 0, 5, .inl (fun _ => 0)))), (q1, (.inl (g.2.2.2 0, 5, .inl (fun _ => 0)))), (q2, (.inl (g.2.2.2 1, 5, .inl (fun _ => 0))))]) rfl ?_
  exact b_ret iX5_init_25 rfl rfl rfl ⟨q0, q1, q2, rfl⟩
theorem cX6_init {g : Gt} : Cn g mX6_init ⟨2, 9, 448, 60⟩ 5 [.null, .null, .null, .null, .null, .null, .null, .null] (fun h w => ∃ q0 q1 q2 q3 q4 q5 q6 q7 q8 F9, (∀ j, j < 20 → F9 j = 1) ∧ w = [(h, (.inr (5, [.ref q0, .ref q1, .ref q2, .ref q3, .ref q4, .ref q5, .ref q7, .ref q8]))), (q0, (.inl (g.2.2.2 0, 5, .inl (fun _ => 0)))), (q1, (.inl (g.2.2.2 0, 40, .inl (fun _ => 0)))), (q2, (.inl (g.2.2.2 0, 40, .inl (fun _ => 0)))), (q3, (.inl (g.2.2.2 0, 320, .inl (fun _ => 0)))), (q4, (.inl (g.2.2.2 1, 5, .inl (fun _ => 0)))), (q5, (.inr (1, [.ref q6]))), (q6, (.inl (g.2.2.2 0, 9, .inl (fun _ => 0)))), (q7, (.inl (g.2.2.2 0, 20, .inl F9))), (q8, (.inl (g.2.2.2 0, 8, .inl (fun _ => 0))))]) := by
  refine Cn.in (by decide +kernel) rfl (by decide) (fun h => ?_)
  refine b_ald (j := 0) iX6_init_0 rfl rfl ?_
  refine b_obj iX6_init_1 olX6 objI objW (by decide) (by decide) ?_
  refine b_ald (j := 0) iX6_init_4 rfl rfl ?_
  refine b_con (v := 5) iX6_init_5 (by decide) ?_
  refine b_newa (t := 0) (N := 5) (a0 := (5, .inl (fun _ => 0))) iX6_init_6 arrI rfl rfl (fun _ => rfl) (by decide) (by decide) (by decide) (by decide) (by decide) (fun q0 => ?_)
  refine b_put (k := 0) (v := .ref q0) (fs := [.null, .null, .null, .null, .null, .null, .null, .null]) iX6_init_8 fcX6_9 rfl rfl rfl (Nat.le_of_ble_eq_true rfl) ?_
  refine b_ws (ws' := [(h, (.inr (5, [.ref q0, .null, .null, .null, .null, .null, .null, .null]))), (q0, (.inl (g.2.2.2 0, 5, .inl (fun _ => 0))))]) rfl ?_
  refine b_ald (j := 0) iX6_init_11 rfl rfl ?_
  refine b_bip (v := 40) iX6_init_12 (by decide) ?_
  refine b_newa (t := 0) (N := 40) (a0 := (40, .inl (fun _ => 0))) iX6_init_14 arrI rfl rfl (fun _ => rfl) (by decide) (by decide) (by decide) (by decide) (by decide) (fun q1 => ?_)
  refine b_put (k := 1) (v := .ref q1) (fs := [.ref q0, .null, .null, .null, .null, .null, .null, .null]) iX6_init_16 fcX6_15 rfl rfl rfl (Nat.le_of_ble_eq_true rfl) ?_
  refine b_ws (ws' := [(h, (.inr (5, [.ref q0, .ref q1, .null, .null, .null, .null, .null, .null]))), (q0, (.inl (g.2.2.2 0, 5, .inl (fun _ => 0)))), (q1, (.inl (g.2.2.2 0, 40, .inl (fun _ => 0))))]) rfl ?_
  refine b_ald (j := 0) iX6_init_19 rfl rfl ?_
  refine b_bip (v := 40) iX6_init_20 (by decide) ?_
  refine b_newa (t := 0) (N := 40) (a0 := (40, .inl (fun _ => 0))) iX6_init_22 arrI rfl rfl (fun _ => rfl) (by decide) (by decide) (by decide) (by decide) (by decide) (fun q2 => ?_)
  refine b_put (k := 2) (v := .ref q2) (fs := [.ref q0, .ref q1, .null, .null, .null, .null, .null, .null]) iX6_init_24 fcX6_18 rfl rfl rfl (Nat.le_of_ble_eq_true rfl) ?_
  refine b_ws (ws' := [(h, (.inr (5, [.ref q0, .ref q1, .ref q2, .null, .null, .null, .null, .null]))), (q0, (.inl (g.2.2.2 0, 5, .inl (fun _ => 0)))), (q1, (.inl (g.2.2.2 0, 40, .inl (fun _ => 0)))), (q2, (.inl (g.2.2.2 0, 40, .inl (fun _ => 0))))]) rfl ?_
  refine b_ald (j := 0) iX6_init_27 rfl rfl ?_
  refine b_sip (v := 320) iX6_init_28 (by decide) ?_
  refine b_newa (t := 0) (N := 320) (a0 := (320, .inl (fun _ => 0))) iX6_init_31 arrI rfl rfl (fun _ => rfl) (by decide) (by decide) (by decide) (by decide) (by decide) (fun q3 => ?_)
  refine b_put (k := 3) (v := .ref q3) (fs := [.ref q0, .ref q1, .ref q2, .null, .null, .null, .null, .null]) iX6_init_33 fcX6_21 rfl rfl rfl (Nat.le_of_ble_eq_true rfl) ?_
  refine b_ws (ws' := [(h, (.inr (5, [.ref q0, .ref q1, .ref q2, .ref q3, .null, .null, .null, .null]))), (q0, (.inl (g.2.2.2 0, 5, .inl (fun _ => 0)))), (q1, (.inl (g.2.2.2 0, 40, .inl (fun _ => 0)))), (q2, (.inl (g.2.2.2 0, 40, .inl (fun _ => 0)))), (q3, (.inl (g.2.2.2 0, 320, .inl (fun _ => 0))))]) rfl ?_
  refine b_ald (j := 0) iX6_init_36 rfl rfl ?_
  refine b_con (v := 5) iX6_init_37 (by decide) ?_
  refine b_newa (t := 1) (N := 5) (a0 := (5, .inl (fun _ => 0))) iX6_init_38 arrZ rfl rfl (fun _ => rfl) (by decide) (by decide) (by decide) (by decide) (by decide) (fun q4 => ?_)
  refine b_put (k := 4) (v := .ref q4) (fs := [.ref q0, .ref q1, .ref q2, .ref q3, .null, .null, .null, .null]) iX6_init_40 fcX6_24 rfl rfl rfl (Nat.le_of_ble_eq_true rfl) ?_
  refine b_ws (ws' := [(h, (.inr (5, [.ref q0, .ref q1, .ref q2, .ref q3, .ref q4, .null, .null, .null]))), (q0, (.inl (g.2.2.2 0, 5, .inl (fun _ => 0)))), (q1, (.inl (g.2.2.2 0, 40, .inl (fun _ => 0)))), (q2, (.inl (g.2.2.2 0, 40, .inl (fun _ => 0)))), (q3, (.inl (g.2.2.2 0, 320, .inl (fun _ => 0)))), (q4, (.inl (g.2.2.2 1, 5, .inl (fun _ => 0))))]) rfl ?_
  refine b_ald (j := 0) iX6_init_43 rfl rfl ?_
  refine b_new iX6_init_44 nwX6_28 (by decide) (by decide) (fun q5 => ?_)
  refine b_dup iX6_init_47 ?_
  refine b_callN (host := "LoadYard") iX6_init_48 cX2_init miX2_init (nmem 138 (by decide +kernel) (by decide +kernel)) rfl (by decide) (by decide) (by decide) (by decide) (fun w hw => ?_)
  obtain ⟨q6, rfl⟩ := hw
  refine b_put (k := 5) (v := .ref q5) (fs := [.ref q0, .ref q1, .ref q2, .ref q3, .ref q4, .null, .null, .null]) iX6_init_51 fcX6_31 rfl rfl rfl (Nat.le_of_ble_eq_true rfl) ?_
  refine b_ws (ws' := [(h, (.inr (5, [.ref q0, .ref q1, .ref q2, .ref q3, .ref q4, .ref q5, .null, .null]))), (q0, (.inl (g.2.2.2 0, 5, .inl (fun _ => 0)))), (q1, (.inl (g.2.2.2 0, 40, .inl (fun _ => 0)))), (q2, (.inl (g.2.2.2 0, 40, .inl (fun _ => 0)))), (q3, (.inl (g.2.2.2 0, 320, .inl (fun _ => 0)))), (q4, (.inl (g.2.2.2 1, 5, .inl (fun _ => 0)))), (q5, (.inr (1, [.ref q6]))), (q6, (.inl (g.2.2.2 0, 9, .inl (fun _ => 0))))]) rfl ?_
  refine b_ald (j := 0) iX6_init_54 rfl rfl ?_
  refine b_bip (v := 20) iX6_init_55 (by decide) ?_
  refine b_newa (t := 0) (N := 20) (a0 := (20, .inl (fun _ => 0))) iX6_init_57 arrI rfl rfl (fun _ => rfl) (by decide) (by decide) (by decide) (by decide) (by decide) (fun q7 => ?_)
  refine b_put (k := 6) (v := .ref q7) (fs := [.ref q0, .ref q1, .ref q2, .ref q3, .ref q4, .ref q5, .null, .null]) iX6_init_59 fcX6_35 rfl rfl rfl (Nat.le_of_ble_eq_true rfl) ?_
  refine b_ws (ws' := [(h, (.inr (5, [.ref q0, .ref q1, .ref q2, .ref q3, .ref q4, .ref q5, .ref q7, .null]))), (q0, (.inl (g.2.2.2 0, 5, .inl (fun _ => 0)))), (q1, (.inl (g.2.2.2 0, 40, .inl (fun _ => 0)))), (q2, (.inl (g.2.2.2 0, 40, .inl (fun _ => 0)))), (q3, (.inl (g.2.2.2 0, 320, .inl (fun _ => 0)))), (q4, (.inl (g.2.2.2 1, 5, .inl (fun _ => 0)))), (q5, (.inr (1, [.ref q6]))), (q6, (.inl (g.2.2.2 0, 9, .inl (fun _ => 0)))), (q7, (.inl (g.2.2.2 0, 20, .inl (fun _ => 0))))]) rfl ?_
  refine b_ald (j := 0) iX6_init_62 rfl rfl ?_
  refine b_bip (v := 8) iX6_init_63 (by decide) ?_
  refine b_newa (t := 0) (N := 8) (a0 := (8, .inl (fun _ => 0))) iX6_init_65 arrI rfl rfl (fun _ => rfl) (by decide) (by decide) (by decide) (by decide) (by decide) (fun q8 => ?_)
  refine b_put (k := 7) (v := .ref q8) (fs := [.ref q0, .ref q1, .ref q2, .ref q3, .ref q4, .ref q5, .ref q7, .null]) iX6_init_67 fcX6_38 rfl rfl rfl (Nat.le_of_ble_eq_true rfl) ?_
  refine b_ws (ws' := [(h, (.inr (5, [.ref q0, .ref q1, .ref q2, .ref q3, .ref q4, .ref q5, .ref q7, .ref q8]))), (q0, (.inl (g.2.2.2 0, 5, .inl (fun _ => 0)))), (q1, (.inl (g.2.2.2 0, 40, .inl (fun _ => 0)))), (q2, (.inl (g.2.2.2 0, 40, .inl (fun _ => 0)))), (q3, (.inl (g.2.2.2 0, 320, .inl (fun _ => 0)))), (q4, (.inl (g.2.2.2 1, 5, .inl (fun _ => 0)))), (q5, (.inr (1, [.ref q6]))), (q6, (.inl (g.2.2.2 0, 9, .inl (fun _ => 0)))), (q7, (.inl (g.2.2.2 0, 20, .inl (fun _ => 0)))), (q8, (.inl (g.2.2.2 0, 8, .inl (fun _ => 0))))]) rfl ?_
  have L : ∀ (n i : Nat) (F9 : Nat → Int32), i + n = 20 → (∀ j, j < i → F9 j = 1) → RB g mX6_init ⟨2, 9, 448, 60⟩ 72 [(1, .int (nI i)), (0, .ref h)] [] [(h, (.inr (5, [.ref q0, .ref q1, .ref q2, .ref q3, .ref q4, .ref q5, .ref q7, .ref q8]))), (q0, (.inl (g.2.2.2 0, 5, .inl (fun _ => 0)))), (q1, (.inl (g.2.2.2 0, 40, .inl (fun _ => 0)))), (q2, (.inl (g.2.2.2 0, 40, .inl (fun _ => 0)))), (q3, (.inl (g.2.2.2 0, 320, .inl (fun _ => 0)))), (q4, (.inl (g.2.2.2 1, 5, .inl (fun _ => 0)))), (q5, (.inr (1, [.ref q6]))), (q6, (.inl (g.2.2.2 0, 9, .inl (fun _ => 0)))), (q7, (.inl (g.2.2.2 0, 20, .inl F9))), (q8, (.inl (g.2.2.2 0, 8, .inl (fun _ => 0))))] 9 448 (fun w => ∃ q0 q1 q2 q3 q4 q5 q6 q7 q8 F9, (∀ j, j < 20 → F9 j = 1) ∧ w = [(h, (.inr (5, [.ref q0, .ref q1, .ref q2, .ref q3, .ref q4, .ref q5, .ref q7, .ref q8]))), (q0, (.inl (g.2.2.2 0, 5, .inl (fun _ => 0)))), (q1, (.inl (g.2.2.2 0, 40, .inl (fun _ => 0)))), (q2, (.inl (g.2.2.2 0, 40, .inl (fun _ => 0)))), (q3, (.inl (g.2.2.2 0, 320, .inl (fun _ => 0)))), (q4, (.inl (g.2.2.2 1, 5, .inl (fun _ => 0)))), (q5, (.inr (1, [.ref q6]))), (q6, (.inl (g.2.2.2 0, 9, .inl (fun _ => 0)))), (q7, (.inl (g.2.2.2 0, 20, .inl F9))), (q8, (.inl (g.2.2.2 0, 8, .inl (fun _ => 0))))]) := by
    intro n
    induction n with
    | zero =>
      intro i F9 hi hF
      have hi2 : i = 20 := by omega
      subst hi2
      refine b_ild (j := 0) iX6_init_72 rfl rfl ?_
      refine b_bip (v := 20) iX6_init_73 (by decide) ?_
      refine b_cge iX6_init_75 (fun _ => ?_) (fun q => absurd (by decide) q)
      exact b_ret iX6_init_91 rfl rfl rfl ⟨q0, q1, q2, q3, q4, q5, q6, q7, q8, F9, hF, rfl⟩
    | succ n ih =>
      intro i F9 hi hF
      refine b_ild (j := 0) iX6_init_72 rfl rfl ?_
      refine b_bip (v := 20) iX6_init_73 (by decide) ?_
      refine b_cge iX6_init_75 (fun q => absurd q (nI_ge (a := i) (b := 20) (by omega) (by decide))) (fun _ => ?_)
      refine b_ald (j := 1) iX6_init_78 rfl rfl ?_
      refine b_get iX6_init_79 flX6_35 rfl rfl ?_
      refine b_ild (j := 0) iX6_init_82 rfl rfl ?_
      refine b_con (v := 1) iX6_init_83 (by decide) ?_
      refine b_iast (q0 := 8) (n := 20) (f := F9) iX6_init_84 rfl (vp_in_nI (by omega) (by decide)) ?_
      refine b_inc (k := 0) (v := nI (i + 1)) (lv' := [(1, .int (nI (i + 1))), (0, .ref h)]) iX6_init_85 rfl (nI_1 i) (by decide) rfl ?_
      refine b_goto iX6_init_88 ?_
      have hc : (nI i).toNatClampNeg = i := nI_clamp (by omega)
      refine ih (i + 1) (upd F9 (nI i).toNatClampNeg 1) (by omega) (fun j hj => ?_)
      rw [hc]
      unfold upd
      by_cases e : j = i
      · rw [if_pos e]
      · rw [if_neg e]; exact hF j (by omega)
  refine b_con (v := 0) iX6_init_70 (by decide) ?_
  refine b_ist (lv' := [(1, .int 0), (0, .ref h)]) iX6_init_71 rfl (by decide) rfl ?_
  exact L 20 0 (fun _ => 0) rfl (fun j hj => absurd hj (Nat.not_lt_zero j))
theorem cX7_init {g : Gt} : Cn g mX7_init ⟨3, 50, 936, 110⟩ 6 [.null, .null, .null, .null, .null, .null, .null, .null, .int 0] (fun h w => ∃ q0 q1 q2 q3 q4 q5 q6 q7 q8 q9 q10 q11 q12 q13 q14 q15 q16 q17 q18 q19 q20 q21 q22 q23 q24 q25 q26 q27 q28 q29 q30 q31 q32 q33 q34 q35 q36 q37 q38 q39 q40 q41 q42 q43 q44 q45 q46 q47 q48 q49 F9, (∀ j, j < 20 → F9 j = 1) ∧ w = [(h, (.inr (6, [.ref q0, .ref q10, .ref q20, .ref q23, .ref q26, .ref q36, .ref q38, .ref q46, .int 0]))), (q0, (.inr (2, [.int 1, .int 0, .int 0, .ref q1, .ref q2, .ref q3, .ref q4, .ref q5, .ref q6, .ref q7, .ref q8, .ref q9]))), (q1, (.inl (g.2.2.2 0, 20, .inl (fun _ => 0)))), (q2, (.inl (g.2.2.2 0, 20, .inl (fun _ => 0)))), (q3, (.inl (g.2.2.2 0, 20, .inl (fun _ => 0)))), (q4, (.inl (g.2.2.2 0, 20, .inl (fun _ => 0)))), (q5, (.inl (g.2.2.2 0, 20, .inl (fun _ => 0)))), (q6, (.inl (g.2.2.2 0, 5, .inl (fun _ => 0)))), (q7, (.inl (g.2.2.2 0, 5, .inl (fun _ => 0)))), (q8, (.inl (g.2.2.2 0, 5, .inl (fun _ => 0)))), (q9, (.inl (g.2.2.2 0, 5, .inl (fun _ => 0)))), (q10, (.inr (2, [.int 1, .int 0, .int 0, .ref q11, .ref q12, .ref q13, .ref q14, .ref q15, .ref q16, .ref q17, .ref q18, .ref q19]))), (q11, (.inl (g.2.2.2 0, 20, .inl (fun _ => 0)))), (q12, (.inl (g.2.2.2 0, 20, .inl (fun _ => 0)))), (q13, (.inl (g.2.2.2 0, 20, .inl (fun _ => 0)))), (q14, (.inl (g.2.2.2 0, 20, .inl (fun _ => 0)))), (q15, (.inl (g.2.2.2 0, 20, .inl (fun _ => 0)))), (q16, (.inl (g.2.2.2 0, 5, .inl (fun _ => 0)))), (q17, (.inl (g.2.2.2 0, 5, .inl (fun _ => 0)))), (q18, (.inl (g.2.2.2 0, 5, .inl (fun _ => 0)))), (q19, (.inl (g.2.2.2 0, 5, .inl (fun _ => 0)))), (q20, (.inr (3, [.ref q21, .ref q22]))), (q21, (.inl (g.2.2.2 0, 40, .inl (fun _ => 0)))), (q22, (.inl (g.2.2.2 0, 5, .inl (fun _ => 0)))), (q23, (.inr (3, [.ref q24, .ref q25]))), (q24, (.inl (g.2.2.2 0, 40, .inl (fun _ => 0)))), (q25, (.inl (g.2.2.2 0, 5, .inl (fun _ => 0)))), (q26, (.inr (5, [.ref q27, .ref q28, .ref q29, .ref q30, .ref q31, .ref q32, .ref q34, .ref q35]))), (q27, (.inl (g.2.2.2 0, 5, .inl (fun _ => 0)))), (q28, (.inl (g.2.2.2 0, 40, .inl (fun _ => 0)))), (q29, (.inl (g.2.2.2 0, 40, .inl (fun _ => 0)))), (q30, (.inl (g.2.2.2 0, 320, .inl (fun _ => 0)))), (q31, (.inl (g.2.2.2 1, 5, .inl (fun _ => 0)))), (q32, (.inr (1, [.ref q33]))), (q33, (.inl (g.2.2.2 0, 9, .inl (fun _ => 0)))), (q34, (.inl (g.2.2.2 0, 20, .inl F9))), (q35, (.inl (g.2.2.2 0, 8, .inl (fun _ => 0)))), (q36, (.inr (1, [.ref q37]))), (q37, (.inl (g.2.2.2 0, 9, .inl (fun _ => 0)))), (q38, (.inr (0, [.int 1000000000, .ref q39, .ref q40, .ref q41, .ref q42, .ref q43, .ref q44, .ref q45]))), (q39, (.inl (g.2.2.2 0, 5, .inl (fun _ => 0)))), (q40, (.inl (g.2.2.2 0, 5, .inl (fun _ => 0)))), (q41, (.inl (g.2.2.2 0, 5, .inl (fun _ => 0)))), (q42, (.inl (g.2.2.2 0, 5, .inl (fun _ => 0)))), (q43, (.inl (g.2.2.2 0, 40, .inl (fun _ => 0)))), (q44, (.inl (g.2.2.2 0, 6, .inl (fun _ => 0)))), (q45, (.inl (g.2.2.2 0, 20, .inl (fun _ => 0)))), (q46, (.inr (4, [.ref q47, .ref q48, .ref q49]))), (q47, (.inl (g.2.2.2 0, 5, .inl (fun _ => 0)))), (q48, (.inl (g.2.2.2 0, 5, .inl (fun _ => 0)))), (q49, (.inl (g.2.2.2 1, 5, .inl (fun _ => 0))))]) := by
  refine Cn.in (by decide +kernel) rfl (by decide) (fun h => ?_)
  refine b_ald (j := 0) iX7_init_0 rfl rfl ?_
  refine b_obj iX7_init_1 olX7 objI objW (by decide) (by decide) ?_
  refine b_ald (j := 0) iX7_init_4 rfl rfl ?_
  refine b_new iX7_init_5 nwX7_9 (by decide) (by decide) (fun q0 => ?_)
  refine b_dup iX7_init_8 ?_
  refine b_callN (host := "LoadYard") iX7_init_9 cX3_init miX3_init (nmem 23 (by decide +kernel) (by decide +kernel)) rfl (by decide) (by decide) (by decide) (by decide) (fun w hw => ?_)
  obtain ⟨q1, q2, q3, q4, q5, q6, q7, q8, q9, rfl⟩ := hw
  refine b_put (k := 0) (v := .ref q0) (fs := [.null, .null, .null, .null, .null, .null, .null, .null, .int 0]) iX7_init_12 fcX7_12 rfl rfl rfl (Nat.le_of_ble_eq_true rfl) ?_
  refine b_ws (ws' := [(h, (.inr (6, [.ref q0, .null, .null, .null, .null, .null, .null, .null, .int 0]))), (q0, (.inr (2, [.int 1, .int 0, .int 0, .ref q1, .ref q2, .ref q3, .ref q4, .ref q5, .ref q6, .ref q7, .ref q8, .ref q9]))), (q1, (.inl (g.2.2.2 0, 20, .inl (fun _ => 0)))), (q2, (.inl (g.2.2.2 0, 20, .inl (fun _ => 0)))), (q3, (.inl (g.2.2.2 0, 20, .inl (fun _ => 0)))), (q4, (.inl (g.2.2.2 0, 20, .inl (fun _ => 0)))), (q5, (.inl (g.2.2.2 0, 20, .inl (fun _ => 0)))), (q6, (.inl (g.2.2.2 0, 5, .inl (fun _ => 0)))), (q7, (.inl (g.2.2.2 0, 5, .inl (fun _ => 0)))), (q8, (.inl (g.2.2.2 0, 5, .inl (fun _ => 0)))), (q9, (.inl (g.2.2.2 0, 5, .inl (fun _ => 0))))]) rfl ?_
  refine b_ald (j := 0) iX7_init_15 rfl rfl ?_
  refine b_new iX7_init_16 nwX7_9 (by decide) (by decide) (fun q10 => ?_)
  refine b_dup iX7_init_19 ?_
  refine b_callN (host := "LoadYard") iX7_init_20 cX3_init miX3_init (nmem 23 (by decide +kernel) (by decide +kernel)) rfl (by decide) (by decide) (by decide) (by decide) (fun w hw => ?_)
  obtain ⟨q11, q12, q13, q14, q15, q16, q17, q18, q19, rfl⟩ := hw
  refine b_put (k := 1) (v := .ref q10) (fs := [.ref q0, .null, .null, .null, .null, .null, .null, .null, .int 0]) iX7_init_23 fcX7_16 rfl rfl rfl (Nat.le_of_ble_eq_true rfl) ?_
  refine b_ws (ws' := [(h, (.inr (6, [.ref q0, .ref q10, .null, .null, .null, .null, .null, .null, .int 0]))), (q0, (.inr (2, [.int 1, .int 0, .int 0, .ref q1, .ref q2, .ref q3, .ref q4, .ref q5, .ref q6, .ref q7, .ref q8, .ref q9]))), (q1, (.inl (g.2.2.2 0, 20, .inl (fun _ => 0)))), (q2, (.inl (g.2.2.2 0, 20, .inl (fun _ => 0)))), (q3, (.inl (g.2.2.2 0, 20, .inl (fun _ => 0)))), (q4, (.inl (g.2.2.2 0, 20, .inl (fun _ => 0)))), (q5, (.inl (g.2.2.2 0, 20, .inl (fun _ => 0)))), (q6, (.inl (g.2.2.2 0, 5, .inl (fun _ => 0)))), (q7, (.inl (g.2.2.2 0, 5, .inl (fun _ => 0)))), (q8, (.inl (g.2.2.2 0, 5, .inl (fun _ => 0)))), (q9, (.inl (g.2.2.2 0, 5, .inl (fun _ => 0)))), (q10, (.inr (2, [.int 1, .int 0, .int 0, .ref q11, .ref q12, .ref q13, .ref q14, .ref q15, .ref q16, .ref q17, .ref q18, .ref q19]))), (q11, (.inl (g.2.2.2 0, 20, .inl (fun _ => 0)))), (q12, (.inl (g.2.2.2 0, 20, .inl (fun _ => 0)))), (q13, (.inl (g.2.2.2 0, 20, .inl (fun _ => 0)))), (q14, (.inl (g.2.2.2 0, 20, .inl (fun _ => 0)))), (q15, (.inl (g.2.2.2 0, 20, .inl (fun _ => 0)))), (q16, (.inl (g.2.2.2 0, 5, .inl (fun _ => 0)))), (q17, (.inl (g.2.2.2 0, 5, .inl (fun _ => 0)))), (q18, (.inl (g.2.2.2 0, 5, .inl (fun _ => 0)))), (q19, (.inl (g.2.2.2 0, 5, .inl (fun _ => 0))))]) rfl ?_
  refine b_ald (j := 0) iX7_init_26 rfl rfl ?_
  refine b_new iX7_init_27 nwX7_19 (by decide) (by decide) (fun q20 => ?_)
  refine b_dup iX7_init_30 ?_
  refine b_callN (host := "LoadYard") iX7_init_31 cX4_init miX4_init (nmem 115 (by decide +kernel) (by decide +kernel)) rfl (by decide) (by decide) (by decide) (by decide) (fun w hw => ?_)
  obtain ⟨q21, q22, rfl⟩ := hw
  refine b_put (k := 2) (v := .ref q20) (fs := [.ref q0, .ref q10, .null, .null, .null, .null, .null, .null, .int 0]) iX7_init_34 fcX7_22 rfl rfl rfl (Nat.le_of_ble_eq_true rfl) ?_
  refine b_ws (ws' := [(h, (.inr (6, [.ref q0, .ref q10, .ref q20, .null, .null, .null, .null, .null, .int 0]))), (q0, (.inr (2, [.int 1, .int 0, .int 0, .ref q1, .ref q2, .ref q3, .ref q4, .ref q5, .ref q6, .ref q7, .ref q8, .ref q9]))), (q1, (.inl (g.2.2.2 0, 20, .inl (fun _ => 0)))), (q2, (.inl (g.2.2.2 0, 20, .inl (fun _ => 0)))), (q3, (.inl (g.2.2.2 0, 20, .inl (fun _ => 0)))), (q4, (.inl (g.2.2.2 0, 20, .inl (fun _ => 0)))), (q5, (.inl (g.2.2.2 0, 20, .inl (fun _ => 0)))), (q6, (.inl (g.2.2.2 0, 5, .inl (fun _ => 0)))), (q7, (.inl (g.2.2.2 0, 5, .inl (fun _ => 0)))), (q8, (.inl (g.2.2.2 0, 5, .inl (fun _ => 0)))), (q9, (.inl (g.2.2.2 0, 5, .inl (fun _ => 0)))), (q10, (.inr (2, [.int 1, .int 0, .int 0, .ref q11, .ref q12, .ref q13, .ref q14, .ref q15, .ref q16, .ref q17, .ref q18, .ref q19]))), (q11, (.inl (g.2.2.2 0, 20, .inl (fun _ => 0)))), (q12, (.inl (g.2.2.2 0, 20, .inl (fun _ => 0)))), (q13, (.inl (g.2.2.2 0, 20, .inl (fun _ => 0)))), (q14, (.inl (g.2.2.2 0, 20, .inl (fun _ => 0)))), (q15, (.inl (g.2.2.2 0, 20, .inl (fun _ => 0)))), (q16, (.inl (g.2.2.2 0, 5, .inl (fun _ => 0)))), (q17, (.inl (g.2.2.2 0, 5, .inl (fun _ => 0)))), (q18, (.inl (g.2.2.2 0, 5, .inl (fun _ => 0)))), (q19, (.inl (g.2.2.2 0, 5, .inl (fun _ => 0)))), (q20, (.inr (3, [.ref q21, .ref q22]))), (q21, (.inl (g.2.2.2 0, 40, .inl (fun _ => 0)))), (q22, (.inl (g.2.2.2 0, 5, .inl (fun _ => 0))))]) rfl ?_
  refine b_ald (j := 0) iX7_init_37 rfl rfl ?_
  refine b_new iX7_init_38 nwX7_19 (by decide) (by decide) (fun q23 => ?_)
  refine b_dup iX7_init_41 ?_
  refine b_callN (host := "LoadYard") iX7_init_42 cX4_init miX4_init (nmem 115 (by decide +kernel) (by decide +kernel)) rfl (by decide) (by decide) (by decide) (by decide) (fun w hw => ?_)
  obtain ⟨q24, q25, rfl⟩ := hw
  refine b_put (k := 3) (v := .ref q23) (fs := [.ref q0, .ref q10, .ref q20, .null, .null, .null, .null, .null, .int 0]) iX7_init_45 fcX7_26 rfl rfl rfl (Nat.le_of_ble_eq_true rfl) ?_
  refine b_ws (ws' := [(h, (.inr (6, [.ref q0, .ref q10, .ref q20, .ref q23, .null, .null, .null, .null, .int 0]))), (q0, (.inr (2, [.int 1, .int 0, .int 0, .ref q1, .ref q2, .ref q3, .ref q4, .ref q5, .ref q6, .ref q7, .ref q8, .ref q9]))), (q1, (.inl (g.2.2.2 0, 20, .inl (fun _ => 0)))), (q2, (.inl (g.2.2.2 0, 20, .inl (fun _ => 0)))), (q3, (.inl (g.2.2.2 0, 20, .inl (fun _ => 0)))), (q4, (.inl (g.2.2.2 0, 20, .inl (fun _ => 0)))), (q5, (.inl (g.2.2.2 0, 20, .inl (fun _ => 0)))), (q6, (.inl (g.2.2.2 0, 5, .inl (fun _ => 0)))), (q7, (.inl (g.2.2.2 0, 5, .inl (fun _ => 0)))), (q8, (.inl (g.2.2.2 0, 5, .inl (fun _ => 0)))), (q9, (.inl (g.2.2.2 0, 5, .inl (fun _ => 0)))), (q10, (.inr (2, [.int 1, .int 0, .int 0, .ref q11, .ref q12, .ref q13, .ref q14, .ref q15, .ref q16, .ref q17, .ref q18, .ref q19]))), (q11, (.inl (g.2.2.2 0, 20, .inl (fun _ => 0)))), (q12, (.inl (g.2.2.2 0, 20, .inl (fun _ => 0)))), (q13, (.inl (g.2.2.2 0, 20, .inl (fun _ => 0)))), (q14, (.inl (g.2.2.2 0, 20, .inl (fun _ => 0)))), (q15, (.inl (g.2.2.2 0, 20, .inl (fun _ => 0)))), (q16, (.inl (g.2.2.2 0, 5, .inl (fun _ => 0)))), (q17, (.inl (g.2.2.2 0, 5, .inl (fun _ => 0)))), (q18, (.inl (g.2.2.2 0, 5, .inl (fun _ => 0)))), (q19, (.inl (g.2.2.2 0, 5, .inl (fun _ => 0)))), (q20, (.inr (3, [.ref q21, .ref q22]))), (q21, (.inl (g.2.2.2 0, 40, .inl (fun _ => 0)))), (q22, (.inl (g.2.2.2 0, 5, .inl (fun _ => 0)))), (q23, (.inr (3, [.ref q24, .ref q25]))), (q24, (.inl (g.2.2.2 0, 40, .inl (fun _ => 0)))), (q25, (.inl (g.2.2.2 0, 5, .inl (fun _ => 0))))]) rfl ?_
  refine b_ald (j := 0) iX7_init_48 rfl rfl ?_
  refine b_new iX7_init_49 nwX7_29 (by decide) (by decide) (fun q26 => ?_)
  refine b_dup iX7_init_52 ?_
  refine b_callI iX7_init_53 cX6_init miX6_init (gmem 132 (by decide +kernel) (by decide +kernel)) rfl (by decide) (by decide) (by decide) (by decide) (fun w hw => ?_)
  obtain ⟨q27, q28, q29, q30, q31, q32, q33, q34, q35, f36, hf36, rfl⟩ := hw
  refine b_put (k := 4) (v := .ref q26) (fs := [.ref q0, .ref q10, .ref q20, .ref q23, .null, .null, .null, .null, .int 0]) iX7_init_56 fcX7_32 rfl rfl rfl (Nat.le_of_ble_eq_true rfl) ?_
  refine b_ws (ws' := [(h, (.inr (6, [.ref q0, .ref q10, .ref q20, .ref q23, .ref q26, .null, .null, .null, .int 0]))), (q0, (.inr (2, [.int 1, .int 0, .int 0, .ref q1, .ref q2, .ref q3, .ref q4, .ref q5, .ref q6, .ref q7, .ref q8, .ref q9]))), (q1, (.inl (g.2.2.2 0, 20, .inl (fun _ => 0)))), (q2, (.inl (g.2.2.2 0, 20, .inl (fun _ => 0)))), (q3, (.inl (g.2.2.2 0, 20, .inl (fun _ => 0)))), (q4, (.inl (g.2.2.2 0, 20, .inl (fun _ => 0)))), (q5, (.inl (g.2.2.2 0, 20, .inl (fun _ => 0)))), (q6, (.inl (g.2.2.2 0, 5, .inl (fun _ => 0)))), (q7, (.inl (g.2.2.2 0, 5, .inl (fun _ => 0)))), (q8, (.inl (g.2.2.2 0, 5, .inl (fun _ => 0)))), (q9, (.inl (g.2.2.2 0, 5, .inl (fun _ => 0)))), (q10, (.inr (2, [.int 1, .int 0, .int 0, .ref q11, .ref q12, .ref q13, .ref q14, .ref q15, .ref q16, .ref q17, .ref q18, .ref q19]))), (q11, (.inl (g.2.2.2 0, 20, .inl (fun _ => 0)))), (q12, (.inl (g.2.2.2 0, 20, .inl (fun _ => 0)))), (q13, (.inl (g.2.2.2 0, 20, .inl (fun _ => 0)))), (q14, (.inl (g.2.2.2 0, 20, .inl (fun _ => 0)))), (q15, (.inl (g.2.2.2 0, 20, .inl (fun _ => 0)))), (q16, (.inl (g.2.2.2 0, 5, .inl (fun _ => 0)))), (q17, (.inl (g.2.2.2 0, 5, .inl (fun _ => 0)))), (q18, (.inl (g.2.2.2 0, 5, .inl (fun _ => 0)))), (q19, (.inl (g.2.2.2 0, 5, .inl (fun _ => 0)))), (q20, (.inr (3, [.ref q21, .ref q22]))), (q21, (.inl (g.2.2.2 0, 40, .inl (fun _ => 0)))), (q22, (.inl (g.2.2.2 0, 5, .inl (fun _ => 0)))), (q23, (.inr (3, [.ref q24, .ref q25]))), (q24, (.inl (g.2.2.2 0, 40, .inl (fun _ => 0)))), (q25, (.inl (g.2.2.2 0, 5, .inl (fun _ => 0)))), (q26, (.inr (5, [.ref q27, .ref q28, .ref q29, .ref q30, .ref q31, .ref q32, .ref q34, .ref q35]))), (q27, (.inl (g.2.2.2 0, 5, .inl (fun _ => 0)))), (q28, (.inl (g.2.2.2 0, 40, .inl (fun _ => 0)))), (q29, (.inl (g.2.2.2 0, 40, .inl (fun _ => 0)))), (q30, (.inl (g.2.2.2 0, 320, .inl (fun _ => 0)))), (q31, (.inl (g.2.2.2 1, 5, .inl (fun _ => 0)))), (q32, (.inr (1, [.ref q33]))), (q33, (.inl (g.2.2.2 0, 9, .inl (fun _ => 0)))), (q34, (.inl (g.2.2.2 0, 20, .inl f36))), (q35, (.inl (g.2.2.2 0, 8, .inl (fun _ => 0))))]) rfl ?_
  refine b_ald (j := 0) iX7_init_59 rfl rfl ?_
  refine b_new iX7_init_60 nwX7_36 (by decide) (by decide) (fun q36 => ?_)
  refine b_dup iX7_init_63 ?_
  refine b_callN (host := "LoadYard") iX7_init_64 cX2_init miX2_init (nmem 182 (by decide +kernel) (by decide +kernel)) rfl (by decide) (by decide) (by decide) (by decide) (fun w hw => ?_)
  obtain ⟨q37, rfl⟩ := hw
  refine b_put (k := 5) (v := .ref q36) (fs := [.ref q0, .ref q10, .ref q20, .ref q23, .ref q26, .null, .null, .null, .int 0]) iX7_init_67 fcX7_39 rfl rfl rfl (Nat.le_of_ble_eq_true rfl) ?_
  refine b_ws (ws' := [(h, (.inr (6, [.ref q0, .ref q10, .ref q20, .ref q23, .ref q26, .ref q36, .null, .null, .int 0]))), (q0, (.inr (2, [.int 1, .int 0, .int 0, .ref q1, .ref q2, .ref q3, .ref q4, .ref q5, .ref q6, .ref q7, .ref q8, .ref q9]))), (q1, (.inl (g.2.2.2 0, 20, .inl (fun _ => 0)))), (q2, (.inl (g.2.2.2 0, 20, .inl (fun _ => 0)))), (q3, (.inl (g.2.2.2 0, 20, .inl (fun _ => 0)))), (q4, (.inl (g.2.2.2 0, 20, .inl (fun _ => 0)))), (q5, (.inl (g.2.2.2 0, 20, .inl (fun _ => 0)))), (q6, (.inl (g.2.2.2 0, 5, .inl (fun _ => 0)))), (q7, (.inl (g.2.2.2 0, 5, .inl (fun _ => 0)))), (q8, (.inl (g.2.2.2 0, 5, .inl (fun _ => 0)))), (q9, (.inl (g.2.2.2 0, 5, .inl (fun _ => 0)))), (q10, (.inr (2, [.int 1, .int 0, .int 0, .ref q11, .ref q12, .ref q13, .ref q14, .ref q15, .ref q16, .ref q17, .ref q18, .ref q19]))), (q11, (.inl (g.2.2.2 0, 20, .inl (fun _ => 0)))), (q12, (.inl (g.2.2.2 0, 20, .inl (fun _ => 0)))), (q13, (.inl (g.2.2.2 0, 20, .inl (fun _ => 0)))), (q14, (.inl (g.2.2.2 0, 20, .inl (fun _ => 0)))), (q15, (.inl (g.2.2.2 0, 20, .inl (fun _ => 0)))), (q16, (.inl (g.2.2.2 0, 5, .inl (fun _ => 0)))), (q17, (.inl (g.2.2.2 0, 5, .inl (fun _ => 0)))), (q18, (.inl (g.2.2.2 0, 5, .inl (fun _ => 0)))), (q19, (.inl (g.2.2.2 0, 5, .inl (fun _ => 0)))), (q20, (.inr (3, [.ref q21, .ref q22]))), (q21, (.inl (g.2.2.2 0, 40, .inl (fun _ => 0)))), (q22, (.inl (g.2.2.2 0, 5, .inl (fun _ => 0)))), (q23, (.inr (3, [.ref q24, .ref q25]))), (q24, (.inl (g.2.2.2 0, 40, .inl (fun _ => 0)))), (q25, (.inl (g.2.2.2 0, 5, .inl (fun _ => 0)))), (q26, (.inr (5, [.ref q27, .ref q28, .ref q29, .ref q30, .ref q31, .ref q32, .ref q34, .ref q35]))), (q27, (.inl (g.2.2.2 0, 5, .inl (fun _ => 0)))), (q28, (.inl (g.2.2.2 0, 40, .inl (fun _ => 0)))), (q29, (.inl (g.2.2.2 0, 40, .inl (fun _ => 0)))), (q30, (.inl (g.2.2.2 0, 320, .inl (fun _ => 0)))), (q31, (.inl (g.2.2.2 1, 5, .inl (fun _ => 0)))), (q32, (.inr (1, [.ref q33]))), (q33, (.inl (g.2.2.2 0, 9, .inl (fun _ => 0)))), (q34, (.inl (g.2.2.2 0, 20, .inl f36))), (q35, (.inl (g.2.2.2 0, 8, .inl (fun _ => 0)))), (q36, (.inr (1, [.ref q37]))), (q37, (.inl (g.2.2.2 0, 9, .inl (fun _ => 0))))]) rfl ?_
  refine b_ald (j := 0) iX7_init_70 rfl rfl ?_
  refine b_new iX7_init_71 nwX7_43 (by decide) (by decide) (fun q38 => ?_)
  refine b_dup iX7_init_74 ?_
  refine b_callN (host := "LoadYard") iX7_init_75 cX0_init miX0_init (nmem 185 (by decide +kernel) (by decide +kernel)) rfl (by decide) (by decide) (by decide) (by decide) (fun w hw => ?_)
  obtain ⟨q39, q40, q41, q42, q43, q44, q45, rfl⟩ := hw
  refine b_put (k := 6) (v := .ref q38) (fs := [.ref q0, .ref q10, .ref q20, .ref q23, .ref q26, .ref q36, .null, .null, .int 0]) iX7_init_78 fcX7_46 rfl rfl rfl (Nat.le_of_ble_eq_true rfl) ?_
  refine b_ws (ws' := [(h, (.inr (6, [.ref q0, .ref q10, .ref q20, .ref q23, .ref q26, .ref q36, .ref q38, .null, .int 0]))), (q0, (.inr (2, [.int 1, .int 0, .int 0, .ref q1, .ref q2, .ref q3, .ref q4, .ref q5, .ref q6, .ref q7, .ref q8, .ref q9]))), (q1, (.inl (g.2.2.2 0, 20, .inl (fun _ => 0)))), (q2, (.inl (g.2.2.2 0, 20, .inl (fun _ => 0)))), (q3, (.inl (g.2.2.2 0, 20, .inl (fun _ => 0)))), (q4, (.inl (g.2.2.2 0, 20, .inl (fun _ => 0)))), (q5, (.inl (g.2.2.2 0, 20, .inl (fun _ => 0)))), (q6, (.inl (g.2.2.2 0, 5, .inl (fun _ => 0)))), (q7, (.inl (g.2.2.2 0, 5, .inl (fun _ => 0)))), (q8, (.inl (g.2.2.2 0, 5, .inl (fun _ => 0)))), (q9, (.inl (g.2.2.2 0, 5, .inl (fun _ => 0)))), (q10, (.inr (2, [.int 1, .int 0, .int 0, .ref q11, .ref q12, .ref q13, .ref q14, .ref q15, .ref q16, .ref q17, .ref q18, .ref q19]))), (q11, (.inl (g.2.2.2 0, 20, .inl (fun _ => 0)))), (q12, (.inl (g.2.2.2 0, 20, .inl (fun _ => 0)))), (q13, (.inl (g.2.2.2 0, 20, .inl (fun _ => 0)))), (q14, (.inl (g.2.2.2 0, 20, .inl (fun _ => 0)))), (q15, (.inl (g.2.2.2 0, 20, .inl (fun _ => 0)))), (q16, (.inl (g.2.2.2 0, 5, .inl (fun _ => 0)))), (q17, (.inl (g.2.2.2 0, 5, .inl (fun _ => 0)))), (q18, (.inl (g.2.2.2 0, 5, .inl (fun _ => 0)))), (q19, (.inl (g.2.2.2 0, 5, .inl (fun _ => 0)))), (q20, (.inr (3, [.ref q21, .ref q22]))), (q21, (.inl (g.2.2.2 0, 40, .inl (fun _ => 0)))), (q22, (.inl (g.2.2.2 0, 5, .inl (fun _ => 0)))), (q23, (.inr (3, [.ref q24, .ref q25]))), (q24, (.inl (g.2.2.2 0, 40, .inl (fun _ => 0)))), (q25, (.inl (g.2.2.2 0, 5, .inl (fun _ => 0)))), (q26, (.inr (5, [.ref q27, .ref q28, .ref q29, .ref q30, .ref q31, .ref q32, .ref q34, .ref q35]))), (q27, (.inl (g.2.2.2 0, 5, .inl (fun _ => 0)))), (q28, (.inl (g.2.2.2 0, 40, .inl (fun _ => 0)))), (q29, (.inl (g.2.2.2 0, 40, .inl (fun _ => 0)))), (q30, (.inl (g.2.2.2 0, 320, .inl (fun _ => 0)))), (q31, (.inl (g.2.2.2 1, 5, .inl (fun _ => 0)))), (q32, (.inr (1, [.ref q33]))), (q33, (.inl (g.2.2.2 0, 9, .inl (fun _ => 0)))), (q34, (.inl (g.2.2.2 0, 20, .inl f36))), (q35, (.inl (g.2.2.2 0, 8, .inl (fun _ => 0)))), (q36, (.inr (1, [.ref q37]))), (q37, (.inl (g.2.2.2 0, 9, .inl (fun _ => 0)))), (q38, (.inr (0, [.int 1000000000, .ref q39, .ref q40, .ref q41, .ref q42, .ref q43, .ref q44, .ref q45]))), (q39, (.inl (g.2.2.2 0, 5, .inl (fun _ => 0)))), (q40, (.inl (g.2.2.2 0, 5, .inl (fun _ => 0)))), (q41, (.inl (g.2.2.2 0, 5, .inl (fun _ => 0)))), (q42, (.inl (g.2.2.2 0, 5, .inl (fun _ => 0)))), (q43, (.inl (g.2.2.2 0, 40, .inl (fun _ => 0)))), (q44, (.inl (g.2.2.2 0, 6, .inl (fun _ => 0)))), (q45, (.inl (g.2.2.2 0, 20, .inl (fun _ => 0))))]) rfl ?_
  refine b_ald (j := 0) iX7_init_81 rfl rfl ?_
  refine b_new iX7_init_82 nwX7_50 (by decide) (by decide) (fun q46 => ?_)
  refine b_dup iX7_init_85 ?_
  refine b_callN (host := "LoadYard") iX7_init_86 cX5_init miX5_init (nmem 219 (by decide +kernel) (by decide +kernel)) rfl (by decide) (by decide) (by decide) (by decide) (fun w hw => ?_)
  obtain ⟨q47, q48, q49, rfl⟩ := hw
  refine b_put (k := 7) (v := .ref q46) (fs := [.ref q0, .ref q10, .ref q20, .ref q23, .ref q26, .ref q36, .ref q38, .null, .int 0]) iX7_init_89 fcX7_53 rfl rfl rfl (Nat.le_of_ble_eq_true rfl) ?_
  refine b_ws (ws' := [(h, (.inr (6, [.ref q0, .ref q10, .ref q20, .ref q23, .ref q26, .ref q36, .ref q38, .ref q46, .int 0]))), (q0, (.inr (2, [.int 1, .int 0, .int 0, .ref q1, .ref q2, .ref q3, .ref q4, .ref q5, .ref q6, .ref q7, .ref q8, .ref q9]))), (q1, (.inl (g.2.2.2 0, 20, .inl (fun _ => 0)))), (q2, (.inl (g.2.2.2 0, 20, .inl (fun _ => 0)))), (q3, (.inl (g.2.2.2 0, 20, .inl (fun _ => 0)))), (q4, (.inl (g.2.2.2 0, 20, .inl (fun _ => 0)))), (q5, (.inl (g.2.2.2 0, 20, .inl (fun _ => 0)))), (q6, (.inl (g.2.2.2 0, 5, .inl (fun _ => 0)))), (q7, (.inl (g.2.2.2 0, 5, .inl (fun _ => 0)))), (q8, (.inl (g.2.2.2 0, 5, .inl (fun _ => 0)))), (q9, (.inl (g.2.2.2 0, 5, .inl (fun _ => 0)))), (q10, (.inr (2, [.int 1, .int 0, .int 0, .ref q11, .ref q12, .ref q13, .ref q14, .ref q15, .ref q16, .ref q17, .ref q18, .ref q19]))), (q11, (.inl (g.2.2.2 0, 20, .inl (fun _ => 0)))), (q12, (.inl (g.2.2.2 0, 20, .inl (fun _ => 0)))), (q13, (.inl (g.2.2.2 0, 20, .inl (fun _ => 0)))), (q14, (.inl (g.2.2.2 0, 20, .inl (fun _ => 0)))), (q15, (.inl (g.2.2.2 0, 20, .inl (fun _ => 0)))), (q16, (.inl (g.2.2.2 0, 5, .inl (fun _ => 0)))), (q17, (.inl (g.2.2.2 0, 5, .inl (fun _ => 0)))), (q18, (.inl (g.2.2.2 0, 5, .inl (fun _ => 0)))), (q19, (.inl (g.2.2.2 0, 5, .inl (fun _ => 0)))), (q20, (.inr (3, [.ref q21, .ref q22]))), (q21, (.inl (g.2.2.2 0, 40, .inl (fun _ => 0)))), (q22, (.inl (g.2.2.2 0, 5, .inl (fun _ => 0)))), (q23, (.inr (3, [.ref q24, .ref q25]))), (q24, (.inl (g.2.2.2 0, 40, .inl (fun _ => 0)))), (q25, (.inl (g.2.2.2 0, 5, .inl (fun _ => 0)))), (q26, (.inr (5, [.ref q27, .ref q28, .ref q29, .ref q30, .ref q31, .ref q32, .ref q34, .ref q35]))), (q27, (.inl (g.2.2.2 0, 5, .inl (fun _ => 0)))), (q28, (.inl (g.2.2.2 0, 40, .inl (fun _ => 0)))), (q29, (.inl (g.2.2.2 0, 40, .inl (fun _ => 0)))), (q30, (.inl (g.2.2.2 0, 320, .inl (fun _ => 0)))), (q31, (.inl (g.2.2.2 1, 5, .inl (fun _ => 0)))), (q32, (.inr (1, [.ref q33]))), (q33, (.inl (g.2.2.2 0, 9, .inl (fun _ => 0)))), (q34, (.inl (g.2.2.2 0, 20, .inl f36))), (q35, (.inl (g.2.2.2 0, 8, .inl (fun _ => 0)))), (q36, (.inr (1, [.ref q37]))), (q37, (.inl (g.2.2.2 0, 9, .inl (fun _ => 0)))), (q38, (.inr (0, [.int 1000000000, .ref q39, .ref q40, .ref q41, .ref q42, .ref q43, .ref q44, .ref q45]))), (q39, (.inl (g.2.2.2 0, 5, .inl (fun _ => 0)))), (q40, (.inl (g.2.2.2 0, 5, .inl (fun _ => 0)))), (q41, (.inl (g.2.2.2 0, 5, .inl (fun _ => 0)))), (q42, (.inl (g.2.2.2 0, 5, .inl (fun _ => 0)))), (q43, (.inl (g.2.2.2 0, 40, .inl (fun _ => 0)))), (q44, (.inl (g.2.2.2 0, 6, .inl (fun _ => 0)))), (q45, (.inl (g.2.2.2 0, 20, .inl (fun _ => 0)))), (q46, (.inr (4, [.ref q47, .ref q48, .ref q49]))), (q47, (.inl (g.2.2.2 0, 5, .inl (fun _ => 0)))), (q48, (.inl (g.2.2.2 0, 5, .inl (fun _ => 0)))), (q49, (.inl (g.2.2.2 1, 5, .inl (fun _ => 0))))]) rfl ?_
  refine b_ald (j := 0) iX7_init_92 rfl rfl ?_
  refine b_con (v := 0) iX7_init_93 (by decide) ?_
  refine b_put (k := 8) (v := .int 0) (fs := [.ref q0, .ref q10, .ref q20, .ref q23, .ref q26, .ref q36, .ref q38, .ref q46, .int 0]) iX7_init_94 fcX7_57 rfl rfl rfl (Nat.le_of_ble_eq_true rfl) ?_
  refine b_ws (ws' := [(h, (.inr (6, [.ref q0, .ref q10, .ref q20, .ref q23, .ref q26, .ref q36, .ref q38, .ref q46, .int 0]))), (q0, (.inr (2, [.int 1, .int 0, .int 0, .ref q1, .ref q2, .ref q3, .ref q4, .ref q5, .ref q6, .ref q7, .ref q8, .ref q9]))), (q1, (.inl (g.2.2.2 0, 20, .inl (fun _ => 0)))), (q2, (.inl (g.2.2.2 0, 20, .inl (fun _ => 0)))), (q3, (.inl (g.2.2.2 0, 20, .inl (fun _ => 0)))), (q4, (.inl (g.2.2.2 0, 20, .inl (fun _ => 0)))), (q5, (.inl (g.2.2.2 0, 20, .inl (fun _ => 0)))), (q6, (.inl (g.2.2.2 0, 5, .inl (fun _ => 0)))), (q7, (.inl (g.2.2.2 0, 5, .inl (fun _ => 0)))), (q8, (.inl (g.2.2.2 0, 5, .inl (fun _ => 0)))), (q9, (.inl (g.2.2.2 0, 5, .inl (fun _ => 0)))), (q10, (.inr (2, [.int 1, .int 0, .int 0, .ref q11, .ref q12, .ref q13, .ref q14, .ref q15, .ref q16, .ref q17, .ref q18, .ref q19]))), (q11, (.inl (g.2.2.2 0, 20, .inl (fun _ => 0)))), (q12, (.inl (g.2.2.2 0, 20, .inl (fun _ => 0)))), (q13, (.inl (g.2.2.2 0, 20, .inl (fun _ => 0)))), (q14, (.inl (g.2.2.2 0, 20, .inl (fun _ => 0)))), (q15, (.inl (g.2.2.2 0, 20, .inl (fun _ => 0)))), (q16, (.inl (g.2.2.2 0, 5, .inl (fun _ => 0)))), (q17, (.inl (g.2.2.2 0, 5, .inl (fun _ => 0)))), (q18, (.inl (g.2.2.2 0, 5, .inl (fun _ => 0)))), (q19, (.inl (g.2.2.2 0, 5, .inl (fun _ => 0)))), (q20, (.inr (3, [.ref q21, .ref q22]))), (q21, (.inl (g.2.2.2 0, 40, .inl (fun _ => 0)))), (q22, (.inl (g.2.2.2 0, 5, .inl (fun _ => 0)))), (q23, (.inr (3, [.ref q24, .ref q25]))), (q24, (.inl (g.2.2.2 0, 40, .inl (fun _ => 0)))), (q25, (.inl (g.2.2.2 0, 5, .inl (fun _ => 0)))), (q26, (.inr (5, [.ref q27, .ref q28, .ref q29, .ref q30, .ref q31, .ref q32, .ref q34, .ref q35]))), (q27, (.inl (g.2.2.2 0, 5, .inl (fun _ => 0)))), (q28, (.inl (g.2.2.2 0, 40, .inl (fun _ => 0)))), (q29, (.inl (g.2.2.2 0, 40, .inl (fun _ => 0)))), (q30, (.inl (g.2.2.2 0, 320, .inl (fun _ => 0)))), (q31, (.inl (g.2.2.2 1, 5, .inl (fun _ => 0)))), (q32, (.inr (1, [.ref q33]))), (q33, (.inl (g.2.2.2 0, 9, .inl (fun _ => 0)))), (q34, (.inl (g.2.2.2 0, 20, .inl f36))), (q35, (.inl (g.2.2.2 0, 8, .inl (fun _ => 0)))), (q36, (.inr (1, [.ref q37]))), (q37, (.inl (g.2.2.2 0, 9, .inl (fun _ => 0)))), (q38, (.inr (0, [.int 1000000000, .ref q39, .ref q40, .ref q41, .ref q42, .ref q43, .ref q44, .ref q45]))), (q39, (.inl (g.2.2.2 0, 5, .inl (fun _ => 0)))), (q40, (.inl (g.2.2.2 0, 5, .inl (fun _ => 0)))), (q41, (.inl (g.2.2.2 0, 5, .inl (fun _ => 0)))), (q42, (.inl (g.2.2.2 0, 5, .inl (fun _ => 0)))), (q43, (.inl (g.2.2.2 0, 40, .inl (fun _ => 0)))), (q44, (.inl (g.2.2.2 0, 6, .inl (fun _ => 0)))), (q45, (.inl (g.2.2.2 0, 20, .inl (fun _ => 0)))), (q46, (.inr (4, [.ref q47, .ref q48, .ref q49]))), (q47, (.inl (g.2.2.2 0, 5, .inl (fun _ => 0)))), (q48, (.inl (g.2.2.2 0, 5, .inl (fun _ => 0)))), (q49, (.inl (g.2.2.2 1, 5, .inl (fun _ => 0))))]) rfl ?_
  exact b_ret iX7_init_97 rfl rfl rfl ⟨q0, q1, q2, q3, q4, q5, q6, q7, q8, q9, q10, q11, q12, q13, q14, q15, q16, q17, q18, q19, q20, q21, q22, q23, q24, q25, q26, q27, q28, q29, q30, q31, q32, q33, q34, q35, q36, q37, q38, q39, q40, q41, q42, q43, q44, q45, q46, q47, q48, q49, f36, hf36, rfl⟩
theorem cX8_init {g : Gt} : Cn g mX8_init ⟨1, 27, 776, 12⟩ 7 [.int 0, .int 0, .null, .null, .null, .null, .int 0, .null, .null, .null, .null, .null, .null, .null, .null, .null, .int 0, .null, .null, .null, .null, .null, .null, .null, .null, .null, .null, .null, .null, .null, .null, .long 0, .long 0] (fun h w => ∃ q0 q1 q2 q3 q4 q5 q6 q7 q8 q9 q10 q11 q12 q13 q14 q15 q16 q17 q18 q19 q20 q21 q22 q23 q24 q25 q26, w = [(h, (.inr (7, [.int 1, .int 0, .ref q0, .ref q1, .ref q2, .ref q3, .int 0, .ref q4, .ref q5, .ref q6, .ref q7, .ref q8, .ref q9, .ref q10, .ref q11, .ref q12, .int 0, .ref q13, .ref q14, .ref q15, .ref q16, .ref q17, .ref q18, .ref q19, .ref q20, .ref q21, .ref q22, .ref q23, .ref q24, .ref q25, .ref q26, .long 0, .long 0]))), (q0, (.inl (g.2.2.2 0, 40, .inl (fun _ => 0)))), (q1, (.inl (g.2.2.2 0, 20, .inl (fun _ => 0)))), (q2, (.inl (g.2.2.2 0, 20, .inl (fun _ => 0)))), (q3, (.inl (g.2.2.2 0, 20, .inl (fun _ => 0)))), (q4, (.inl (g.2.2.2 0, 5, .inl (fun _ => 0)))), (q5, (.inl (g.2.2.2 0, 5, .inl (fun _ => 0)))), (q6, (.inl (g.2.2.2 0, 5, .inl (fun _ => 0)))), (q7, (.inl (g.2.2.2 0, 5, .inl (fun _ => 0)))), (q8, (.inl (g.2.2.2 0, 5, .inl (fun _ => 0)))), (q9, (.inl (g.2.2.2 0, 40, .inl (fun _ => 0)))), (q10, (.inl (g.2.2.2 0, 5, .inl (fun _ => 0)))), (q11, (.inl (g.2.2.2 0, 40, .inl (fun _ => 0)))), (q12, (.inl (g.2.2.2 0, 320, .inl (fun _ => 0)))), (q13, (.inl (g.2.2.2 0, 3, .inl (fun _ => 0)))), (q14, (.inl (g.2.2.2 0, 100, .inl (fun _ => 0)))), (q15, (.inl (g.2.2.2 0, 25, .inl (fun _ => 0)))), (q16, (.inl (g.2.2.2 0, 40, .inl (fun _ => 0)))), (q17, (.inl (g.2.2.2 0, 9, .inl (fun _ => 0)))), (q18, (.inl (g.2.2.2 0, 10, .inl (fun _ => 0)))), (q19, (.inl (g.2.2.2 0, 5, .inl (fun _ => 0)))), (q20, (.inl (g.2.2.2 0, 5, .inl (fun _ => 0)))), (q21, (.inl (g.2.2.2 0, 20, .inl (fun _ => 0)))), (q22, (.inl (g.2.2.2 0, 9, .inl (fun _ => 0)))), (q23, (.inl (g.2.2.2 1, 5, .inl (fun _ => 0)))), (q24, (.inl (g.2.2.2 0, 5, .inl (fun _ => 0)))), (q25, (.inl (g.2.2.2 2, 5, .inr (.inl (fun _ => 0))))), (q26, (.inl (g.2.2.2 2, 5, .inr (.inl (fun _ => 0)))))]) := by
  refine Cn.in (by decide +kernel) rfl (by decide) (fun h => ?_)
  refine b_ald (j := 0) iX8_init_0 rfl rfl ?_
  refine b_obj iX8_init_1 olX8 objI objW (by decide) (by decide) ?_
  refine b_ald (j := 0) iX8_init_4 rfl rfl ?_
  refine b_con (v := 1) iX8_init_5 (by decide) ?_
  refine b_put (k := 0) (v := .int 1) (fs := [.int 0, .int 0, .null, .null, .null, .null, .int 0, .null, .null, .null, .null, .null, .null, .null, .null, .null, .int 0, .null, .null, .null, .null, .null, .null, .null, .null, .null, .null, .null, .null, .null, .null, .long 0, .long 0]) iX8_init_6 fcX8_7 rfl rfl rfl (Nat.le_of_ble_eq_true rfl) ?_
  refine b_ws (ws' := [(h, (.inr (7, [.int 1, .int 0, .null, .null, .null, .null, .int 0, .null, .null, .null, .null, .null, .null, .null, .null, .null, .int 0, .null, .null, .null, .null, .null, .null, .null, .null, .null, .null, .null, .null, .null, .null, .long 0, .long 0])))]) rfl ?_
  refine b_ald (j := 0) iX8_init_9 rfl rfl ?_
  refine b_bip (v := 40) iX8_init_10 (by decide) ?_
  refine b_newa (t := 0) (N := 40) (a0 := (40, .inl (fun _ => 0))) iX8_init_12 arrI rfl rfl (fun _ => rfl) (by decide) (by decide) (by decide) (by decide) (by decide) (fun q0 => ?_)
  refine b_put (k := 2) (v := .ref q0) (fs := [.int 1, .int 0, .null, .null, .null, .null, .int 0, .null, .null, .null, .null, .null, .null, .null, .null, .null, .int 0, .null, .null, .null, .null, .null, .null, .null, .null, .null, .null, .null, .null, .null, .null, .long 0, .long 0]) iX8_init_14 fcX8_13 rfl rfl rfl (Nat.le_of_ble_eq_true rfl) ?_
  refine b_ws (ws' := [(h, (.inr (7, [.int 1, .int 0, .ref q0, .null, .null, .null, .int 0, .null, .null, .null, .null, .null, .null, .null, .null, .null, .int 0, .null, .null, .null, .null, .null, .null, .null, .null, .null, .null, .null, .null, .null, .null, .long 0, .long 0]))), (q0, (.inl (g.2.2.2 0, 40, .inl (fun _ => 0))))]) rfl ?_
  refine b_ald (j := 0) iX8_init_17 rfl rfl ?_
  refine b_bip (v := 20) iX8_init_18 (by decide) ?_
  refine b_newa (t := 0) (N := 20) (a0 := (20, .inl (fun _ => 0))) iX8_init_20 arrI rfl rfl (fun _ => rfl) (by decide) (by decide) (by decide) (by decide) (by decide) (fun q1 => ?_)
  refine b_put (k := 3) (v := .ref q1) (fs := [.int 1, .int 0, .ref q0, .null, .null, .null, .int 0, .null, .null, .null, .null, .null, .null, .null, .null, .null, .int 0, .null, .null, .null, .null, .null, .null, .null, .null, .null, .null, .null, .null, .null, .null, .long 0, .long 0]) iX8_init_22 fcX8_17 rfl rfl rfl (Nat.le_of_ble_eq_true rfl) ?_
  refine b_ws (ws' := [(h, (.inr (7, [.int 1, .int 0, .ref q0, .ref q1, .null, .null, .int 0, .null, .null, .null, .null, .null, .null, .null, .null, .null, .int 0, .null, .null, .null, .null, .null, .null, .null, .null, .null, .null, .null, .null, .null, .null, .long 0, .long 0]))), (q0, (.inl (g.2.2.2 0, 40, .inl (fun _ => 0)))), (q1, (.inl (g.2.2.2 0, 20, .inl (fun _ => 0))))]) rfl ?_
  refine b_ald (j := 0) iX8_init_25 rfl rfl ?_
  refine b_bip (v := 20) iX8_init_26 (by decide) ?_
  refine b_newa (t := 0) (N := 20) (a0 := (20, .inl (fun _ => 0))) iX8_init_28 arrI rfl rfl (fun _ => rfl) (by decide) (by decide) (by decide) (by decide) (by decide) (fun q2 => ?_)
  refine b_put (k := 4) (v := .ref q2) (fs := [.int 1, .int 0, .ref q0, .ref q1, .null, .null, .int 0, .null, .null, .null, .null, .null, .null, .null, .null, .null, .int 0, .null, .null, .null, .null, .null, .null, .null, .null, .null, .null, .null, .null, .null, .null, .long 0, .long 0]) iX8_init_30 fcX8_20 rfl rfl rfl (Nat.le_of_ble_eq_true rfl) ?_
  refine b_ws (ws' := [(h, (.inr (7, [.int 1, .int 0, .ref q0, .ref q1, .ref q2, .null, .int 0, .null, .null, .null, .null, .null, .null, .null, .null, .null, .int 0, .null, .null, .null, .null, .null, .null, .null, .null, .null, .null, .null, .null, .null, .null, .long 0, .long 0]))), (q0, (.inl (g.2.2.2 0, 40, .inl (fun _ => 0)))), (q1, (.inl (g.2.2.2 0, 20, .inl (fun _ => 0)))), (q2, (.inl (g.2.2.2 0, 20, .inl (fun _ => 0))))]) rfl ?_
  refine b_ald (j := 0) iX8_init_33 rfl rfl ?_
  refine b_bip (v := 20) iX8_init_34 (by decide) ?_
  refine b_newa (t := 0) (N := 20) (a0 := (20, .inl (fun _ => 0))) iX8_init_36 arrI rfl rfl (fun _ => rfl) (by decide) (by decide) (by decide) (by decide) (by decide) (fun q3 => ?_)
  refine b_put (k := 5) (v := .ref q3) (fs := [.int 1, .int 0, .ref q0, .ref q1, .ref q2, .null, .int 0, .null, .null, .null, .null, .null, .null, .null, .null, .null, .int 0, .null, .null, .null, .null, .null, .null, .null, .null, .null, .null, .null, .null, .null, .null, .long 0, .long 0]) iX8_init_38 fcX8_23 rfl rfl rfl (Nat.le_of_ble_eq_true rfl) ?_
  refine b_ws (ws' := [(h, (.inr (7, [.int 1, .int 0, .ref q0, .ref q1, .ref q2, .ref q3, .int 0, .null, .null, .null, .null, .null, .null, .null, .null, .null, .int 0, .null, .null, .null, .null, .null, .null, .null, .null, .null, .null, .null, .null, .null, .null, .long 0, .long 0]))), (q0, (.inl (g.2.2.2 0, 40, .inl (fun _ => 0)))), (q1, (.inl (g.2.2.2 0, 20, .inl (fun _ => 0)))), (q2, (.inl (g.2.2.2 0, 20, .inl (fun _ => 0)))), (q3, (.inl (g.2.2.2 0, 20, .inl (fun _ => 0))))]) rfl ?_
  refine b_ald (j := 0) iX8_init_41 rfl rfl ?_
  refine b_con (v := 5) iX8_init_42 (by decide) ?_
  refine b_newa (t := 0) (N := 5) (a0 := (5, .inl (fun _ => 0))) iX8_init_43 arrI rfl rfl (fun _ => rfl) (by decide) (by decide) (by decide) (by decide) (by decide) (fun q4 => ?_)
  refine b_put (k := 7) (v := .ref q4) (fs := [.int 1, .int 0, .ref q0, .ref q1, .ref q2, .ref q3, .int 0, .null, .null, .null, .null, .null, .null, .null, .null, .null, .int 0, .null, .null, .null, .null, .null, .null, .null, .null, .null, .null, .null, .null, .null, .null, .long 0, .long 0]) iX8_init_45 fcX8_26 rfl rfl rfl (Nat.le_of_ble_eq_true rfl) ?_
  refine b_ws (ws' := [(h, (.inr (7, [.int 1, .int 0, .ref q0, .ref q1, .ref q2, .ref q3, .int 0, .ref q4, .null, .null, .null, .null, .null, .null, .null, .null, .int 0, .null, .null, .null, .null, .null, .null, .null, .null, .null, .null, .null, .null, .null, .null, .long 0, .long 0]))), (q0, (.inl (g.2.2.2 0, 40, .inl (fun _ => 0)))), (q1, (.inl (g.2.2.2 0, 20, .inl (fun _ => 0)))), (q2, (.inl (g.2.2.2 0, 20, .inl (fun _ => 0)))), (q3, (.inl (g.2.2.2 0, 20, .inl (fun _ => 0)))), (q4, (.inl (g.2.2.2 0, 5, .inl (fun _ => 0))))]) rfl ?_
  refine b_ald (j := 0) iX8_init_48 rfl rfl ?_
  refine b_con (v := 5) iX8_init_49 (by decide) ?_
  refine b_newa (t := 0) (N := 5) (a0 := (5, .inl (fun _ => 0))) iX8_init_50 arrI rfl rfl (fun _ => rfl) (by decide) (by decide) (by decide) (by decide) (by decide) (fun q5 => ?_)
  refine b_put (k := 8) (v := .ref q5) (fs := [.int 1, .int 0, .ref q0, .ref q1, .ref q2, .ref q3, .int 0, .ref q4, .null, .null, .null, .null, .null, .null, .null, .null, .int 0, .null, .null, .null, .null, .null, .null, .null, .null, .null, .null, .null, .null, .null, .null, .long 0, .long 0]) iX8_init_52 fcX8_29 rfl rfl rfl (Nat.le_of_ble_eq_true rfl) ?_
  refine b_ws (ws' := [(h, (.inr (7, [.int 1, .int 0, .ref q0, .ref q1, .ref q2, .ref q3, .int 0, .ref q4, .ref q5, .null, .null, .null, .null, .null, .null, .null, .int 0, .null, .null, .null, .null, .null, .null, .null, .null, .null, .null, .null, .null, .null, .null, .long 0, .long 0]))), (q0, (.inl (g.2.2.2 0, 40, .inl (fun _ => 0)))), (q1, (.inl (g.2.2.2 0, 20, .inl (fun _ => 0)))), (q2, (.inl (g.2.2.2 0, 20, .inl (fun _ => 0)))), (q3, (.inl (g.2.2.2 0, 20, .inl (fun _ => 0)))), (q4, (.inl (g.2.2.2 0, 5, .inl (fun _ => 0)))), (q5, (.inl (g.2.2.2 0, 5, .inl (fun _ => 0))))]) rfl ?_
  refine b_ald (j := 0) iX8_init_55 rfl rfl ?_
  refine b_con (v := 5) iX8_init_56 (by decide) ?_
  refine b_newa (t := 0) (N := 5) (a0 := (5, .inl (fun _ => 0))) iX8_init_57 arrI rfl rfl (fun _ => rfl) (by decide) (by decide) (by decide) (by decide) (by decide) (fun q6 => ?_)
  refine b_put (k := 9) (v := .ref q6) (fs := [.int 1, .int 0, .ref q0, .ref q1, .ref q2, .ref q3, .int 0, .ref q4, .ref q5, .null, .null, .null, .null, .null, .null, .null, .int 0, .null, .null, .null, .null, .null, .null, .null, .null, .null, .null, .null, .null, .null, .null, .long 0, .long 0]) iX8_init_59 fcX8_32 rfl rfl rfl (Nat.le_of_ble_eq_true rfl) ?_
  refine b_ws (ws' := [(h, (.inr (7, [.int 1, .int 0, .ref q0, .ref q1, .ref q2, .ref q3, .int 0, .ref q4, .ref q5, .ref q6, .null, .null, .null, .null, .null, .null, .int 0, .null, .null, .null, .null, .null, .null, .null, .null, .null, .null, .null, .null, .null, .null, .long 0, .long 0]))), (q0, (.inl (g.2.2.2 0, 40, .inl (fun _ => 0)))), (q1, (.inl (g.2.2.2 0, 20, .inl (fun _ => 0)))), (q2, (.inl (g.2.2.2 0, 20, .inl (fun _ => 0)))), (q3, (.inl (g.2.2.2 0, 20, .inl (fun _ => 0)))), (q4, (.inl (g.2.2.2 0, 5, .inl (fun _ => 0)))), (q5, (.inl (g.2.2.2 0, 5, .inl (fun _ => 0)))), (q6, (.inl (g.2.2.2 0, 5, .inl (fun _ => 0))))]) rfl ?_
  refine b_ald (j := 0) iX8_init_62 rfl rfl ?_
  refine b_con (v := 5) iX8_init_63 (by decide) ?_
  refine b_newa (t := 0) (N := 5) (a0 := (5, .inl (fun _ => 0))) iX8_init_64 arrI rfl rfl (fun _ => rfl) (by decide) (by decide) (by decide) (by decide) (by decide) (fun q7 => ?_)
  refine b_put (k := 10) (v := .ref q7) (fs := [.int 1, .int 0, .ref q0, .ref q1, .ref q2, .ref q3, .int 0, .ref q4, .ref q5, .ref q6, .null, .null, .null, .null, .null, .null, .int 0, .null, .null, .null, .null, .null, .null, .null, .null, .null, .null, .null, .null, .null, .null, .long 0, .long 0]) iX8_init_66 fcX8_35 rfl rfl rfl (Nat.le_of_ble_eq_true rfl) ?_
  refine b_ws (ws' := [(h, (.inr (7, [.int 1, .int 0, .ref q0, .ref q1, .ref q2, .ref q3, .int 0, .ref q4, .ref q5, .ref q6, .ref q7, .null, .null, .null, .null, .null, .int 0, .null, .null, .null, .null, .null, .null, .null, .null, .null, .null, .null, .null, .null, .null, .long 0, .long 0]))), (q0, (.inl (g.2.2.2 0, 40, .inl (fun _ => 0)))), (q1, (.inl (g.2.2.2 0, 20, .inl (fun _ => 0)))), (q2, (.inl (g.2.2.2 0, 20, .inl (fun _ => 0)))), (q3, (.inl (g.2.2.2 0, 20, .inl (fun _ => 0)))), (q4, (.inl (g.2.2.2 0, 5, .inl (fun _ => 0)))), (q5, (.inl (g.2.2.2 0, 5, .inl (fun _ => 0)))), (q6, (.inl (g.2.2.2 0, 5, .inl (fun _ => 0)))), (q7, (.inl (g.2.2.2 0, 5, .inl (fun _ => 0))))]) rfl ?_
  refine b_ald (j := 0) iX8_init_69 rfl rfl ?_
  refine b_con (v := 5) iX8_init_70 (by decide) ?_
  refine b_newa (t := 0) (N := 5) (a0 := (5, .inl (fun _ => 0))) iX8_init_71 arrI rfl rfl (fun _ => rfl) (by decide) (by decide) (by decide) (by decide) (by decide) (fun q8 => ?_)
  refine b_put (k := 11) (v := .ref q8) (fs := [.int 1, .int 0, .ref q0, .ref q1, .ref q2, .ref q3, .int 0, .ref q4, .ref q5, .ref q6, .ref q7, .null, .null, .null, .null, .null, .int 0, .null, .null, .null, .null, .null, .null, .null, .null, .null, .null, .null, .null, .null, .null, .long 0, .long 0]) iX8_init_73 fcX8_38 rfl rfl rfl (Nat.le_of_ble_eq_true rfl) ?_
  refine b_ws (ws' := [(h, (.inr (7, [.int 1, .int 0, .ref q0, .ref q1, .ref q2, .ref q3, .int 0, .ref q4, .ref q5, .ref q6, .ref q7, .ref q8, .null, .null, .null, .null, .int 0, .null, .null, .null, .null, .null, .null, .null, .null, .null, .null, .null, .null, .null, .null, .long 0, .long 0]))), (q0, (.inl (g.2.2.2 0, 40, .inl (fun _ => 0)))), (q1, (.inl (g.2.2.2 0, 20, .inl (fun _ => 0)))), (q2, (.inl (g.2.2.2 0, 20, .inl (fun _ => 0)))), (q3, (.inl (g.2.2.2 0, 20, .inl (fun _ => 0)))), (q4, (.inl (g.2.2.2 0, 5, .inl (fun _ => 0)))), (q5, (.inl (g.2.2.2 0, 5, .inl (fun _ => 0)))), (q6, (.inl (g.2.2.2 0, 5, .inl (fun _ => 0)))), (q7, (.inl (g.2.2.2 0, 5, .inl (fun _ => 0)))), (q8, (.inl (g.2.2.2 0, 5, .inl (fun _ => 0))))]) rfl ?_
  refine b_ald (j := 0) iX8_init_76 rfl rfl ?_
  refine b_bip (v := 40) iX8_init_77 (by decide) ?_
  refine b_newa (t := 0) (N := 40) (a0 := (40, .inl (fun _ => 0))) iX8_init_79 arrI rfl rfl (fun _ => rfl) (by decide) (by decide) (by decide) (by decide) (by decide) (fun q9 => ?_)
  refine b_put (k := 12) (v := .ref q9) (fs := [.int 1, .int 0, .ref q0, .ref q1, .ref q2, .ref q3, .int 0, .ref q4, .ref q5, .ref q6, .ref q7, .ref q8, .null, .null, .null, .null, .int 0, .null, .null, .null, .null, .null, .null, .null, .null, .null, .null, .null, .null, .null, .null, .long 0, .long 0]) iX8_init_81 fcX8_41 rfl rfl rfl (Nat.le_of_ble_eq_true rfl) ?_
  refine b_ws (ws' := [(h, (.inr (7, [.int 1, .int 0, .ref q0, .ref q1, .ref q2, .ref q3, .int 0, .ref q4, .ref q5, .ref q6, .ref q7, .ref q8, .ref q9, .null, .null, .null, .int 0, .null, .null, .null, .null, .null, .null, .null, .null, .null, .null, .null, .null, .null, .null, .long 0, .long 0]))), (q0, (.inl (g.2.2.2 0, 40, .inl (fun _ => 0)))), (q1, (.inl (g.2.2.2 0, 20, .inl (fun _ => 0)))), (q2, (.inl (g.2.2.2 0, 20, .inl (fun _ => 0)))), (q3, (.inl (g.2.2.2 0, 20, .inl (fun _ => 0)))), (q4, (.inl (g.2.2.2 0, 5, .inl (fun _ => 0)))), (q5, (.inl (g.2.2.2 0, 5, .inl (fun _ => 0)))), (q6, (.inl (g.2.2.2 0, 5, .inl (fun _ => 0)))), (q7, (.inl (g.2.2.2 0, 5, .inl (fun _ => 0)))), (q8, (.inl (g.2.2.2 0, 5, .inl (fun _ => 0)))), (q9, (.inl (g.2.2.2 0, 40, .inl (fun _ => 0))))]) rfl ?_
  refine b_ald (j := 0) iX8_init_84 rfl rfl ?_
  refine b_con (v := 5) iX8_init_85 (by decide) ?_
  refine b_newa (t := 0) (N := 5) (a0 := (5, .inl (fun _ => 0))) iX8_init_86 arrI rfl rfl (fun _ => rfl) (by decide) (by decide) (by decide) (by decide) (by decide) (fun q10 => ?_)
  refine b_put (k := 13) (v := .ref q10) (fs := [.int 1, .int 0, .ref q0, .ref q1, .ref q2, .ref q3, .int 0, .ref q4, .ref q5, .ref q6, .ref q7, .ref q8, .ref q9, .null, .null, .null, .int 0, .null, .null, .null, .null, .null, .null, .null, .null, .null, .null, .null, .null, .null, .null, .long 0, .long 0]) iX8_init_88 fcX8_44 rfl rfl rfl (Nat.le_of_ble_eq_true rfl) ?_
  refine b_ws (ws' := [(h, (.inr (7, [.int 1, .int 0, .ref q0, .ref q1, .ref q2, .ref q3, .int 0, .ref q4, .ref q5, .ref q6, .ref q7, .ref q8, .ref q9, .ref q10, .null, .null, .int 0, .null, .null, .null, .null, .null, .null, .null, .null, .null, .null, .null, .null, .null, .null, .long 0, .long 0]))), (q0, (.inl (g.2.2.2 0, 40, .inl (fun _ => 0)))), (q1, (.inl (g.2.2.2 0, 20, .inl (fun _ => 0)))), (q2, (.inl (g.2.2.2 0, 20, .inl (fun _ => 0)))), (q3, (.inl (g.2.2.2 0, 20, .inl (fun _ => 0)))), (q4, (.inl (g.2.2.2 0, 5, .inl (fun _ => 0)))), (q5, (.inl (g.2.2.2 0, 5, .inl (fun _ => 0)))), (q6, (.inl (g.2.2.2 0, 5, .inl (fun _ => 0)))), (q7, (.inl (g.2.2.2 0, 5, .inl (fun _ => 0)))), (q8, (.inl (g.2.2.2 0, 5, .inl (fun _ => 0)))), (q9, (.inl (g.2.2.2 0, 40, .inl (fun _ => 0)))), (q10, (.inl (g.2.2.2 0, 5, .inl (fun _ => 0))))]) rfl ?_
  refine b_ald (j := 0) iX8_init_91 rfl rfl ?_
  refine b_bip (v := 40) iX8_init_92 (by decide) ?_
  refine b_newa (t := 0) (N := 40) (a0 := (40, .inl (fun _ => 0))) iX8_init_94 arrI rfl rfl (fun _ => rfl) (by decide) (by decide) (by decide) (by decide) (by decide) (fun q11 => ?_)
  refine b_put (k := 14) (v := .ref q11) (fs := [.int 1, .int 0, .ref q0, .ref q1, .ref q2, .ref q3, .int 0, .ref q4, .ref q5, .ref q6, .ref q7, .ref q8, .ref q9, .ref q10, .null, .null, .int 0, .null, .null, .null, .null, .null, .null, .null, .null, .null, .null, .null, .null, .null, .null, .long 0, .long 0]) iX8_init_96 fcX8_47 rfl rfl rfl (Nat.le_of_ble_eq_true rfl) ?_
  refine b_ws (ws' := [(h, (.inr (7, [.int 1, .int 0, .ref q0, .ref q1, .ref q2, .ref q3, .int 0, .ref q4, .ref q5, .ref q6, .ref q7, .ref q8, .ref q9, .ref q10, .ref q11, .null, .int 0, .null, .null, .null, .null, .null, .null, .null, .null, .null, .null, .null, .null, .null, .null, .long 0, .long 0]))), (q0, (.inl (g.2.2.2 0, 40, .inl (fun _ => 0)))), (q1, (.inl (g.2.2.2 0, 20, .inl (fun _ => 0)))), (q2, (.inl (g.2.2.2 0, 20, .inl (fun _ => 0)))), (q3, (.inl (g.2.2.2 0, 20, .inl (fun _ => 0)))), (q4, (.inl (g.2.2.2 0, 5, .inl (fun _ => 0)))), (q5, (.inl (g.2.2.2 0, 5, .inl (fun _ => 0)))), (q6, (.inl (g.2.2.2 0, 5, .inl (fun _ => 0)))), (q7, (.inl (g.2.2.2 0, 5, .inl (fun _ => 0)))), (q8, (.inl (g.2.2.2 0, 5, .inl (fun _ => 0)))), (q9, (.inl (g.2.2.2 0, 40, .inl (fun _ => 0)))), (q10, (.inl (g.2.2.2 0, 5, .inl (fun _ => 0)))), (q11, (.inl (g.2.2.2 0, 40, .inl (fun _ => 0))))]) rfl ?_
  refine b_ald (j := 0) iX8_init_99 rfl rfl ?_
  refine b_sip (v := 320) iX8_init_100 (by decide) ?_
  refine b_newa (t := 0) (N := 320) (a0 := (320, .inl (fun _ => 0))) iX8_init_103 arrI rfl rfl (fun _ => rfl) (by decide) (by decide) (by decide) (by decide) (by decide) (fun q12 => ?_)
  refine b_put (k := 15) (v := .ref q12) (fs := [.int 1, .int 0, .ref q0, .ref q1, .ref q2, .ref q3, .int 0, .ref q4, .ref q5, .ref q6, .ref q7, .ref q8, .ref q9, .ref q10, .ref q11, .null, .int 0, .null, .null, .null, .null, .null, .null, .null, .null, .null, .null, .null, .null, .null, .null, .long 0, .long 0]) iX8_init_105 fcX8_50 rfl rfl rfl (Nat.le_of_ble_eq_true rfl) ?_
  refine b_ws (ws' := [(h, (.inr (7, [.int 1, .int 0, .ref q0, .ref q1, .ref q2, .ref q3, .int 0, .ref q4, .ref q5, .ref q6, .ref q7, .ref q8, .ref q9, .ref q10, .ref q11, .ref q12, .int 0, .null, .null, .null, .null, .null, .null, .null, .null, .null, .null, .null, .null, .null, .null, .long 0, .long 0]))), (q0, (.inl (g.2.2.2 0, 40, .inl (fun _ => 0)))), (q1, (.inl (g.2.2.2 0, 20, .inl (fun _ => 0)))), (q2, (.inl (g.2.2.2 0, 20, .inl (fun _ => 0)))), (q3, (.inl (g.2.2.2 0, 20, .inl (fun _ => 0)))), (q4, (.inl (g.2.2.2 0, 5, .inl (fun _ => 0)))), (q5, (.inl (g.2.2.2 0, 5, .inl (fun _ => 0)))), (q6, (.inl (g.2.2.2 0, 5, .inl (fun _ => 0)))), (q7, (.inl (g.2.2.2 0, 5, .inl (fun _ => 0)))), (q8, (.inl (g.2.2.2 0, 5, .inl (fun _ => 0)))), (q9, (.inl (g.2.2.2 0, 40, .inl (fun _ => 0)))), (q10, (.inl (g.2.2.2 0, 5, .inl (fun _ => 0)))), (q11, (.inl (g.2.2.2 0, 40, .inl (fun _ => 0)))), (q12, (.inl (g.2.2.2 0, 320, .inl (fun _ => 0))))]) rfl ?_
  refine b_ald (j := 0) iX8_init_108 rfl rfl ?_
  refine b_con (v := 3) iX8_init_109 (by decide) ?_
  refine b_newa (t := 0) (N := 3) (a0 := (3, .inl (fun _ => 0))) iX8_init_110 arrI rfl rfl (fun _ => rfl) (by decide) (by decide) (by decide) (by decide) (by decide) (fun q13 => ?_)
  refine b_put (k := 17) (v := .ref q13) (fs := [.int 1, .int 0, .ref q0, .ref q1, .ref q2, .ref q3, .int 0, .ref q4, .ref q5, .ref q6, .ref q7, .ref q8, .ref q9, .ref q10, .ref q11, .ref q12, .int 0, .null, .null, .null, .null, .null, .null, .null, .null, .null, .null, .null, .null, .null, .null, .long 0, .long 0]) iX8_init_112 fcX8_53 rfl rfl rfl (Nat.le_of_ble_eq_true rfl) ?_
  refine b_ws (ws' := [(h, (.inr (7, [.int 1, .int 0, .ref q0, .ref q1, .ref q2, .ref q3, .int 0, .ref q4, .ref q5, .ref q6, .ref q7, .ref q8, .ref q9, .ref q10, .ref q11, .ref q12, .int 0, .ref q13, .null, .null, .null, .null, .null, .null, .null, .null, .null, .null, .null, .null, .null, .long 0, .long 0]))), (q0, (.inl (g.2.2.2 0, 40, .inl (fun _ => 0)))), (q1, (.inl (g.2.2.2 0, 20, .inl (fun _ => 0)))), (q2, (.inl (g.2.2.2 0, 20, .inl (fun _ => 0)))), (q3, (.inl (g.2.2.2 0, 20, .inl (fun _ => 0)))), (q4, (.inl (g.2.2.2 0, 5, .inl (fun _ => 0)))), (q5, (.inl (g.2.2.2 0, 5, .inl (fun _ => 0)))), (q6, (.inl (g.2.2.2 0, 5, .inl (fun _ => 0)))), (q7, (.inl (g.2.2.2 0, 5, .inl (fun _ => 0)))), (q8, (.inl (g.2.2.2 0, 5, .inl (fun _ => 0)))), (q9, (.inl (g.2.2.2 0, 40, .inl (fun _ => 0)))), (q10, (.inl (g.2.2.2 0, 5, .inl (fun _ => 0)))), (q11, (.inl (g.2.2.2 0, 40, .inl (fun _ => 0)))), (q12, (.inl (g.2.2.2 0, 320, .inl (fun _ => 0)))), (q13, (.inl (g.2.2.2 0, 3, .inl (fun _ => 0))))]) rfl ?_
  refine b_ald (j := 0) iX8_init_115 rfl rfl ?_
  refine b_bip (v := 100) iX8_init_116 (by decide) ?_
  refine b_newa (t := 0) (N := 100) (a0 := (100, .inl (fun _ => 0))) iX8_init_118 arrI rfl rfl (fun _ => rfl) (by decide) (by decide) (by decide) (by decide) (by decide) (fun q14 => ?_)
  refine b_put (k := 18) (v := .ref q14) (fs := [.int 1, .int 0, .ref q0, .ref q1, .ref q2, .ref q3, .int 0, .ref q4, .ref q5, .ref q6, .ref q7, .ref q8, .ref q9, .ref q10, .ref q11, .ref q12, .int 0, .ref q13, .null, .null, .null, .null, .null, .null, .null, .null, .null, .null, .null, .null, .null, .long 0, .long 0]) iX8_init_120 fcX8_56 rfl rfl rfl (Nat.le_of_ble_eq_true rfl) ?_
  refine b_ws (ws' := [(h, (.inr (7, [.int 1, .int 0, .ref q0, .ref q1, .ref q2, .ref q3, .int 0, .ref q4, .ref q5, .ref q6, .ref q7, .ref q8, .ref q9, .ref q10, .ref q11, .ref q12, .int 0, .ref q13, .ref q14, .null, .null, .null, .null, .null, .null, .null, .null, .null, .null, .null, .null, .long 0, .long 0]))), (q0, (.inl (g.2.2.2 0, 40, .inl (fun _ => 0)))), (q1, (.inl (g.2.2.2 0, 20, .inl (fun _ => 0)))), (q2, (.inl (g.2.2.2 0, 20, .inl (fun _ => 0)))), (q3, (.inl (g.2.2.2 0, 20, .inl (fun _ => 0)))), (q4, (.inl (g.2.2.2 0, 5, .inl (fun _ => 0)))), (q5, (.inl (g.2.2.2 0, 5, .inl (fun _ => 0)))), (q6, (.inl (g.2.2.2 0, 5, .inl (fun _ => 0)))), (q7, (.inl (g.2.2.2 0, 5, .inl (fun _ => 0)))), (q8, (.inl (g.2.2.2 0, 5, .inl (fun _ => 0)))), (q9, (.inl (g.2.2.2 0, 40, .inl (fun _ => 0)))), (q10, (.inl (g.2.2.2 0, 5, .inl (fun _ => 0)))), (q11, (.inl (g.2.2.2 0, 40, .inl (fun _ => 0)))), (q12, (.inl (g.2.2.2 0, 320, .inl (fun _ => 0)))), (q13, (.inl (g.2.2.2 0, 3, .inl (fun _ => 0)))), (q14, (.inl (g.2.2.2 0, 100, .inl (fun _ => 0))))]) rfl ?_
  refine b_ald (j := 0) iX8_init_123 rfl rfl ?_
  refine b_bip (v := 25) iX8_init_124 (by decide) ?_
  refine b_newa (t := 0) (N := 25) (a0 := (25, .inl (fun _ => 0))) iX8_init_126 arrI rfl rfl (fun _ => rfl) (by decide) (by decide) (by decide) (by decide) (by decide) (fun q15 => ?_)
  refine b_put (k := 19) (v := .ref q15) (fs := [.int 1, .int 0, .ref q0, .ref q1, .ref q2, .ref q3, .int 0, .ref q4, .ref q5, .ref q6, .ref q7, .ref q8, .ref q9, .ref q10, .ref q11, .ref q12, .int 0, .ref q13, .ref q14, .null, .null, .null, .null, .null, .null, .null, .null, .null, .null, .null, .null, .long 0, .long 0]) iX8_init_128 fcX8_59 rfl rfl rfl (Nat.le_of_ble_eq_true rfl) ?_
  refine b_ws (ws' := [(h, (.inr (7, [.int 1, .int 0, .ref q0, .ref q1, .ref q2, .ref q3, .int 0, .ref q4, .ref q5, .ref q6, .ref q7, .ref q8, .ref q9, .ref q10, .ref q11, .ref q12, .int 0, .ref q13, .ref q14, .ref q15, .null, .null, .null, .null, .null, .null, .null, .null, .null, .null, .null, .long 0, .long 0]))), (q0, (.inl (g.2.2.2 0, 40, .inl (fun _ => 0)))), (q1, (.inl (g.2.2.2 0, 20, .inl (fun _ => 0)))), (q2, (.inl (g.2.2.2 0, 20, .inl (fun _ => 0)))), (q3, (.inl (g.2.2.2 0, 20, .inl (fun _ => 0)))), (q4, (.inl (g.2.2.2 0, 5, .inl (fun _ => 0)))), (q5, (.inl (g.2.2.2 0, 5, .inl (fun _ => 0)))), (q6, (.inl (g.2.2.2 0, 5, .inl (fun _ => 0)))), (q7, (.inl (g.2.2.2 0, 5, .inl (fun _ => 0)))), (q8, (.inl (g.2.2.2 0, 5, .inl (fun _ => 0)))), (q9, (.inl (g.2.2.2 0, 40, .inl (fun _ => 0)))), (q10, (.inl (g.2.2.2 0, 5, .inl (fun _ => 0)))), (q11, (.inl (g.2.2.2 0, 40, .inl (fun _ => 0)))), (q12, (.inl (g.2.2.2 0, 320, .inl (fun _ => 0)))), (q13, (.inl (g.2.2.2 0, 3, .inl (fun _ => 0)))), (q14, (.inl (g.2.2.2 0, 100, .inl (fun _ => 0)))), (q15, (.inl (g.2.2.2 0, 25, .inl (fun _ => 0))))]) rfl ?_
  refine b_ald (j := 0) iX8_init_131 rfl rfl ?_
  refine b_bip (v := 40) iX8_init_132 (by decide) ?_
  refine b_newa (t := 0) (N := 40) (a0 := (40, .inl (fun _ => 0))) iX8_init_134 arrI rfl rfl (fun _ => rfl) (by decide) (by decide) (by decide) (by decide) (by decide) (fun q16 => ?_)
  refine b_put (k := 20) (v := .ref q16) (fs := [.int 1, .int 0, .ref q0, .ref q1, .ref q2, .ref q3, .int 0, .ref q4, .ref q5, .ref q6, .ref q7, .ref q8, .ref q9, .ref q10, .ref q11, .ref q12, .int 0, .ref q13, .ref q14, .ref q15, .null, .null, .null, .null, .null, .null, .null, .null, .null, .null, .null, .long 0, .long 0]) iX8_init_136 fcX8_62 rfl rfl rfl (Nat.le_of_ble_eq_true rfl) ?_
  refine b_ws (ws' := [(h, (.inr (7, [.int 1, .int 0, .ref q0, .ref q1, .ref q2, .ref q3, .int 0, .ref q4, .ref q5, .ref q6, .ref q7, .ref q8, .ref q9, .ref q10, .ref q11, .ref q12, .int 0, .ref q13, .ref q14, .ref q15, .ref q16, .null, .null, .null, .null, .null, .null, .null, .null, .null, .null, .long 0, .long 0]))), (q0, (.inl (g.2.2.2 0, 40, .inl (fun _ => 0)))), (q1, (.inl (g.2.2.2 0, 20, .inl (fun _ => 0)))), (q2, (.inl (g.2.2.2 0, 20, .inl (fun _ => 0)))), (q3, (.inl (g.2.2.2 0, 20, .inl (fun _ => 0)))), (q4, (.inl (g.2.2.2 0, 5, .inl (fun _ => 0)))), (q5, (.inl (g.2.2.2 0, 5, .inl (fun _ => 0)))), (q6, (.inl (g.2.2.2 0, 5, .inl (fun _ => 0)))), (q7, (.inl (g.2.2.2 0, 5, .inl (fun _ => 0)))), (q8, (.inl (g.2.2.2 0, 5, .inl (fun _ => 0)))), (q9, (.inl (g.2.2.2 0, 40, .inl (fun _ => 0)))), (q10, (.inl (g.2.2.2 0, 5, .inl (fun _ => 0)))), (q11, (.inl (g.2.2.2 0, 40, .inl (fun _ => 0)))), (q12, (.inl (g.2.2.2 0, 320, .inl (fun _ => 0)))), (q13, (.inl (g.2.2.2 0, 3, .inl (fun _ => 0)))), (q14, (.inl (g.2.2.2 0, 100, .inl (fun _ => 0)))), (q15, (.inl (g.2.2.2 0, 25, .inl (fun _ => 0)))), (q16, (.inl (g.2.2.2 0, 40, .inl (fun _ => 0))))]) rfl ?_
  refine b_ald (j := 0) iX8_init_139 rfl rfl ?_
  refine b_bip (v := 9) iX8_init_140 (by decide) ?_
  refine b_newa (t := 0) (N := 9) (a0 := (9, .inl (fun _ => 0))) iX8_init_142 arrI rfl rfl (fun _ => rfl) (by decide) (by decide) (by decide) (by decide) (by decide) (fun q17 => ?_)
  refine b_put (k := 21) (v := .ref q17) (fs := [.int 1, .int 0, .ref q0, .ref q1, .ref q2, .ref q3, .int 0, .ref q4, .ref q5, .ref q6, .ref q7, .ref q8, .ref q9, .ref q10, .ref q11, .ref q12, .int 0, .ref q13, .ref q14, .ref q15, .ref q16, .null, .null, .null, .null, .null, .null, .null, .null, .null, .null, .long 0, .long 0]) iX8_init_144 fcX8_65 rfl rfl rfl (Nat.le_of_ble_eq_true rfl) ?_
  refine b_ws (ws' := [(h, (.inr (7, [.int 1, .int 0, .ref q0, .ref q1, .ref q2, .ref q3, .int 0, .ref q4, .ref q5, .ref q6, .ref q7, .ref q8, .ref q9, .ref q10, .ref q11, .ref q12, .int 0, .ref q13, .ref q14, .ref q15, .ref q16, .ref q17, .null, .null, .null, .null, .null, .null, .null, .null, .null, .long 0, .long 0]))), (q0, (.inl (g.2.2.2 0, 40, .inl (fun _ => 0)))), (q1, (.inl (g.2.2.2 0, 20, .inl (fun _ => 0)))), (q2, (.inl (g.2.2.2 0, 20, .inl (fun _ => 0)))), (q3, (.inl (g.2.2.2 0, 20, .inl (fun _ => 0)))), (q4, (.inl (g.2.2.2 0, 5, .inl (fun _ => 0)))), (q5, (.inl (g.2.2.2 0, 5, .inl (fun _ => 0)))), (q6, (.inl (g.2.2.2 0, 5, .inl (fun _ => 0)))), (q7, (.inl (g.2.2.2 0, 5, .inl (fun _ => 0)))), (q8, (.inl (g.2.2.2 0, 5, .inl (fun _ => 0)))), (q9, (.inl (g.2.2.2 0, 40, .inl (fun _ => 0)))), (q10, (.inl (g.2.2.2 0, 5, .inl (fun _ => 0)))), (q11, (.inl (g.2.2.2 0, 40, .inl (fun _ => 0)))), (q12, (.inl (g.2.2.2 0, 320, .inl (fun _ => 0)))), (q13, (.inl (g.2.2.2 0, 3, .inl (fun _ => 0)))), (q14, (.inl (g.2.2.2 0, 100, .inl (fun _ => 0)))), (q15, (.inl (g.2.2.2 0, 25, .inl (fun _ => 0)))), (q16, (.inl (g.2.2.2 0, 40, .inl (fun _ => 0)))), (q17, (.inl (g.2.2.2 0, 9, .inl (fun _ => 0))))]) rfl ?_
  refine b_ald (j := 0) iX8_init_147 rfl rfl ?_
  refine b_bip (v := 10) iX8_init_148 (by decide) ?_
  refine b_newa (t := 0) (N := 10) (a0 := (10, .inl (fun _ => 0))) iX8_init_150 arrI rfl rfl (fun _ => rfl) (by decide) (by decide) (by decide) (by decide) (by decide) (fun q18 => ?_)
  refine b_put (k := 22) (v := .ref q18) (fs := [.int 1, .int 0, .ref q0, .ref q1, .ref q2, .ref q3, .int 0, .ref q4, .ref q5, .ref q6, .ref q7, .ref q8, .ref q9, .ref q10, .ref q11, .ref q12, .int 0, .ref q13, .ref q14, .ref q15, .ref q16, .ref q17, .null, .null, .null, .null, .null, .null, .null, .null, .null, .long 0, .long 0]) iX8_init_152 fcX8_68 rfl rfl rfl (Nat.le_of_ble_eq_true rfl) ?_
  refine b_ws (ws' := [(h, (.inr (7, [.int 1, .int 0, .ref q0, .ref q1, .ref q2, .ref q3, .int 0, .ref q4, .ref q5, .ref q6, .ref q7, .ref q8, .ref q9, .ref q10, .ref q11, .ref q12, .int 0, .ref q13, .ref q14, .ref q15, .ref q16, .ref q17, .ref q18, .null, .null, .null, .null, .null, .null, .null, .null, .long 0, .long 0]))), (q0, (.inl (g.2.2.2 0, 40, .inl (fun _ => 0)))), (q1, (.inl (g.2.2.2 0, 20, .inl (fun _ => 0)))), (q2, (.inl (g.2.2.2 0, 20, .inl (fun _ => 0)))), (q3, (.inl (g.2.2.2 0, 20, .inl (fun _ => 0)))), (q4, (.inl (g.2.2.2 0, 5, .inl (fun _ => 0)))), (q5, (.inl (g.2.2.2 0, 5, .inl (fun _ => 0)))), (q6, (.inl (g.2.2.2 0, 5, .inl (fun _ => 0)))), (q7, (.inl (g.2.2.2 0, 5, .inl (fun _ => 0)))), (q8, (.inl (g.2.2.2 0, 5, .inl (fun _ => 0)))), (q9, (.inl (g.2.2.2 0, 40, .inl (fun _ => 0)))), (q10, (.inl (g.2.2.2 0, 5, .inl (fun _ => 0)))), (q11, (.inl (g.2.2.2 0, 40, .inl (fun _ => 0)))), (q12, (.inl (g.2.2.2 0, 320, .inl (fun _ => 0)))), (q13, (.inl (g.2.2.2 0, 3, .inl (fun _ => 0)))), (q14, (.inl (g.2.2.2 0, 100, .inl (fun _ => 0)))), (q15, (.inl (g.2.2.2 0, 25, .inl (fun _ => 0)))), (q16, (.inl (g.2.2.2 0, 40, .inl (fun _ => 0)))), (q17, (.inl (g.2.2.2 0, 9, .inl (fun _ => 0)))), (q18, (.inl (g.2.2.2 0, 10, .inl (fun _ => 0))))]) rfl ?_
  refine b_ald (j := 0) iX8_init_155 rfl rfl ?_
  refine b_con (v := 5) iX8_init_156 (by decide) ?_
  refine b_newa (t := 0) (N := 5) (a0 := (5, .inl (fun _ => 0))) iX8_init_157 arrI rfl rfl (fun _ => rfl) (by decide) (by decide) (by decide) (by decide) (by decide) (fun q19 => ?_)
  refine b_put (k := 23) (v := .ref q19) (fs := [.int 1, .int 0, .ref q0, .ref q1, .ref q2, .ref q3, .int 0, .ref q4, .ref q5, .ref q6, .ref q7, .ref q8, .ref q9, .ref q10, .ref q11, .ref q12, .int 0, .ref q13, .ref q14, .ref q15, .ref q16, .ref q17, .ref q18, .null, .null, .null, .null, .null, .null, .null, .null, .long 0, .long 0]) iX8_init_159 fcX8_71 rfl rfl rfl (Nat.le_of_ble_eq_true rfl) ?_
  refine b_ws (ws' := [(h, (.inr (7, [.int 1, .int 0, .ref q0, .ref q1, .ref q2, .ref q3, .int 0, .ref q4, .ref q5, .ref q6, .ref q7, .ref q8, .ref q9, .ref q10, .ref q11, .ref q12, .int 0, .ref q13, .ref q14, .ref q15, .ref q16, .ref q17, .ref q18, .ref q19, .null, .null, .null, .null, .null, .null, .null, .long 0, .long 0]))), (q0, (.inl (g.2.2.2 0, 40, .inl (fun _ => 0)))), (q1, (.inl (g.2.2.2 0, 20, .inl (fun _ => 0)))), (q2, (.inl (g.2.2.2 0, 20, .inl (fun _ => 0)))), (q3, (.inl (g.2.2.2 0, 20, .inl (fun _ => 0)))), (q4, (.inl (g.2.2.2 0, 5, .inl (fun _ => 0)))), (q5, (.inl (g.2.2.2 0, 5, .inl (fun _ => 0)))), (q6, (.inl (g.2.2.2 0, 5, .inl (fun _ => 0)))), (q7, (.inl (g.2.2.2 0, 5, .inl (fun _ => 0)))), (q8, (.inl (g.2.2.2 0, 5, .inl (fun _ => 0)))), (q9, (.inl (g.2.2.2 0, 40, .inl (fun _ => 0)))), (q10, (.inl (g.2.2.2 0, 5, .inl (fun _ => 0)))), (q11, (.inl (g.2.2.2 0, 40, .inl (fun _ => 0)))), (q12, (.inl (g.2.2.2 0, 320, .inl (fun _ => 0)))), (q13, (.inl (g.2.2.2 0, 3, .inl (fun _ => 0)))), (q14, (.inl (g.2.2.2 0, 100, .inl (fun _ => 0)))), (q15, (.inl (g.2.2.2 0, 25, .inl (fun _ => 0)))), (q16, (.inl (g.2.2.2 0, 40, .inl (fun _ => 0)))), (q17, (.inl (g.2.2.2 0, 9, .inl (fun _ => 0)))), (q18, (.inl (g.2.2.2 0, 10, .inl (fun _ => 0)))), (q19, (.inl (g.2.2.2 0, 5, .inl (fun _ => 0))))]) rfl ?_
  refine b_ald (j := 0) iX8_init_162 rfl rfl ?_
  refine b_con (v := 5) iX8_init_163 (by decide) ?_
  refine b_newa (t := 0) (N := 5) (a0 := (5, .inl (fun _ => 0))) iX8_init_164 arrI rfl rfl (fun _ => rfl) (by decide) (by decide) (by decide) (by decide) (by decide) (fun q20 => ?_)
  refine b_put (k := 24) (v := .ref q20) (fs := [.int 1, .int 0, .ref q0, .ref q1, .ref q2, .ref q3, .int 0, .ref q4, .ref q5, .ref q6, .ref q7, .ref q8, .ref q9, .ref q10, .ref q11, .ref q12, .int 0, .ref q13, .ref q14, .ref q15, .ref q16, .ref q17, .ref q18, .ref q19, .null, .null, .null, .null, .null, .null, .null, .long 0, .long 0]) iX8_init_166 fcX8_74 rfl rfl rfl (Nat.le_of_ble_eq_true rfl) ?_
  refine b_ws (ws' := [(h, (.inr (7, [.int 1, .int 0, .ref q0, .ref q1, .ref q2, .ref q3, .int 0, .ref q4, .ref q5, .ref q6, .ref q7, .ref q8, .ref q9, .ref q10, .ref q11, .ref q12, .int 0, .ref q13, .ref q14, .ref q15, .ref q16, .ref q17, .ref q18, .ref q19, .ref q20, .null, .null, .null, .null, .null, .null, .long 0, .long 0]))), (q0, (.inl (g.2.2.2 0, 40, .inl (fun _ => 0)))), (q1, (.inl (g.2.2.2 0, 20, .inl (fun _ => 0)))), (q2, (.inl (g.2.2.2 0, 20, .inl (fun _ => 0)))), (q3, (.inl (g.2.2.2 0, 20, .inl (fun _ => 0)))), (q4, (.inl (g.2.2.2 0, 5, .inl (fun _ => 0)))), (q5, (.inl (g.2.2.2 0, 5, .inl (fun _ => 0)))), (q6, (.inl (g.2.2.2 0, 5, .inl (fun _ => 0)))), (q7, (.inl (g.2.2.2 0, 5, .inl (fun _ => 0)))), (q8, (.inl (g.2.2.2 0, 5, .inl (fun _ => 0)))), (q9, (.inl (g.2.2.2 0, 40, .inl (fun _ => 0)))), (q10, (.inl (g.2.2.2 0, 5, .inl (fun _ => 0)))), (q11, (.inl (g.2.2.2 0, 40, .inl (fun _ => 0)))), (q12, (.inl (g.2.2.2 0, 320, .inl (fun _ => 0)))), (q13, (.inl (g.2.2.2 0, 3, .inl (fun _ => 0)))), (q14, (.inl (g.2.2.2 0, 100, .inl (fun _ => 0)))), (q15, (.inl (g.2.2.2 0, 25, .inl (fun _ => 0)))), (q16, (.inl (g.2.2.2 0, 40, .inl (fun _ => 0)))), (q17, (.inl (g.2.2.2 0, 9, .inl (fun _ => 0)))), (q18, (.inl (g.2.2.2 0, 10, .inl (fun _ => 0)))), (q19, (.inl (g.2.2.2 0, 5, .inl (fun _ => 0)))), (q20, (.inl (g.2.2.2 0, 5, .inl (fun _ => 0))))]) rfl ?_
  refine b_ald (j := 0) iX8_init_169 rfl rfl ?_
  refine b_bip (v := 20) iX8_init_170 (by decide) ?_
  refine b_newa (t := 0) (N := 20) (a0 := (20, .inl (fun _ => 0))) iX8_init_172 arrI rfl rfl (fun _ => rfl) (by decide) (by decide) (by decide) (by decide) (by decide) (fun q21 => ?_)
  refine b_put (k := 25) (v := .ref q21) (fs := [.int 1, .int 0, .ref q0, .ref q1, .ref q2, .ref q3, .int 0, .ref q4, .ref q5, .ref q6, .ref q7, .ref q8, .ref q9, .ref q10, .ref q11, .ref q12, .int 0, .ref q13, .ref q14, .ref q15, .ref q16, .ref q17, .ref q18, .ref q19, .ref q20, .null, .null, .null, .null, .null, .null, .long 0, .long 0]) iX8_init_174 fcX8_77 rfl rfl rfl (Nat.le_of_ble_eq_true rfl) ?_
  refine b_ws (ws' := [(h, (.inr (7, [.int 1, .int 0, .ref q0, .ref q1, .ref q2, .ref q3, .int 0, .ref q4, .ref q5, .ref q6, .ref q7, .ref q8, .ref q9, .ref q10, .ref q11, .ref q12, .int 0, .ref q13, .ref q14, .ref q15, .ref q16, .ref q17, .ref q18, .ref q19, .ref q20, .ref q21, .null, .null, .null, .null, .null, .long 0, .long 0]))), (q0, (.inl (g.2.2.2 0, 40, .inl (fun _ => 0)))), (q1, (.inl (g.2.2.2 0, 20, .inl (fun _ => 0)))), (q2, (.inl (g.2.2.2 0, 20, .inl (fun _ => 0)))), (q3, (.inl (g.2.2.2 0, 20, .inl (fun _ => 0)))), (q4, (.inl (g.2.2.2 0, 5, .inl (fun _ => 0)))), (q5, (.inl (g.2.2.2 0, 5, .inl (fun _ => 0)))), (q6, (.inl (g.2.2.2 0, 5, .inl (fun _ => 0)))), (q7, (.inl (g.2.2.2 0, 5, .inl (fun _ => 0)))), (q8, (.inl (g.2.2.2 0, 5, .inl (fun _ => 0)))), (q9, (.inl (g.2.2.2 0, 40, .inl (fun _ => 0)))), (q10, (.inl (g.2.2.2 0, 5, .inl (fun _ => 0)))), (q11, (.inl (g.2.2.2 0, 40, .inl (fun _ => 0)))), (q12, (.inl (g.2.2.2 0, 320, .inl (fun _ => 0)))), (q13, (.inl (g.2.2.2 0, 3, .inl (fun _ => 0)))), (q14, (.inl (g.2.2.2 0, 100, .inl (fun _ => 0)))), (q15, (.inl (g.2.2.2 0, 25, .inl (fun _ => 0)))), (q16, (.inl (g.2.2.2 0, 40, .inl (fun _ => 0)))), (q17, (.inl (g.2.2.2 0, 9, .inl (fun _ => 0)))), (q18, (.inl (g.2.2.2 0, 10, .inl (fun _ => 0)))), (q19, (.inl (g.2.2.2 0, 5, .inl (fun _ => 0)))), (q20, (.inl (g.2.2.2 0, 5, .inl (fun _ => 0)))), (q21, (.inl (g.2.2.2 0, 20, .inl (fun _ => 0))))]) rfl ?_
  refine b_ald (j := 0) iX8_init_177 rfl rfl ?_
  refine b_bip (v := 9) iX8_init_178 (by decide) ?_
  refine b_newa (t := 0) (N := 9) (a0 := (9, .inl (fun _ => 0))) iX8_init_180 arrI rfl rfl (fun _ => rfl) (by decide) (by decide) (by decide) (by decide) (by decide) (fun q22 => ?_)
  refine b_put (k := 26) (v := .ref q22) (fs := [.int 1, .int 0, .ref q0, .ref q1, .ref q2, .ref q3, .int 0, .ref q4, .ref q5, .ref q6, .ref q7, .ref q8, .ref q9, .ref q10, .ref q11, .ref q12, .int 0, .ref q13, .ref q14, .ref q15, .ref q16, .ref q17, .ref q18, .ref q19, .ref q20, .ref q21, .null, .null, .null, .null, .null, .long 0, .long 0]) iX8_init_182 fcX8_80 rfl rfl rfl (Nat.le_of_ble_eq_true rfl) ?_
  refine b_ws (ws' := [(h, (.inr (7, [.int 1, .int 0, .ref q0, .ref q1, .ref q2, .ref q3, .int 0, .ref q4, .ref q5, .ref q6, .ref q7, .ref q8, .ref q9, .ref q10, .ref q11, .ref q12, .int 0, .ref q13, .ref q14, .ref q15, .ref q16, .ref q17, .ref q18, .ref q19, .ref q20, .ref q21, .ref q22, .null, .null, .null, .null, .long 0, .long 0]))), (q0, (.inl (g.2.2.2 0, 40, .inl (fun _ => 0)))), (q1, (.inl (g.2.2.2 0, 20, .inl (fun _ => 0)))), (q2, (.inl (g.2.2.2 0, 20, .inl (fun _ => 0)))), (q3, (.inl (g.2.2.2 0, 20, .inl (fun _ => 0)))), (q4, (.inl (g.2.2.2 0, 5, .inl (fun _ => 0)))), (q5, (.inl (g.2.2.2 0, 5, .inl (fun _ => 0)))), (q6, (.inl (g.2.2.2 0, 5, .inl (fun _ => 0)))), (q7, (.inl (g.2.2.2 0, 5, .inl (fun _ => 0)))), (q8, (.inl (g.2.2.2 0, 5, .inl (fun _ => 0)))), (q9, (.inl (g.2.2.2 0, 40, .inl (fun _ => 0)))), (q10, (.inl (g.2.2.2 0, 5, .inl (fun _ => 0)))), (q11, (.inl (g.2.2.2 0, 40, .inl (fun _ => 0)))), (q12, (.inl (g.2.2.2 0, 320, .inl (fun _ => 0)))), (q13, (.inl (g.2.2.2 0, 3, .inl (fun _ => 0)))), (q14, (.inl (g.2.2.2 0, 100, .inl (fun _ => 0)))), (q15, (.inl (g.2.2.2 0, 25, .inl (fun _ => 0)))), (q16, (.inl (g.2.2.2 0, 40, .inl (fun _ => 0)))), (q17, (.inl (g.2.2.2 0, 9, .inl (fun _ => 0)))), (q18, (.inl (g.2.2.2 0, 10, .inl (fun _ => 0)))), (q19, (.inl (g.2.2.2 0, 5, .inl (fun _ => 0)))), (q20, (.inl (g.2.2.2 0, 5, .inl (fun _ => 0)))), (q21, (.inl (g.2.2.2 0, 20, .inl (fun _ => 0)))), (q22, (.inl (g.2.2.2 0, 9, .inl (fun _ => 0))))]) rfl ?_
  refine b_ald (j := 0) iX8_init_185 rfl rfl ?_
  refine b_con (v := 5) iX8_init_186 (by decide) ?_
  refine b_newa (t := 1) (N := 5) (a0 := (5, .inl (fun _ => 0))) iX8_init_187 arrZ rfl rfl (fun _ => rfl) (by decide) (by decide) (by decide) (by decide) (by decide) (fun q23 => ?_)
  refine b_put (k := 27) (v := .ref q23) (fs := [.int 1, .int 0, .ref q0, .ref q1, .ref q2, .ref q3, .int 0, .ref q4, .ref q5, .ref q6, .ref q7, .ref q8, .ref q9, .ref q10, .ref q11, .ref q12, .int 0, .ref q13, .ref q14, .ref q15, .ref q16, .ref q17, .ref q18, .ref q19, .ref q20, .ref q21, .ref q22, .null, .null, .null, .null, .long 0, .long 0]) iX8_init_189 fcX8_83 rfl rfl rfl (Nat.le_of_ble_eq_true rfl) ?_
  refine b_ws (ws' := [(h, (.inr (7, [.int 1, .int 0, .ref q0, .ref q1, .ref q2, .ref q3, .int 0, .ref q4, .ref q5, .ref q6, .ref q7, .ref q8, .ref q9, .ref q10, .ref q11, .ref q12, .int 0, .ref q13, .ref q14, .ref q15, .ref q16, .ref q17, .ref q18, .ref q19, .ref q20, .ref q21, .ref q22, .ref q23, .null, .null, .null, .long 0, .long 0]))), (q0, (.inl (g.2.2.2 0, 40, .inl (fun _ => 0)))), (q1, (.inl (g.2.2.2 0, 20, .inl (fun _ => 0)))), (q2, (.inl (g.2.2.2 0, 20, .inl (fun _ => 0)))), (q3, (.inl (g.2.2.2 0, 20, .inl (fun _ => 0)))), (q4, (.inl (g.2.2.2 0, 5, .inl (fun _ => 0)))), (q5, (.inl (g.2.2.2 0, 5, .inl (fun _ => 0)))), (q6, (.inl (g.2.2.2 0, 5, .inl (fun _ => 0)))), (q7, (.inl (g.2.2.2 0, 5, .inl (fun _ => 0)))), (q8, (.inl (g.2.2.2 0, 5, .inl (fun _ => 0)))), (q9, (.inl (g.2.2.2 0, 40, .inl (fun _ => 0)))), (q10, (.inl (g.2.2.2 0, 5, .inl (fun _ => 0)))), (q11, (.inl (g.2.2.2 0, 40, .inl (fun _ => 0)))), (q12, (.inl (g.2.2.2 0, 320, .inl (fun _ => 0)))), (q13, (.inl (g.2.2.2 0, 3, .inl (fun _ => 0)))), (q14, (.inl (g.2.2.2 0, 100, .inl (fun _ => 0)))), (q15, (.inl (g.2.2.2 0, 25, .inl (fun _ => 0)))), (q16, (.inl (g.2.2.2 0, 40, .inl (fun _ => 0)))), (q17, (.inl (g.2.2.2 0, 9, .inl (fun _ => 0)))), (q18, (.inl (g.2.2.2 0, 10, .inl (fun _ => 0)))), (q19, (.inl (g.2.2.2 0, 5, .inl (fun _ => 0)))), (q20, (.inl (g.2.2.2 0, 5, .inl (fun _ => 0)))), (q21, (.inl (g.2.2.2 0, 20, .inl (fun _ => 0)))), (q22, (.inl (g.2.2.2 0, 9, .inl (fun _ => 0)))), (q23, (.inl (g.2.2.2 1, 5, .inl (fun _ => 0))))]) rfl ?_
  refine b_ald (j := 0) iX8_init_192 rfl rfl ?_
  refine b_con (v := 5) iX8_init_193 (by decide) ?_
  refine b_newa (t := 0) (N := 5) (a0 := (5, .inl (fun _ => 0))) iX8_init_194 arrI rfl rfl (fun _ => rfl) (by decide) (by decide) (by decide) (by decide) (by decide) (fun q24 => ?_)
  refine b_put (k := 28) (v := .ref q24) (fs := [.int 1, .int 0, .ref q0, .ref q1, .ref q2, .ref q3, .int 0, .ref q4, .ref q5, .ref q6, .ref q7, .ref q8, .ref q9, .ref q10, .ref q11, .ref q12, .int 0, .ref q13, .ref q14, .ref q15, .ref q16, .ref q17, .ref q18, .ref q19, .ref q20, .ref q21, .ref q22, .ref q23, .null, .null, .null, .long 0, .long 0]) iX8_init_196 fcX8_87 rfl rfl rfl (Nat.le_of_ble_eq_true rfl) ?_
  refine b_ws (ws' := [(h, (.inr (7, [.int 1, .int 0, .ref q0, .ref q1, .ref q2, .ref q3, .int 0, .ref q4, .ref q5, .ref q6, .ref q7, .ref q8, .ref q9, .ref q10, .ref q11, .ref q12, .int 0, .ref q13, .ref q14, .ref q15, .ref q16, .ref q17, .ref q18, .ref q19, .ref q20, .ref q21, .ref q22, .ref q23, .ref q24, .null, .null, .long 0, .long 0]))), (q0, (.inl (g.2.2.2 0, 40, .inl (fun _ => 0)))), (q1, (.inl (g.2.2.2 0, 20, .inl (fun _ => 0)))), (q2, (.inl (g.2.2.2 0, 20, .inl (fun _ => 0)))), (q3, (.inl (g.2.2.2 0, 20, .inl (fun _ => 0)))), (q4, (.inl (g.2.2.2 0, 5, .inl (fun _ => 0)))), (q5, (.inl (g.2.2.2 0, 5, .inl (fun _ => 0)))), (q6, (.inl (g.2.2.2 0, 5, .inl (fun _ => 0)))), (q7, (.inl (g.2.2.2 0, 5, .inl (fun _ => 0)))), (q8, (.inl (g.2.2.2 0, 5, .inl (fun _ => 0)))), (q9, (.inl (g.2.2.2 0, 40, .inl (fun _ => 0)))), (q10, (.inl (g.2.2.2 0, 5, .inl (fun _ => 0)))), (q11, (.inl (g.2.2.2 0, 40, .inl (fun _ => 0)))), (q12, (.inl (g.2.2.2 0, 320, .inl (fun _ => 0)))), (q13, (.inl (g.2.2.2 0, 3, .inl (fun _ => 0)))), (q14, (.inl (g.2.2.2 0, 100, .inl (fun _ => 0)))), (q15, (.inl (g.2.2.2 0, 25, .inl (fun _ => 0)))), (q16, (.inl (g.2.2.2 0, 40, .inl (fun _ => 0)))), (q17, (.inl (g.2.2.2 0, 9, .inl (fun _ => 0)))), (q18, (.inl (g.2.2.2 0, 10, .inl (fun _ => 0)))), (q19, (.inl (g.2.2.2 0, 5, .inl (fun _ => 0)))), (q20, (.inl (g.2.2.2 0, 5, .inl (fun _ => 0)))), (q21, (.inl (g.2.2.2 0, 20, .inl (fun _ => 0)))), (q22, (.inl (g.2.2.2 0, 9, .inl (fun _ => 0)))), (q23, (.inl (g.2.2.2 1, 5, .inl (fun _ => 0)))), (q24, (.inl (g.2.2.2 0, 5, .inl (fun _ => 0))))]) rfl ?_
  refine b_ald (j := 0) iX8_init_199 rfl rfl ?_
  refine b_con (v := 5) iX8_init_200 (by decide) ?_
  refine b_newa (t := 2) (N := 5) (a0 := (5, .inr (.inl (fun _ => 0)))) iX8_init_201 arrJ rfl rfl (fun _ => rfl) (by decide) (by decide) (by decide) (by decide) (by decide) (fun q25 => ?_)
  refine b_put (k := 29) (v := .ref q25) (fs := [.int 1, .int 0, .ref q0, .ref q1, .ref q2, .ref q3, .int 0, .ref q4, .ref q5, .ref q6, .ref q7, .ref q8, .ref q9, .ref q10, .ref q11, .ref q12, .int 0, .ref q13, .ref q14, .ref q15, .ref q16, .ref q17, .ref q18, .ref q19, .ref q20, .ref q21, .ref q22, .ref q23, .ref q24, .null, .null, .long 0, .long 0]) iX8_init_203 fcX8_90 rfl rfl rfl (Nat.le_of_ble_eq_true rfl) ?_
  refine b_ws (ws' := [(h, (.inr (7, [.int 1, .int 0, .ref q0, .ref q1, .ref q2, .ref q3, .int 0, .ref q4, .ref q5, .ref q6, .ref q7, .ref q8, .ref q9, .ref q10, .ref q11, .ref q12, .int 0, .ref q13, .ref q14, .ref q15, .ref q16, .ref q17, .ref q18, .ref q19, .ref q20, .ref q21, .ref q22, .ref q23, .ref q24, .ref q25, .null, .long 0, .long 0]))), (q0, (.inl (g.2.2.2 0, 40, .inl (fun _ => 0)))), (q1, (.inl (g.2.2.2 0, 20, .inl (fun _ => 0)))), (q2, (.inl (g.2.2.2 0, 20, .inl (fun _ => 0)))), (q3, (.inl (g.2.2.2 0, 20, .inl (fun _ => 0)))), (q4, (.inl (g.2.2.2 0, 5, .inl (fun _ => 0)))), (q5, (.inl (g.2.2.2 0, 5, .inl (fun _ => 0)))), (q6, (.inl (g.2.2.2 0, 5, .inl (fun _ => 0)))), (q7, (.inl (g.2.2.2 0, 5, .inl (fun _ => 0)))), (q8, (.inl (g.2.2.2 0, 5, .inl (fun _ => 0)))), (q9, (.inl (g.2.2.2 0, 40, .inl (fun _ => 0)))), (q10, (.inl (g.2.2.2 0, 5, .inl (fun _ => 0)))), (q11, (.inl (g.2.2.2 0, 40, .inl (fun _ => 0)))), (q12, (.inl (g.2.2.2 0, 320, .inl (fun _ => 0)))), (q13, (.inl (g.2.2.2 0, 3, .inl (fun _ => 0)))), (q14, (.inl (g.2.2.2 0, 100, .inl (fun _ => 0)))), (q15, (.inl (g.2.2.2 0, 25, .inl (fun _ => 0)))), (q16, (.inl (g.2.2.2 0, 40, .inl (fun _ => 0)))), (q17, (.inl (g.2.2.2 0, 9, .inl (fun _ => 0)))), (q18, (.inl (g.2.2.2 0, 10, .inl (fun _ => 0)))), (q19, (.inl (g.2.2.2 0, 5, .inl (fun _ => 0)))), (q20, (.inl (g.2.2.2 0, 5, .inl (fun _ => 0)))), (q21, (.inl (g.2.2.2 0, 20, .inl (fun _ => 0)))), (q22, (.inl (g.2.2.2 0, 9, .inl (fun _ => 0)))), (q23, (.inl (g.2.2.2 1, 5, .inl (fun _ => 0)))), (q24, (.inl (g.2.2.2 0, 5, .inl (fun _ => 0)))), (q25, (.inl (g.2.2.2 2, 5, .inr (.inl (fun _ => 0)))))]) rfl ?_
  refine b_ald (j := 0) iX8_init_206 rfl rfl ?_
  refine b_con (v := 5) iX8_init_207 (by decide) ?_
  refine b_newa (t := 2) (N := 5) (a0 := (5, .inr (.inl (fun _ => 0)))) iX8_init_208 arrJ rfl rfl (fun _ => rfl) (by decide) (by decide) (by decide) (by decide) (by decide) (fun q26 => ?_)
  refine b_put (k := 30) (v := .ref q26) (fs := [.int 1, .int 0, .ref q0, .ref q1, .ref q2, .ref q3, .int 0, .ref q4, .ref q5, .ref q6, .ref q7, .ref q8, .ref q9, .ref q10, .ref q11, .ref q12, .int 0, .ref q13, .ref q14, .ref q15, .ref q16, .ref q17, .ref q18, .ref q19, .ref q20, .ref q21, .ref q22, .ref q23, .ref q24, .ref q25, .null, .long 0, .long 0]) iX8_init_210 fcX8_94 rfl rfl rfl (Nat.le_of_ble_eq_true rfl) ?_
  refine b_ws (ws' := [(h, (.inr (7, [.int 1, .int 0, .ref q0, .ref q1, .ref q2, .ref q3, .int 0, .ref q4, .ref q5, .ref q6, .ref q7, .ref q8, .ref q9, .ref q10, .ref q11, .ref q12, .int 0, .ref q13, .ref q14, .ref q15, .ref q16, .ref q17, .ref q18, .ref q19, .ref q20, .ref q21, .ref q22, .ref q23, .ref q24, .ref q25, .ref q26, .long 0, .long 0]))), (q0, (.inl (g.2.2.2 0, 40, .inl (fun _ => 0)))), (q1, (.inl (g.2.2.2 0, 20, .inl (fun _ => 0)))), (q2, (.inl (g.2.2.2 0, 20, .inl (fun _ => 0)))), (q3, (.inl (g.2.2.2 0, 20, .inl (fun _ => 0)))), (q4, (.inl (g.2.2.2 0, 5, .inl (fun _ => 0)))), (q5, (.inl (g.2.2.2 0, 5, .inl (fun _ => 0)))), (q6, (.inl (g.2.2.2 0, 5, .inl (fun _ => 0)))), (q7, (.inl (g.2.2.2 0, 5, .inl (fun _ => 0)))), (q8, (.inl (g.2.2.2 0, 5, .inl (fun _ => 0)))), (q9, (.inl (g.2.2.2 0, 40, .inl (fun _ => 0)))), (q10, (.inl (g.2.2.2 0, 5, .inl (fun _ => 0)))), (q11, (.inl (g.2.2.2 0, 40, .inl (fun _ => 0)))), (q12, (.inl (g.2.2.2 0, 320, .inl (fun _ => 0)))), (q13, (.inl (g.2.2.2 0, 3, .inl (fun _ => 0)))), (q14, (.inl (g.2.2.2 0, 100, .inl (fun _ => 0)))), (q15, (.inl (g.2.2.2 0, 25, .inl (fun _ => 0)))), (q16, (.inl (g.2.2.2 0, 40, .inl (fun _ => 0)))), (q17, (.inl (g.2.2.2 0, 9, .inl (fun _ => 0)))), (q18, (.inl (g.2.2.2 0, 10, .inl (fun _ => 0)))), (q19, (.inl (g.2.2.2 0, 5, .inl (fun _ => 0)))), (q20, (.inl (g.2.2.2 0, 5, .inl (fun _ => 0)))), (q21, (.inl (g.2.2.2 0, 20, .inl (fun _ => 0)))), (q22, (.inl (g.2.2.2 0, 9, .inl (fun _ => 0)))), (q23, (.inl (g.2.2.2 1, 5, .inl (fun _ => 0)))), (q24, (.inl (g.2.2.2 0, 5, .inl (fun _ => 0)))), (q25, (.inl (g.2.2.2 2, 5, .inr (.inl (fun _ => 0))))), (q26, (.inl (g.2.2.2 2, 5, .inr (.inl (fun _ => 0)))))]) rfl ?_
  exact b_ret iX8_init_213 rfl rfl rfl ⟨q0, q1, q2, q3, q4, q5, q6, q7, q8, q9, q10, q11, q12, q13, q14, q15, q16, q17, q18, q19, q20, q21, q22, q23, q24, q25, q26, rfl⟩
