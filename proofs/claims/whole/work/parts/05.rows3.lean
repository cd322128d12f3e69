/-! fields and arrays -/
def FL (own : String) (idx ci k : Nat) : Prop := ∃ (C : String) (T : u_T) (N : Nat), vwCl[ci]? = some (C, T, N) ∧ k < N ∧ (∀ w ∈ u_ws C T N, w ∈ gtab) ∧ Cond.fieldLink own idx (T k).1 (T k).2.1 (T k).2.2.1 ∈ gtab
def FP (own : String) (idx ci k : Nat) (ty : FieldType) : Prop := ∃ (C : String) (T : u_T) (N : Nat) (tys : Nat → FieldType), vwCl[ci]? = some (C, T, N) ∧ k < N ∧ (∀ w ∈ u_ws C T N, w ∈ gtab) ∧ Cond.fieldLink own idx (T k).1 (T k).2.1 (T k).2.2.1 ∈ gtab ∧
  (∀ k, k < N → parseFieldDescriptor (T k).2.2.1 = some (tys k)) ∧ (∀ a, a < N → ∀ b, b < N → a ≠ b → (T a).2.1 ≠ (T b).2.1) ∧ (T k).2.2.2 = false ∧ parseFieldDescriptor (T k).2.2.1 = some ty
section RW3
variable {Ly : List Ent} {g : Gt} {y : Mth} {d pc nx : Nat} {lv : List (Option MV)} {st : List MV} {M : Mem} {Post : Option MV → Mem → Prop}
theorem get_v {idx q ci k : Nat} {fs : List (Nat × Nat)} {f : Nat × Nat} {v : MV} (hd : At y pc nx 3 (.getfield idx)) (hf : FL y.1.cls idx ci k) (hq : Ly[q]? = some (.inl (ci, fs))) (hk : fs[k]? = some f) (hv : e_f g M q k f = rv g.2.2.1 v) (kk : R Ly g y d nx lv (v :: st) M Post) : R Ly g y d pc lv (vr q :: st) M Post := by
  intro p e s m args below meth c H locs ls C hl hP hS
  obtain ⟨hd, rfl⟩ := hd
  obtain ⟨hx, hb, hr', hml, hown, hts, hlocks, hK, hi⟩ := id C
  obtain ⟨Cn, T, N, h1, h2, h3, h4⟩ := hf
  refine va_get (D := g.2.1) (ci := ci) (v := rv g.2.2.1 v) (C := Cn) (T := T) (N := N) hx hb hts h3 hown hK.1 hP q (wsOf_at hq) h1 k h2 (hts _ h4) (fun _ h => h) ?_ hd (kk p e s m args below meth c H locs ls C hl hP hS)
  rw [List.getElem?_mapIdx, hk]
  simp [hv]
theorem r_geti {idx q ci k t : Nat} {fs : List (Nat × Nat)} (kz : Int) (hd : At y pc nx 3 (.getfield idx)) (hf : FL y.1.cls idx ci k) (hq : Ly[q]? = some (.inl (ci, fs))) (hk : fs[k]? = some (t, 0)) (ht : Nat.blt t 2 = true) (hz : ((k : Nat) : Int) = kz) (kk : R Ly g y d nx lv (vi (M q kz) :: st) M Post) : R Ly g y d pc lv (vr q :: st) M Post := by
  subst hz
  have ht' : t < 2 := by simpa using ht
  refine get_v hd hf hq hk ?_ kk
  simp only [e_f, rv]
  rw [if_neg (by omega), if_neg (by omega)]
theorem r_getl {idx q ci k : Nat} {fs : List (Nat × Nat)} (kz : Int) (hd : At y pc nx 3 (.getfield idx)) (hf : FL y.1.cls idx ci k) (hq : Ly[q]? = some (.inl (ci, fs))) (hk : fs[k]? = some (2, 0)) (hz : ((k : Nat) : Int) = kz) (kk : R Ly g y d nx lv (vl (M q kz) :: st) M Post) : R Ly g y d pc lv (vr q :: st) M Post := by
  subst hz
  refine get_v hd hf hq hk ?_ kk
  simp [e_f, rv]
theorem r_getr {idx q ci k j : Nat} {fs : List (Nat × Nat)} (hd : At y pc nx 3 (.getfield idx)) (hf : FL y.1.cls idx ci k) (hq : Ly[q]? = some (.inl (ci, fs))) (hk : fs[k]? = some (3, j)) (kk : R Ly g y d nx lv (vr j :: st) M Post) : R Ly g y d pc lv (vr q :: st) M Post := by
  refine get_v hd hf hq hk ?_ kk
  simp [e_f, rv]
theorem put_v {idx q ci k : Nat} {fs : List (Nat × Nat)} {f : Nat × Nat} {ty : FieldType} {v : MV} {M' : Mem} (hd : At y pc nx 3 (.putfield idx)) (hf : FP y.1.cls idx ci k ty) (hq : Ly[q]? = some (.inl (ci, fs))) (hk : fs[k]? = some f) (hn : narrow ty (rv g.2.2.1 v) = rv g.2.2.1 v) (hfit : fits ty (rv g.2.2.1 v) = true)
    (hv : e_f g M' q k f = rv g.2.2.1 v) (ho : ∀ j, j ≠ q → M' j = M j) (hs : ∀ i : Int, i ≠ k → M' q i = M q i) (kk : R Ly g y d nx lv st M' Post) : R Ly g y d pc lv (v :: vr q :: st) M Post := by
  intro p e s m args below meth c H locs ls C hl hP hS
  obtain ⟨hd, rfl⟩ := hd
  obtain ⟨hx, hb, hr', hml, hown, hts, hlocks, hK, hi⟩ := id C
  obtain ⟨Cn, T, N, tys, h1, h2, h3, h4, h5, h6, h7, h8⟩ := hf
  have hl2 : k < (fs.mapIdx (fun i f => e_f g M q i f)).length := by
    rw [List.length_mapIdx]
    exact (List.getElem?_eq_some_iff.mp hk).1
  refine va_put (D := g.2.1) (ci := ci) (v := rv g.2.2.1 v) (ty := ty) (C := Cn) (T := T) (N := N) hx hb hts h3 tys h5 h6 hown hK.1 hP (wsD hi) hS q (wsOf_at hq) h1 k h2 (hts _ h4) (fun _ h => h) h7 h8 hn hfit hl2 hd (fun H1 locs1 hP1 hD1 hS1 => ?_)
  refine kk p e s m args below meth c H1 locs1 ls C hl (P_upd (M' := M') hP1 hq (fun _ h => ?_) ho) hS1
  have e1 : (fs.mapIdx (fun i f => e_f g M q i f)).set k (rv g.2.2.1 v) = fs.mapIdx (fun i f => e_f g M' q i f) := by
    apply List.ext_getElem?
    intro i
    by_cases hik : i = k
    · subst hik
      rw [List.getElem?_set_self hl2, List.getElem?_mapIdx, hk]
      simp [hv]
    · rw [List.getElem?_set_ne (Ne.symm hik), List.getElem?_mapIdx, List.getElem?_mapIdx]
      have h9 : M' q (i : Int) = M q (i : Int) := hs i (by omega)
      simp only [e_f, h9]
  rw [e1] at h
  exact h
theorem r_puti {idx q ci k : Nat} {fs : List (Nat × Nat)} {z : Int} (kz : Int) (hd : At y pc nx 3 (.putfield idx)) (hf : FP y.1.cls idx ci k .int) (hq : Ly[q]? = some (.inl (ci, fs))) (hk : fs[k]? = some (0, 0)) (hkz : ((k : Nat) : Int) = kz) (kk : R Ly g y d nx lv st (mset M q (fset (M q) kz z)) Post) : R Ly g y d pc lv (vi z :: vr q :: st) M Post := by
  subst hkz
  refine put_v hd hf hq hk rfl rfl ?_ (fun j h => mset_n h) (fun i h => ?_) kk
  · simp [e_f, rv, mset_s, fset_s]
  · rw [mset_s, fset_n h]
theorem r_putz {idx q ci k : Nat} {fs : List (Nat × Nat)} {z : Int} (kz : Int) (hd : At y pc nx 3 (.putfield idx)) (hf : FP y.1.cls idx ci k .boolean) (hq : Ly[q]? = some (.inl (ci, fs))) (hk : fs[k]? = some (1, 0)) (hz : z = 0 ∨ z = 1) (hkz : ((k : Nat) : Int) = kz) (kk : R Ly g y d nx lv st (mset M q (fset (M q) kz z)) Post) : R Ly g y d pc lv (vi z :: vr q :: st) M Post := by
  subst hkz
  refine put_v hd hf hq hk (by rcases hz with rfl | rfl <;> rfl) (by rcases hz with rfl | rfl <;> (simp only [rv]; decide)) ?_ (fun j h => mset_n h) (fun i h => ?_) kk
  · simp [e_f, rv, mset_s, fset_s]
  · rw [mset_s, fset_n h]
theorem r_putl {idx q ci k : Nat} {fs : List (Nat × Nat)} {z : Int} (kz : Int) (hd : At y pc nx 3 (.putfield idx)) (hf : FP y.1.cls idx ci k .long) (hq : Ly[q]? = some (.inl (ci, fs))) (hk : fs[k]? = some (2, 0)) (hkz : ((k : Nat) : Int) = kz) (kk : R Ly g y d nx lv st (mset M q (fset (M q) kz z)) Post) : R Ly g y d pc lv (vl z :: vr q :: st) M Post := by
  subst hkz
  refine put_v hd hf hq hk rfl rfl ?_ (fun j h => mset_n h) (fun i h => ?_) kk
  · simp [e_f, rv, mset_s, fset_s]
  · rw [mset_s, fset_n h]
theorem ix_nat {i : Int} (h : 0 ≤ i) : ((i.toNat : Nat) : Int) = i := by omega
theorem r_ial {q n : Nat} {i : Int} (hd : At y pc nx 1 .iaload) (hq : Ly[q]? = some (.inr (0, n))) (hi : 0 ≤ i ∧ i < n) (kk : R Ly g y d nx lv (vi (M q i) :: st) M Post) : R Ly g y d pc lv (vi i :: vr q :: st) M Post := by
  intro p e s m args below meth c H locs ls C hl hP hS
  obtain ⟨hd, rfl⟩ := hd
  obtain ⟨hx, hb, hr', hml, hown, hts, hlocks, hK, hj⟩ := id C
  obtain ⟨h1, h2⟩ := cI_ix hi (hj.2 q 0 n hq).1
  refine va_iald hx hb hK.1 hP q 0 (cA := g.2.2.2 0) (n := n) (f := fun j => Int32.ofInt (M q j)) (wsOf_at hq) rfl h1 hd ?_
  rw [h2, ix_nat hi.1]
  exact kk p e s m args below meth c H locs ls C hl hP hS
theorem r_zal {q n : Nat} {i : Int} (hd : At y pc nx 1 .baload) (hq : Ly[q]? = some (.inr (1, n))) (hi : 0 ≤ i ∧ i < n) (kk : R Ly g y d nx lv (vi (M q i) :: st) M Post) : R Ly g y d pc lv (vi i :: vr q :: st) M Post := by
  intro p e s m args below meth c H locs ls C hl hP hS
  obtain ⟨hd, rfl⟩ := hd
  obtain ⟨hx, hb, hr', hml, hown, hts, hlocks, hK, hj⟩ := id C
  obtain ⟨h1, h2⟩ := cI_ix hi (hj.2 q 1 n hq).1
  refine va_zald hx hb hK.1 hP q 1 (cA := g.2.2.2 1) (n := n) (f := fun j => Int32.ofInt (M q j)) (wsOf_at hq) rfl h1 hd ?_
  rw [h2, ix_nat hi.1]
  exact kk p e s m args below meth c H locs ls C hl hP hS
theorem r_lal {q n : Nat} {i : Int} (hd : At y pc nx 1 .laload) (hq : Ly[q]? = some (.inr (2, n))) (hi : 0 ≤ i ∧ i < n) (kk : R Ly g y d nx lv (vl (M q i) :: st) M Post) : R Ly g y d pc lv (vi i :: vr q :: st) M Post := by
  intro p e s m args below meth c H locs ls C hl hP hS
  obtain ⟨hd, rfl⟩ := hd
  obtain ⟨hx, hb, hr', hml, hown, hts, hlocks, hK, hj⟩ := id C
  obtain ⟨h1, h2⟩ := cI_ix hi (hj.2 q 2 n hq).1
  refine va_lald hx hb hK.1 hP q 2 (cA := g.2.2.2 2) (n := n) (f := fun j => Int64.ofInt (M q j)) (wsOf_at hq) rfl h1 hd ?_
  rw [h2, ix_nat hi.1]
  exact kk p e s m args below meth c H locs ls C hl hP hS
theorem arr_at {H : Heap} {q t n : Nat} {M' : Mem} {x : vp_A} (h : va_at g.2.1 vwCl (g.2.2.1 q, .inl (g.2.2.2 t, x)) H) (hx : vp_cell (g.2.2.2 t) x = vp_cell (g.2.2.2 t) (e_a M' q t n)) : va_at g.2.1 vwCl (g.2.2.1 q, e_c g M' q (.inr (t, n))) H := by
  show H[g.2.2.1 q]? = some (vp_cell _ _)
  rw [show e_a M' q (t, n).1 (t, n).2 = e_a M' q t n from rfl, ← hx]
  exact h
theorem upd_m {M : Mem} {q : Nat} {i z : Int} (hi : 0 ≤ i) : upd (fun j : Nat => Int32.ofInt (M q j)) i.toNat (Int32.ofInt z) = fun j : Nat => Int32.ofInt (mset M q (fset (M q) i z) q j) := by
  funext j
  rw [mset_s]
  by_cases hj : j = i.toNat
  · subst hj
    rw [ix_nat hi, fset_s]
    simp [upd]
  · rw [fset_n (by omega)]
    simp [upd, hj]
theorem r_ias {q n : Nat} {i z : Int} (hd : At y pc nx 1 .iastore) (hq : Ly[q]? = some (.inr (0, n))) (hi : 0 ≤ i ∧ i < n) (kk : R Ly g y d nx lv st (mset M q (fset (M q) i z)) Post) : R Ly g y d pc lv (vi z :: vi i :: vr q :: st) M Post := by
  intro p e s m args below meth c H locs ls C hl hP hS
  obtain ⟨hd, rfl⟩ := hd
  obtain ⟨hx, hb, hr', hml, hown, hts, hlocks, hK, hj⟩ := id C
  obtain ⟨h1, h2⟩ := cI_ix hi (hj.2 q 0 n hq).1
  refine va_iast hx hb hK.1 hP (wsD hj) hS q 0 (cA := g.2.2.2 0) (n := n) (f := fun j => Int32.ofInt (M q j)) (wsOf_at hq) rfl h1 hd (fun H1 locs1 hP1 hD1 hS1 => ?_)
  refine kk p e s m args below meth c H1 locs1 ls C hl (P_upd hP1 hq (fun _ h => arr_at h ?_) (fun j h => mset_n h)) hS1
  rw [h2]
  simp only [e_a]
  rw [if_neg (by decide), upd_m hi.1]
theorem r_zas {q n : Nat} {i z : Int} (hd : At y pc nx 1 .bastore) (hq : Ly[q]? = some (.inr (1, n))) (hi : 0 ≤ i ∧ i < n) (hz : z = 0 ∨ z = 1) (kk : R Ly g y d nx lv st (mset M q (fset (M q) i z)) Post) : R Ly g y d pc lv (vi z :: vi i :: vr q :: st) M Post := by
  intro p e s m args below meth c H locs ls C hl hP hS
  obtain ⟨hd, rfl⟩ := hd
  obtain ⟨hx, hb, hr', hml, hown, hts, hlocks, hK, hj⟩ := id C
  obtain ⟨h1, h2⟩ := cI_ix hi (hj.2 q 1 n hq).1
  refine va_zast hx hb hK.1 hP (wsD hj) hS q 1 (cA := g.2.2.2 1) (n := n) (f := fun j => Int32.ofInt (M q j)) (wsOf_at hq) rfl h1 hd (fun H1 locs1 hP1 hD1 hS1 => ?_)
  have e1 : vp_nar .boolean (Int32.ofInt z) = Int32.ofInt z := by rcases hz with rfl | rfl <;> decide
  refine kk p e s m args below meth c H1 locs1 ls C hl (P_upd hP1 hq (fun _ h => arr_at h ?_) (fun j h => mset_n h)) hS1
  rw [h2, e1]
  simp only [e_a]
  rw [if_neg (by decide), upd_m hi.1]
theorem updL_m {M : Mem} {q : Nat} {i z : Int} (hi : 0 ≤ i) : vp_updL (fun j : Nat => Int64.ofInt (M q j)) i.toNat (Int64.ofInt z) = fun j : Nat => Int64.ofInt (mset M q (fset (M q) i z) q j) := by
  funext j
  rw [mset_s]
  by_cases hj : j = i.toNat
  · subst hj
    rw [ix_nat hi, fset_s]
    simp [vp_updL]
  · rw [fset_n (by omega)]
    simp [vp_updL, hj]
theorem r_las {q n : Nat} {i z : Int} (hd : At y pc nx 1 .lastore) (hq : Ly[q]? = some (.inr (2, n))) (hi : 0 ≤ i ∧ i < n) (kk : R Ly g y d nx lv st (mset M q (fset (M q) i z)) Post) : R Ly g y d pc lv (vl z :: vi i :: vr q :: st) M Post := by
  intro p e s m args below meth c H locs ls C hl hP hS
  obtain ⟨hd, rfl⟩ := hd
  obtain ⟨hx, hb, hr', hml, hown, hts, hlocks, hK, hj⟩ := id C
  obtain ⟨h1, h2⟩ := cI_ix hi (hj.2 q 2 n hq).1
  refine va_last hx hb hK.1 hP (wsD hj) hS q 2 (cA := g.2.2.2 2) (n := n) (f := fun j => Int64.ofInt (M q j)) (wsOf_at hq) rfl h1 hd (fun H1 locs1 hP1 hD1 hS1 => ?_)
  refine kk p e s m args below meth c H1 locs1 ls C hl (P_upd hP1 hq (fun _ h => arr_at h ?_) (fun j h => mset_n h)) hS1
  rw [h2]
  simp only [e_a]
  rw [if_pos trivial, updL_m hi.1]
theorem r_alen {q n : Nat} (hd : At y pc nx 1 .arraylength) (hq : Ly[q]? = some (.inr (0, n))) (kk : R Ly g y d nx lv (vi (n : Int) :: st) M Post) : R Ly g y d pc lv (vr q :: st) M Post := by
  intro p e s m args below meth c H locs ls C hl hP hS
  obtain ⟨hd, rfl⟩ := hd
  obtain ⟨hx, hb, hr', hml, hown, hts, hlocks, hK, hj⟩ := id C
  exact va_alen hx hb hK.1 hP q 0 (cA := g.2.2.2 0) (x := e_a M q 0 n) (wsOf_at hq) (ty := .int) rfl (v := Int32.ofInt (n : Int)) (by rw [Int32.ofInt_eq_ofNat]; rfl) hd (kk p e s m args below meth c H locs ls C hl hP hS)
end RW3
