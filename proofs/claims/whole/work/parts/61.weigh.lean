/-! the search for the cheapest choice: its mathematics -/
theorem sg_mono {f : Int → Int} {a : Int} (ha : 0 ≤ a) : ∀ (k : Nat), (∀ i : Int, 0 ≤ i → i < a + k → 0 ≤ f i) → sg f a ≤ sg f (a + k)
  | 0, _ => by simp
  | k + 1, h => by
    have ih := sg_mono ha k (fun i h0 h1 => h i h0 (by omega))
    have e : sg f (a + ((k + 1 : Nat) : Int)) = sg f (a + k) + f (a + k) := by
      rw [show a + ((k + 1 : Nat) : Int) = (a + k) + 1 by omega]
      exact sg_1 (by omega)
    have := h (a + k) (by omega) (by omega)
    omega
theorem sg_mono' {f : Int → Int} {a b : Int} (ha : 0 ≤ a) (hb : a ≤ b) (h : ∀ i : Int, 0 ≤ i → i < b → 0 ≤ f i) : sg f a ≤ sg f b := by
  have := sg_mono (f := f) ha (b - a).toNat (fun i h0 h1 => h i h0 (by omega))
  rw [show a + ((b - a).toNat : Int) = b by omega] at this
  exact this
theorem sg_part {f : Int → Int} {n : Int} (h : ∀ i : Int, 0 ≤ i → i < n → 0 ≤ f i) {i : Int} (h0 : 0 ≤ i) (h1 : i < n) : f i ≤ sg f n :=
  sm_part (n := n.toNat) (fun i h0 h1 => h i h0 (by omega)) i h0 (by omega)
/-- a number that stands at most once among f 0 .. f (n-1) is counted at most once -/
theorem sg_once {f : Int → Int} {r z : Int} : ∀ {n : Nat}, (∀ k k' : Int, 0 ≤ k → k < n → 0 ≤ k' → k' < n → f k = f k' → k = k') → (sm (fun k => if f k = r then z else 0) n = 0 ∧ ∀ k : Int, 0 ≤ k → k < n → f k ≠ r) ∨ (sm (fun k => if f k = r then z else 0) n = z ∧ ∃ k : Int, 0 ≤ k ∧ k < n ∧ f k = r)
  | 0, _ => Or.inl ⟨rfl, fun k h0 h1 => by omega⟩
  | n + 1, h => by
    have ih := sg_once (f := f) (r := r) (z := z) (n := n) (fun k k' a b c d => h k k' a (by omega) c (by omega))
    simp only [sm]
    by_cases q : f n = r
    · rw [if_pos q]
      refine Or.inr ⟨?_, n, by omega, by omega, q⟩
      rcases ih with ih | ⟨_, k, a, b, c⟩
      · rw [ih.1]; omega
      · have := h k n a (by omega) (by omega) (by omega) (by rw [c, q])
        omega
    · rw [if_neg q, Int.add_zero]
      rcases ih with ih | ⟨e, k, a, b, c⟩
      · refine Or.inl ⟨ih.1, fun k a b => ?_⟩
        by_cases e : k = n
        · rw [e]; exact q
        · exact ih.2 k a (by omega)
      · exact Or.inr ⟨e, k, a, by omega, c⟩
theorem rk_cut {n m : Nat} {u : Int → Int} (hm : m ≤ n) (hd : ∀ j : Int, 0 ≤ j → j < n → 0 ≤ u j ∧ u j ≤ 7) (q : Int) : (q * 8 ^ (n - m) ≤ rk u n → q ≤ rk u m) ∧ (rk u n < q * 8 ^ (n - m) → rk u m < q) := by
  have e := rk_app u m (n - m)
  rw [show m + (n - m) = n by omega] at e
  have b := rk_bd (v := fun j => u (m + j)) (n := n - m) (fun j h0 h1 => hd _ (by omega) (by omega))
  have hW : (0 : Int) < 8 ^ (n - m) := by omega
  have tri : ∀ (X Y : Int), X ≤ Y → X * 8 ^ (n - m) ≤ Y * 8 ^ (n - m) := fun X Y h => Int.mul_le_mul_of_nonneg_right h (by omega)
  refine ⟨fun h => ?_, fun h => ?_⟩
  · by_cases c : q ≤ rk u m
    · exact c
    · have t := tri (rk u m + 1) q (by omega)
      rw [Int.add_mul, Int.one_mul] at t
      omega
  · by_cases c : rk u m < q
    · exact c
    · have t := tri q (rk u m) (by omega)
      omega
theorem pw8 {n l : Nat} (h : l < n) (p : Int) : p * 8 ^ (n - l) = (8 * p) * 8 ^ (n - (l + 1)) := by
  rw [show n - l = (n - (l + 1)) + 1 by omega, Int.pow_succ, Int.mul_comm 8 p, Int.mul_assoc, Int.mul_comm (8 ^ (n - (l + 1))) 8]
section CH1
variable {n l : Nat} {fs ls v : Int → Int}
theorem rk_first (hb : ∀ j : Int, 0 ≤ j → j < n → 0 ≤ fs j ∧ ls j ≤ 7) (hl : l < n) {u : Int → Int} (hu : Bx n fs ls u) {p : Int} (h1 : p * 8 ^ (n - l) ≤ rk u n) (h2 : rk u n < (8 * p + fs l) * 8 ^ (n - (l + 1))) : False := by
  have d := Bx.dg hb hu
  have a := (rk_cut (m := l) (by omega) d p).1 h1
  have b := (rk_cut (m := l + 1) (by omega) d _).2 h2
  have c := hu l (by omega) (by omega)
  simp only [rk] at b
  omega
theorem rk_last (hb : ∀ j : Int, 0 ≤ j → j < n → 0 ≤ fs j ∧ ls j ≤ 7) (hl : l < n) {u : Int → Int} (hu : Bx n fs ls u) {p : Int} (h1 : (8 * p + ls l + 1) * 8 ^ (n - (l + 1)) ≤ rk u n) (h2 : rk u n < (p + 1) * 8 ^ (n - l)) : False := by
  have d := Bx.dg hb hu
  have a := (rk_cut (m := l) (by omega) d _).2 h2
  have b := (rk_cut (m := l + 1) (by omega) d _).1 h1
  have c := hu l (by omega) (by omega)
  simp only [rk] at b
  omega
theorem rk_sub (hb : ∀ j : Int, 0 ≤ j → j < n → 0 ≤ fs j ∧ ls j ≤ 7) (hl : l < n) {u : Int → Int} (hu : Bx n fs ls u) (hv : Bx l fs ls v) {i : Int} (hi : 0 ≤ i ∧ i ≤ 7) (h1 : (8 * rk v l + i) * 8 ^ (n - (l + 1)) ≤ rk u n) (h2 : rk u n < (8 * rk v l + i + 1) * 8 ^ (n - (l + 1))) : (∀ j : Int, 0 ≤ j → j < l → u j = v j) ∧ u l = i := by
  have d := Bx.dg hb hu
  have a := (rk_cut (m := l + 1) (by omega) d _).1 h1
  have b := (rk_cut (m := l + 1) (by omega) d _).2 h2
  have c := d l (by omega) (by omega)
  simp only [rk] at a b
  refine ⟨rk_inj (fun j h0 h1 => d j h0 (by omega)) (fun j h0 h1 => ?_) (by omega), by omega⟩
  have x := hb j h0 (by omega)
  have y := hv j h0 (by omega)
  omega
end CH1
/-- the search's state: what is best among the choices below t -/
def StP (n : Nat) (fs ls : Int → Int) (co : (Int → Int) → Int) (fe : (Int → Int) → Prop) (t c : Int) (b : Int → Int) : Prop := (c = 1000000000 ∧ BsN n fs ls fe t) ∨ (c < 1000000000 ∧ BsS n fs ls co fe t c b)
section CH2
variable {n : Nat} {fs ls : Int → Int} {co : (Int → Int) → Int} {fe : (Int → Int) → Prop} {t t' c : Int} {b v : Int → Int}
theorem StP.skip (h : StP n fs ls co fe t c b) (ht : t ≤ t') (e : ∀ u, Bx n fs ls u → t ≤ rk u n → rk u n < t' → fe u → c ≤ co u ∧ c < 1000000000) : StP n fs ls co fe t' c b := by
  rcases h with ⟨h1, h2⟩ | ⟨h1, h2⟩
  · exact Or.inl ⟨h1, h2.grow (fun u a b d f => by have := (e u a d b f).2; omega)⟩
  · exact Or.inr ⟨h1, h2.grow ht (fun u a b d f => (e u a d b f).1)⟩
theorem StP.le (h : StP n fs ls co fe t c b) : c ≤ 1000000000 := by
  rcases h with h | h
  · omega
  · omega
theorem StP.leaf (hb : ∀ j : Int, 0 ≤ j → j < n → 0 ≤ fs j ∧ ls j ≤ 7) (hc : ∀ v w : Int → Int, (∀ j : Int, 0 ≤ j → j < n → v j = w j) → co v = co w) (h : StP n fs ls co fe (rk v n) c b) (hv : Bx n fs ls v) (hf : fe v) (hl : co v < c) : StP n fs ls co fe (rk v n + 1) (co v) v := by
  have := h.le
  refine Or.inr ⟨by omega, BsS.new hv (by omega) hf (fun u a d f => ?_)⟩
  by_cases q : rk u n < rk v n
  · rcases h with ⟨h1, h2⟩ | ⟨h1, h2⟩
    · exact absurd f (h2 u a q)
    · have := h2.2.2.2.2 u a q f
      omega
  · have e : rk u n = rk v n := by omega
    have := hc v u (rk_inj (Bx.dg hb hv) (Bx.dg hb a) e.symm)
    exact Or.inr ⟨this, by omega⟩
end CH2
/-- what stands while the search goes on -/
def CS (n rc : Int) (wl wr sz rm pr fs ls ct lf : Int → Int) : Prop :=
  (0 ≤ n ∧ n ≤ 5) ∧ (∀ r, 0 ≤ r → r < rc → (0 ≤ rm r ∧ rm r ≤ 100) ∧ (0 ≤ pr r ∧ pr r ≤ 50)) ∧
  (∀ j, 0 ≤ j → j < n → (0 ≤ fs j ∧ fs j ≤ ls j ∧ ls j ≤ 7) ∧ (1 ≤ sz j ∧ sz j ≤ 100)) ∧
  (∀ j i, 0 ≤ j → j < n → fs j ≤ i → i ≤ ls j → (1 ≤ wl (8 * j + i) ∧ wl (8 * j + i) ≤ 8) ∧ (∀ k, 0 ≤ k → k < wl (8 * j + i) → 0 ≤ wr (8 * (8 * j + i) + k) ∧ wr (8 * (8 * j + i) + k) < rc) ∧
    (∀ k k', 0 ≤ k → k < wl (8 * j + i) → 0 ≤ k' → k' < wl (8 * j + i) → wr (8 * (8 * j + i) + k) = wr (8 * (8 * j + i) + k') → k = k') ∧
    ct (8 * j + i) = sz j * sg (fun k => pr (wr (8 * (8 * j + i) + k))) (wl (8 * j + i)) ∧ lf j ≤ lf (j + 1) + ct (8 * j + i)) ∧
  lf n = 0 ∧ (∀ j, 0 ≤ j → j ≤ n → 0 ≤ lf j ∧ lf j ≤ 200000)
section CH3
variable {n rc : Int} {wl wr sz rm pr fs ls ct lf u v : Int → Int}
theorem CS.hb (h : CS n rc wl wr sz rm pr fs ls ct lf) : ∀ j : Int, 0 ≤ j → j < (n.toNat : Nat) → 0 ≤ fs j ∧ ls j ≤ 7 := fun j h0 h1 => by
  have := h.2.2.1 j h0 (by omega)
  omega
theorem CS.ctb (h : CS n rc wl wr sz rm pr fs ls ct lf) {j i : Int} (h0 : 0 ≤ j) (h1 : j < n) (h2 : fs j ≤ i) (h3 : i ≤ ls j) : 0 ≤ ct (8 * j + i) ∧ ct (8 * j + i) ≤ 40000 := by
  obtain ⟨a1, a2, a3, a4, a5⟩ := h.2.2.2.1 j i h0 h1 h2 h3
  have z := (h.2.2.1 j h0 h1).2
  have b := sg_bd (f := fun k => pr (wr (8 * (8 * j + i) + k))) (lo := 0) (hi := 50) (n := wl (8 * j + i)) (by omega) (fun k q0 q1 => by
    have := a2 k q0 q1
    exact (h.2.1 _ this.1 this.2).2)
  rw [a4]
  refine ⟨Int.mul_nonneg (by omega) (by omega), Int.le_trans (Int.mul_le_mul (c := 100) (d := 400) z.2 (by omega) (by omega) (by omega)) (by decide)⟩
theorem CS.co1 (h : CS n rc wl wr sz rm pr fs ls ct lf) {m : Int} (h0 : 0 ≤ m) (h1 : m < n) (h2 : fs m ≤ v m) (h3 : v m ≤ ls m) : coF wl wr sz pr v (m + 1) = coF wl wr sz pr v m + ct (8 * m + v m) := by
  unfold coF
  rw [sg_1 h0, (h.2.2.2.1 m (v m) h0 h1 h2 h3).2.2.2.1]
  have e := sg_lin (f := fun k => sz m * pr (wr (8 * (8 * m + v m) + k))) (a := fun _ => 0) (b := fun k => pr (wr (8 * (8 * m + v m) + k))) (c := sz m) (n := wl (8 * m + v m)) (fun i _ _ => by omega)
  have z : sg (fun _ => 0) (wl (8 * m + v m)) = 0 := by
    have := sg_bd (f := fun _ => 0) (lo := 0) (hi := 0) (n := wl (8 * m + v m)) (by have := (h.2.2.2.1 m (v m) h0 h1 h2 h3).1; omega) (fun _ _ _ => by omega)
    omega
  rw [e, z]
  omega
theorem CS.cob (h : CS n rc wl wr sz rm pr fs ls ct lf) : ∀ {m : Nat}, m ≤ n.toNat → Bx m fs ls v → 0 ≤ coF wl wr sz pr v m ∧ coF wl wr sz pr v m ≤ 40000 * m
  | 0, _, _ => by simp [coF, sg, sm]
  | m + 1, hm, hv => by
    have ih := CS.cob h (m := m) (by omega) (fun j a b => hv j a (by omega))
    have x := hv m (by omega) (by omega)
    have e := h.co1 (v := v) (m := m) (by omega) (by omega) x.1 x.2
    have y := h.ctb (j := m) (i := v m) (by omega) (by omega) x.1 x.2
    rw [show ((m + 1 : Nat) : Int) = (m : Int) + 1 by omega, e]
    omega
theorem CS.colb (h : CS n rc wl wr sz rm pr fs ls ct lf) (hu : Bx n.toNat fs ls u) : ∀ (k : Nat) (m : Int), 0 ≤ m → m + k = n → coF wl wr sz pr u m + lf m ≤ coF wl wr sz pr u n
  | 0, m, h0, e => by
    have z := h.2.2.2.2.1
    rw [show m = n by omega, z]
    omega
  | k + 1, m, h0, e => by
    have ih := CS.colb h hu k (m + 1) (by omega) (by omega)
    have x := hu m h0 (by omega)
    have e1 := h.co1 (v := u) h0 (by omega) x.1 x.2
    have l := (h.2.2.2.1 m (u m) h0 (by omega) x.1 x.2).2.2.2.2
    omega
theorem CS.ldt (h : CS n rc wl wr sz rm pr fs ls ct lf) {j i r : Int} (h0 : 0 ≤ j) (h1 : j < n) (h2 : fs j ≤ i) (h3 : i ≤ ls j) : (sg (fun k => if wr (8 * (8 * j + i) + k) = r then sz j else 0) (wl (8 * j + i)) = 0 ∧ ∀ k, 0 ≤ k → k < wl (8 * j + i) → wr (8 * (8 * j + i) + k) ≠ r) ∨ (sg (fun k => if wr (8 * (8 * j + i) + k) = r then sz j else 0) (wl (8 * j + i)) = sz j ∧ ∃ k, 0 ≤ k ∧ k < wl (8 * j + i) ∧ wr (8 * (8 * j + i) + k) = r) := by
  obtain ⟨a1, a2, a3, a4, a5⟩ := h.2.2.2.1 j i h0 h1 h2 h3
  have o := sg_once (f := fun k => wr (8 * (8 * j + i) + k)) (r := r) (z := sz j) (n := (wl (8 * j + i)).toNat) (fun k k' b1 b2 b3 b4 e => a3 k k' b1 (by omega) b3 (by omega) e)
  rcases o with ⟨o1, o2⟩ | ⟨o1, k, o2, o3, o4⟩
  · exact Or.inl ⟨o1, fun k b1 b2 => o2 k b1 (by omega)⟩
  · exact Or.inr ⟨o1, k, o2, by omega, o4⟩
theorem CS.ldm (h : CS n rc wl wr sz rm pr fs ls ct lf) (hu : Bx n.toNat fs ls u) {m r : Int} (h0 : 0 ≤ m) (h1 : m ≤ n) : ldF wl wr sz u m r ≤ ldF wl wr sz u n r := by
  refine sg_mono' h0 h1 (fun j a b => ?_)
  have x := hu j a (by omega)
  have z := (h.2.2.1 j a b).2
  rcases h.ldt (r := r) a b x.1 x.2 with o | o
  · rw [o.1]; omega
  · rw [o.1]; omega
/-- with one more load on its way: what is left of the roads -/
theorem ld_1 {m r : Int} (h0 : 0 ≤ m) : ldF wl wr sz v (m + 1) r = ldF wl wr sz v m r + sg (fun k => if wr (8 * (8 * m + v m) + k) = r then sz m else 0) (wl (8 * m + v m)) := sg_1 h0
theorem tk_eq (lf0 st rd : Int → Int) (s z : Int) (r : Int) : ∀ k : Nat, tkC lf0 st rd s z k r = lf0 r - sm (fun k => if rd (8 * s + k) = r then z else 0) k
  | 0 => by simp [tkC, sm]
  | k + 1 => by
    have ih := tk_eq lf0 st rd s z r k
    simp only [tkC, sm]
    by_cases q : rd (8 * s + k) = r
    · rw [if_pos q, ← q, fset_s, q, ih]; omega
    · rw [if_neg q, fset_n (fun e => q e.symm), ih]; omega
theorem tk_back (lf0 st rd : Int → Int) (s z : Int) (k : Nat) : tkC (tkC lf0 st rd s z k) st rd s (-z) k = lf0 := by
  funext r
  rw [tk_eq, tk_eq]
  have e : sm (fun k => if rd (8 * s + k) = r then -z else 0) k = 0 + (-1) * sm (fun k => if rd (8 * s + k) = r then z else 0) k := by
    have := sm_lin (f := fun k => if rd (8 * s + k) = r then -z else 0) (a := fun _ => 0) (b := fun k => if rd (8 * s + k) = r then z else 0) (c := -1) (n := k) (fun i _ _ => by split <;> omega)
    rw [this]
    have z0 : ∀ k : Nat, sm (fun _ => 0) k = 0 := fun k => by induction k with
      | zero => rfl
      | succ k ih => simp only [sm, ih]; omega
    rw [z0]
  rw [e]
  omega
/-- no choice beyond this one is good: a road has no room -/
theorem CS.full (h : CS n rc wl wr sz rm pr fs ls ct lf) (hu : Bx n.toNat fs ls u) {l i : Int} (h0 : 0 ≤ l) (h1 : l < n) (e : ∀ j : Int, 0 ≤ j → j < l → u j = v j) (ei : u l = i) {k : Int} (k0 : 0 ≤ k) (k1 : k < wl (8 * l + i)) (hk : rm (wr (8 * (8 * l + i) + k)) - ldF wl wr sz v l (wr (8 * (8 * l + i) + k)) < sz l) : ¬ feF wl wr sz rm n rc u := by
  intro f
  have x := hu l h0 (by omega)
  rw [ei] at x
  have a := (h.2.2.2.1 l i h0 h1 x.1 x.2).2.1 k k0 k1
  have g := f _ a.1 a.2
  have m := h.ldm hu (m := l + 1) (r := wr (8 * (8 * l + i) + k)) (by omega) (by omega)
  rw [ld_1 h0, ei] at m
  have q := ldF_ext (wl := wl) (wr := wr) (sz := sz) (r := wr (8 * (8 * l + i) + k)) (c := u) (c' := v) (i := l) e
  rcases h.ldt (r := wr (8 * (8 * l + i) + k)) h0 h1 x.1 x.2 with o | o
  · exact o.2 k k0 k1 rfl
  · omega
/-- no choice beyond this one is cheaper -/
theorem CS.dear (h : CS n rc wl wr sz rm pr fs ls ct lf) (hu : Bx n.toNat fs ls u) {l i : Int} (h0 : 0 ≤ l) (h1 : l < n) (e : ∀ j : Int, 0 ≤ j → j < l → u j = v j) (ei : u l = i) : coF wl wr sz pr v l + ct (8 * l + i) + lf (l + 1) ≤ coF wl wr sz pr u n := by
  have x := hu l h0 (by omega)
  have a := h.colb hu (n - (l + 1)).toNat (l + 1) (by omega) (by omega)
  rw [h.co1 h0 h1 x.1 x.2, ei, coF_ext (c := u) (c' := v) e] at a
  exact a
end CH3
def m45 (M : Mem) (A B : Int → Int) : Mem := fun k => if k = 44 then A else if k = 45 then B else M k
theorem m45_44 (M : Mem) (A B : Int → Int) : m45 M A B 44 = A := rfl
theorem m45_45 (M : Mem) (A B : Int → Int) : m45 M A B 45 = B := rfl
theorem m45_o {M : Mem} {A B : Int → Int} {k : Nat} (h : ¬ k = 44 ∧ ¬ k = 45) : m45 M A B k = M k := by
  simp only [m45]
  rw [if_neg h.1, if_neg h.2]
theorem m45_s44 (M : Mem) (A B X : Int → Int) : mset (m45 M A B) 44 X = m45 M X B := by
  funext k
  simp only [mset, m45]
  by_cases h : k = 44
  · rw [if_pos h, if_pos h]
  · rw [if_neg h, if_neg h, if_neg h]
theorem m45_s45 (M : Mem) (A B X : Int → Int) : mset (m45 M A B) 45 X = m45 M A X := by
  funext k
  simp only [mset, m45]
  by_cases h : k = 45
  · rw [if_pos h, if_pos h, if_neg (by omega)]
  · rw [if_neg h, if_neg h, if_neg h]
theorem m45_i (M : Mem) (X : Int → Int) : mset M 45 X = m45 M (M 44) X := by
  funext k
  simp only [mset, m45]
  by_cases h : k = 45
  · simp only [if_pos h]
    rw [if_neg (by omega)]
  · simp only [if_neg h]
    by_cases h2 : k = 44
    · rw [if_pos h2, h2]
    · rw [if_neg h2]
section CK
variable {g : Gt} {M : Mem}
theorem sX0_hasRoom_b (d : Nat) (s z : Int) (hs : 0 ≤ s ∧ s < 40) (hz : 0 ≤ z ∧ z ≤ 100) (hv : VS M s) (hlf : ∀ r, 0 ≤ r → r < M 1 1 → -1000 ≤ M 46 r ∧ M 46 r ≤ 1000) (hN : NB M) : Ex LyC g (d + 1) mX0_hasRoom [vr 39, vr 27, vi s, vi z] M (PI (if fpt (fun k => if M 46 (M 31 (8 * s + k)) < z then (1 : Int) else 0) (M 29 s).toNat < 0 then 1 else 0) M) := by
  refine Ex.in [some (vr 39), some (vr 27), some (vi s), some (vi z), none] (by decide +kernel) rfl (Nat.le_of_ble_eq_true rfl) ?_ rfl
  obtain ⟨hp0, hr, hl, hR, hL⟩ := id hN
  obtain ⟨v1, v2, v3⟩ := id hv
  have L : ∀ (n9 : Nat) (i : Int), (0 ≤ i) → (i ≤ M 29 s) → (∀ j : Int, 0 ≤ j → j < i → (fun k => if M 46 (M 31 (8 * s + k)) < z then (1 : Int) else 0) j = 0) → M 29 s - i < n9 → R LyC g mX0_hasRoom (d + 1) 3 [some (vr 39), some (vr 27), some (vi s), some (vi z), some (vi i)] [] M (PI (if fpt (fun k => if M 46 (M 31 (8 * s + k)) < z then (1 : Int) else 0) (M 29 s).toNat < 0 then 1 else 0) M) := by
    intro n9
    induction n9 with
    | zero =>
      intro i h0 h1 hq hm9
      omega
    | succ n9 ih =>
      intro i h0 h1 hq hm9
      refine r_ld iX0_hasRoom_3 rfl ?_
      refine r_aldn iX0_hasRoom_5 rfl ?_
      refine r_getr iX0_hasRoom_6 flX0_101 rfl rfl ?_
      refine r_ldn iX0_hasRoom_9 rfl ?_
      refine r_ial iX0_hasRoom_10 rfl (by omega) ?_
      refine r_cge iX0_hasRoom_11 (by omega) (fun h11 => ?_) (fun h11 => ?_)
      · refine r_con iX0_hasRoom_38 ?_
        refine r_zret iX0_hasRoom_39 rfl (by omega) ?_
        exact ⟨by rw [fpt_no (f := (fun k => if M 46 (M 31 (8 * s + k)) < z then (1 : Int) else 0)) (fun j h2 h3 => hq j h2 (by omega)), if_pos (by decide)], rfl⟩
      · have hv3 := v3 i h0 (by omega)
        have hlr := hlf _ hv3.1 (by omega)
        refine r_aldn iX0_hasRoom_14 rfl ?_
        refine r_getr iX0_hasRoom_15 flX0_35 rfl rfl ?_
        refine r_aldn iX0_hasRoom_18 rfl ?_
        refine r_ldn iX0_hasRoom_19 rfl ?_
        refine r_ld iX0_hasRoom_20 rfl ?_
        refine call_V2i iX0_hasRoom_22 clX0_104 myX6_step rfl rfl rfl rfl (sX6_step _ _ _ (by omega)) ?_
        refine r_ial iX0_hasRoom_25 rfl (by omega) ?_
        refine r_ldn iX0_hasRoom_26 rfl ?_
        refine r_cge iX0_hasRoom_27 (by omega) (fun h27 => ?_) (fun h27 => ?_)
        · refine r_inc iX0_hasRoom_32 rfl (by decide) rfl ?_
          refine r_goto iX0_hasRoom_35 ?_
          exact ih (i + 1) (by omega) (by omega) (fun j h2 h3 => by by_cases e : j = i; subst e; exact if_neg (by omega); exact hq j h2 (by omega)) (by omega)
        · refine r_con iX0_hasRoom_30 ?_
          refine r_zret iX0_hasRoom_31 rfl (by omega) ?_
          exact ⟨by rw [fpt_at (f := (fun k => if M 46 (M 31 (8 * s + k)) < z then (1 : Int) else 0)) h0 hq (by show (if _ then _ else _) ≠ _; rw [if_pos h27]; decide) (by omega), if_neg (by omega)], rfl⟩
  refine r_con iX0_hasRoom_0 ?_
  refine r_st iX0_hasRoom_1 (by decide) rfl ?_
  exact L 9 0 (by omega) (by omega) (fun j h2 h3 => by omega) (by omega)
theorem sX0_weigh (d : Nat) (hb : ∀ j, 0 ≤ j → j < M 1 2 → 0 ≤ M 42 j ∧ M 42 j ≤ M 43 j ∧ M 43 j < M 28 j) (hW : WB M) (hN : NB M) : Ex LyC g (d + 3) mX0_weigh [vr 39, vr 1, vr 27] M (fun q M' => q = none ∧ ∃ A B, M' = m45 M A B ∧ (∀ j, -1 < j → j < M 1 2 → ∀ i, M 42 j ≤ i → i ≤ M 43 j → A (8 * j + i) = M 10 j * prC (M 5) (M 29) (M 31) (8 * j + i) ∧ B j ≤ B (j + 1) + A (8 * j + i)) ∧ B (M 1 2) = 0 ∧ (∀ j, -1 < j → j ≤ M 1 2 → 0 ≤ B j ∧ B j ≤ 40000 * (M 1 2 - j))) := by
  refine Ex.in [some (vr 39), some (vr 1), some (vr 27), none, none, none] (by decide +kernel) rfl (Nat.le_of_ble_eq_true rfl) ?_ rfl
  obtain ⟨hp0, hr, hl, hR, hL⟩ := id hN
  have L : ∀ (n9 : Nat) (A B : Int → Int) (l : Int) (w4 w5 : Option MV), (-1 ≤ l) → (l < M 1 2) → (∀ j, l < j → j < M 1 2 → ∀ i, M 42 j ≤ i → i ≤ M 43 j → A (8 * j + i) = M 10 j * prC (M 5) (M 29) (M 31) (8 * j + i) ∧ B j ≤ B (j + 1) + A (8 * j + i)) → (B (M 1 2) = 0) → (∀ j, l < j → j ≤ M 1 2 → 0 ≤ B j ∧ B j ≤ 40000 * (M 1 2 - j)) → l + 1 < n9 → R LyC g mX0_weigh (d + 3) 17 [some (vr 39), some (vr 1), some (vr 27), some (vi l), w4, w5] [] (m45 M A B) (fun q M' => q = none ∧ ∃ A B, M' = m45 M A B ∧ (∀ j, -1 < j → j < M 1 2 → ∀ i, M 42 j ≤ i → i ≤ M 43 j → A (8 * j + i) = M 10 j * prC (M 5) (M 29) (M 31) (8 * j + i) ∧ B j ≤ B (j + 1) + A (8 * j + i)) ∧ B (M 1 2) = 0 ∧ (∀ j, -1 < j → j ≤ M 1 2 → 0 ≤ B j ∧ B j ≤ 40000 * (M 1 2 - j))) := by
    intro n9
    induction n9 with
    | zero =>
      intro A B l w4 w5 h0 h1 u1 u2 u3 hm9
      omega
    | succ n9 ih =>
      intro A B l w4 w5 h0 h1 u1 u2 u3 hm9
      refine r_ldn iX0_weigh_17 rfl ?_
      refine r_iflt iX0_weigh_18 (by omega) (fun h18 => ?_) (fun h18 => ?_)
      · refine r_vret iX0_weigh_120 rfl ?_
        have hl1 : l = -1 := by omega
        subst hl1
        exact ⟨rfl, A, B, rfl, u1, u2, u3⟩
      · have hll := hL l h18 h1
        have hbl := hb l h18 h1
        have hvs := hW l h18 h1
        have ihO := ih
        refine r_ldc (n := 1000000000) iX0_weigh_21 cnX0_11 (by decide) ?_
        refine r_st iX0_weigh_23 (by decide) rfl ?_
        refine r_aldn iX0_weigh_25 rfl ?_
        refine r_getr iX0_weigh_26 flX0_23 rfl rfl ?_
        refine r_ldn iX0_weigh_29 rfl ?_
        refine r_ial iX0_weigh_30 rfl (by omega) ?_
        refine r_st iX0_weigh_31 (by decide) rfl ?_
        have K : ∀ (n9 : Nat) (A : Int → Int) (i s : Int), (M 42 l ≤ i) → (i ≤ M 43 l + 1) → (∀ j, l < j → j < M 1 2 → ∀ i, M 42 j ≤ i → i ≤ M 43 j → A (8 * j + i) = M 10 j * prC (M 5) (M 29) (M 31) (8 * j + i) ∧ B j ≤ B (j + 1) + A (8 * j + i)) → (∀ i2, M 42 l ≤ i2 → i2 < i → A (8 * l + i2) = M 10 l * prC (M 5) (M 29) (M 31) (8 * l + i2) ∧ s ≤ A (8 * l + i2)) → (0 ≤ s ∧ s ≤ 1000000000 ∧ (i = M 42 l ∨ s ≤ 40000)) → M 43 l + 1 - i < n9 → R LyC g mX0_weigh (d + 3) 33 [some (vr 39), some (vr 1), some (vr 27), some (vi l), some (vi s), some (vi i)] [] (m45 M A B) (fun q M' => q = none ∧ ∃ A B, M' = m45 M A B ∧ (∀ j, -1 < j → j < M 1 2 → ∀ i, M 42 j ≤ i → i ≤ M 43 j → A (8 * j + i) = M 10 j * prC (M 5) (M 29) (M 31) (8 * j + i) ∧ B j ≤ B (j + 1) + A (8 * j + i)) ∧ B (M 1 2) = 0 ∧ (∀ j, -1 < j → j ≤ M 1 2 → 0 ≤ B j ∧ B j ≤ 40000 * (M 1 2 - j))) := by
          intro n9
          induction n9 with
          | zero =>
            intro A i s g0 g1 w1 v1 v2 hm9
            omega
          | succ n9 ih =>
            intro A i s g0 g1 w1 v1 v2 hm9
            refine r_ld iX0_weigh_33 rfl ?_
            refine r_aldn iX0_weigh_35 rfl ?_
            refine r_getr iX0_weigh_36 flX0_26 rfl rfl ?_
            refine r_ldn iX0_weigh_39 rfl ?_
            refine r_ial iX0_weigh_40 rfl (by omega) ?_
            try simp only [m45_44, m45_45, m45_o, m45_s44, m45_s45, Nat.reduceEqDiff, not_false_eq_true, and_self, fset_s]
            refine r_cgt iX0_weigh_41 (by omega) (fun h41 => ?_) (fun h41 => ?_)
            · refine r_aldn iX0_weigh_97 rfl ?_
              refine r_getr iX0_weigh_98 flX0_32 rfl rfl ?_
              refine r_ldn iX0_weigh_101 rfl ?_
              refine r_aldn iX0_weigh_102 rfl ?_
              refine r_getr iX0_weigh_103 flX0_32 rfl rfl ?_
              refine r_ldn iX0_weigh_106 rfl ?_
              refine r_con iX0_weigh_107 ?_
              try simp only [m45_44, m45_45, m45_o, m45_s44, m45_s45, Nat.reduceEqDiff, not_false_eq_true, and_self, fset_s]
              refine r_add iX0_weigh_108 ?_
              refine r_ial iX0_weigh_109 rfl (by omega) ?_
              refine r_ld iX0_weigh_110 rfl ?_
              refine r_add iX0_weigh_112 ?_
              try simp only [m45_44, m45_45, m45_o, m45_s44, m45_s45, Nat.reduceEqDiff, not_false_eq_true, and_self, fset_s]
              refine r_ias iX0_weigh_113 rfl (by omega) ?_
              try simp only [m45_44, m45_45, m45_o, m45_s44, m45_s45, Nat.reduceEqDiff, not_false_eq_true, and_self, fset_s]
              refine r_inc iX0_weigh_114 rfl (by decide) rfl ?_
              refine r_goto iX0_weigh_117 ?_
              have hBl := u3 (l + 1) (by omega) (by omega)
              refine ihO A (fset B l (B (l + 1) + s)) (l - 1) _ _ (by omega) (by omega) (fun j q0 q1 i2 q2 q3 => ?_) ?_ (fun j q0 q1 => ?_) (by omega)
              · by_cases e : j = l
                · subst e
                  rw [fset_s, fset_n (by omega)]
                  have := v1 i2 q2 (by omega)
                  exact ⟨this.1, by omega⟩
                · rw [fset_n (by omega), fset_n (by omega)]
                  exact w1 j (by omega) q1 i2 q2 q3
              · rw [fset_n (by omega)]; exact u2
              · by_cases e : j = l
                · subst e
                  rw [fset_s]
                  omega
                · rw [fset_n e]; exact u3 j (by omega) q1
            · try simp only [m45_44, m45_45, m45_o, m45_s44, m45_s45, Nat.reduceEqDiff, not_false_eq_true, and_self, fset_s]
              refine r_aldn iX0_weigh_44 rfl ?_
              refine r_getr iX0_weigh_45 flX0_29 rfl rfl ?_
              refine r_ldn iX0_weigh_48 rfl ?_
              refine r_ld iX0_weigh_49 rfl ?_
              refine call_N2i iX0_weigh_51 clX0_77 myX7_slot rfl (sX7_slot _ _ _) ?_
              try simp only [m45_44, m45_45, m45_o, m45_s44, m45_s45, Nat.reduceEqDiff, not_false_eq_true, and_self, fset_s]
              refine r_aldn iX0_weigh_54 rfl ?_
              refine r_getr iX0_weigh_55 flX0_81 rfl rfl ?_
              refine r_ldn iX0_weigh_58 rfl ?_
              refine r_ial iX0_weigh_59 rfl (by omega) ?_
              refine r_aldn iX0_weigh_60 rfl ?_
              refine r_aldn iX0_weigh_61 rfl ?_
              refine r_ldn iX0_weigh_62 rfl ?_
              refine r_ld iX0_weigh_63 rfl ?_
              refine call_N2i iX0_weigh_65 clX0_77 myX7_slot rfl (sX7_slot _ _ _) ?_
              have hpr := pr_bd hN (s := 8 * l + i) (hvs.2 i (by omega) (by omega))
              have hprod : 0 ≤ M 10 l * prC (M 5) (M 29) (M 31) (8 * l + i) ∧ M 10 l * prC (M 5) (M 29) (M 31) (8 * l + i) ≤ 40000 := ⟨Int.mul_nonneg (by omega) (by omega), Int.le_trans (Int.mul_le_mul (c := 100) (d := 400) (by omega) (by omega) (by omega) (by omega)) (by decide)⟩
              refine call_V2i iX0_weigh_68 clX0_84 myX6_pricesOf rfl rfl rfl rfl (sX6_pricesOf (M := m45 M A B) _ _ (by omega) (hvs.2 i (by omega) (by omega)) hN) ?_
              try simp only [m45_44, m45_45, m45_o, m45_s44, m45_s45, Nat.reduceEqDiff, not_false_eq_true, and_self, fset_s]
              refine r_mul iX0_weigh_71 ?_
              try simp only [m45_44, m45_45, m45_o, m45_s44, m45_s45, Nat.reduceEqDiff, not_false_eq_true, and_self, fset_s]
              refine r_ias iX0_weigh_72 rfl (by omega) ?_
              try simp only [m45_44, m45_45, m45_o, m45_s44, m45_s45, Nat.reduceEqDiff, not_false_eq_true, and_self, fset_s]
              refine r_ld iX0_weigh_73 rfl ?_
              refine r_aldn iX0_weigh_75 rfl ?_
              refine r_getr iX0_weigh_76 flX0_29 rfl rfl ?_
              refine r_ldn iX0_weigh_79 rfl ?_
              refine r_ld iX0_weigh_80 rfl ?_
              refine call_N2i iX0_weigh_82 clX0_77 myX7_slot rfl (sX7_slot _ _ _) ?_
              refine r_ial iX0_weigh_85 rfl (by omega) ?_
              try simp only [m45_44, m45_45, m45_o, m45_s44, m45_s45, Nat.reduceEqDiff, not_false_eq_true, and_self, fset_s]
              refine r_min iX0_weigh_86 clX0_88 rfl (by omega) ?_
              refine r_st iX0_weigh_89 (by decide) rfl ?_
              refine r_inc iX0_weigh_91 rfl (by decide) rfl ?_
              refine r_goto iX0_weigh_94 ?_
              refine ih (fset A (8 * l + i) (M 10 l * prC (M 5) (M 29) (M 31) (8 * l + i))) (i + 1) _ (by omega) (by omega) (fun j q0 q1 i2 q2 q3 => ?_) (fun i2 q0 q1 => ?_) ?_ (by omega)
              · have hj := hb j (by omega) q1
                have hj2 := hW j (by omega) q1
                rw [fset_n (by omega)]
                exact w1 j q0 q1 i2 q2 q3
              · by_cases e : i2 = i
                · rw [e, fset_s]
                  exact ⟨rfl, by split <;> omega⟩
                · rw [fset_n (by omega)]
                  have := v1 i2 q0 (by omega)
                  exact ⟨this.1, by split <;> omega⟩
              · refine ⟨?_, ?_, Or.inr ?_⟩ <;> split <;> omega
        exact K 100 A (M 42 l) 1000000000 (by omega) (by omega) u1 (fun i2 q0 q1 => by omega) (by omega) (by omega)
  refine r_aldn iX0_weigh_0 rfl ?_
  refine r_getr iX0_weigh_1 flX0_32 rfl rfl ?_
  refine r_aldn iX0_weigh_4 rfl ?_
  refine r_geti 2 iX0_weigh_5 flX0_49 rfl rfl rfl rfl ?_
  refine r_con iX0_weigh_8 ?_
  refine r_ias iX0_weigh_9 rfl (by omega) ?_
  rw [m45_i]
  try simp only [m45_44, m45_45, m45_o, m45_s44, m45_s45, Nat.reduceEqDiff, not_false_eq_true, and_self, fset_s]
  refine r_aldn iX0_weigh_10 rfl ?_
  refine r_geti 2 iX0_weigh_11 flX0_49 rfl rfl rfl rfl ?_
  refine r_con iX0_weigh_14 ?_
  refine r_sub iX0_weigh_15 ?_
  refine r_stn iX0_weigh_16 (by decide) rfl ?_
  refine L 9 (M 44) _ (M 1 2 - 1) _ _ (by omega) (by omega) (fun j q0 q1 => by omega) (fset_s _ _ _) (fun j q0 q1 => ?_) (by omega)
  rw [show j = M 1 2 by omega, fset_s]
  omega
end CK
