/-! bars: a cut and the posts outside it -/
theorem mx_ub {f : Int → Int} : ∀ {q : Nat} (c : Int), 1 ≤ c → c ≤ q → f c ≤ (mx f q).2
  | 0, c, h0, h1 => by omega
  | q + 1, c, h0, h1 => by
    simp only [mx]
    by_cases e : c = (q : Int) + 1
    · subst e
      split
      · exact Int.le_refl _
      · omega
    · have := mx_ub (f := f) (q := q) c h0 (by omega)
      split
      · show f c ≤ f (q + 1); omega
      · exact this
theorem mx_stay {f : Int → Int} {q : Nat} : ∀ k : Nat, (∀ c : Int, q < c → c ≤ q + k → f c ≤ (mx f q).2) → mx f (q + k) = mx f q
  | 0, _ => rfl
  | k + 1, h => by
    have ih := mx_stay (f := f) (q := q) k (fun c a b => h c a (by omega))
    rw [← Nat.add_assoc]
    simp only [mx]
    rw [ih, if_neg]
    have := h (((q + k : Nat) : Int) + 1) (by omega) (by omega)
    omega
theorem bt_comp {n : Nat} {c p : Int} (h0 : 0 ≤ c) (h1 : c < 2 ^ n) (p0 : 0 ≤ p) (p1 : p < n) : bt (2 ^ n - 1 - c) p = 1 - bt c p := by
  have e2 : ((2 ^ n : Nat) : Int) = (2 : Int) ^ n := by simp
  have hlt : c.toNat < 2 ^ n := by omega
  have e1 : (2 ^ n - 1 - c : Int).toNat = 2 ^ n - (c.toNat + 1) := by omega
  rw [bt_tb (by omega), bt_tb h0, e1, Nat.testBit_two_pow_sub_succ hlt]
  have d : decide (p.toNat < n) = true := by simp; omega
  rw [d]
  cases c.toNat.testBit p.toNat <;> rfl
theorem exc_sym {M : Mem} (hN : NB M) {c : Int} (h0 : 0 ≤ c) (h1 : c < 2 ^ (M 1 0).toNat) : excF (M 1) (M 2) (M 3) (M 4) (M 8) (M 9) (M 10) (2 ^ (M 1 0).toNat - 1 - c) = excF (M 1) (M 2) (M 3) (M 4) (M 8) (M 9) (M 10) c := by
  obtain ⟨hp0, hr, hl, hR, hL⟩ := hN
  unfold excF callF wallF
  have k : ∀ x y : Int, (1 - x = 1 - y) ↔ x = y := fun x y => by omega
  have e1 := sg_congr (f := fun r => if bt (2 ^ (M 1 0).toNat - 1 - c) (M 2 r) = bt (2 ^ (M 1 0).toNat - 1 - c) (M 3 r) then 0 else M 4 r) (h := fun r => if bt c (M 2 r) = bt c (M 3 r) then 0 else M 4 r) (n := M 1 1) (fun r a b => by
    have q := (hR r a b).1
    rw [bt_comp h0 h1 (by omega) (by omega), bt_comp h0 h1 (by omega) (by omega)]
    exact ifc (k _ _))
  have e2 := sg_congr (f := fun r => if bt (2 ^ (M 1 0).toNat - 1 - c) (M 8 r) = bt (2 ^ (M 1 0).toNat - 1 - c) (M 9 r) then 0 else M 10 r) (h := fun r => if bt c (M 8 r) = bt c (M 9 r) then 0 else M 10 r) (n := M 1 2) (fun r a b => by
    have q := hL r a b
    rw [bt_comp h0 h1 (by omega) (by omega), bt_comp h0 h1 (by omega) (by omega)]
    exact ifc (k _ _))
  rw [e1, e2]
theorem bars_eq {M : Mem} (hN : NB M) : mx (excF (M 1) (M 2) (M 3) (M 4) (M 8) (M 9) (M 10)) (2 ^ (M 1 0).toNat - 2 : Int).toNat = mx (excF (M 1) (M 2) (M 3) (M 4) (M 8) (M 9) (M 10)) (2 ^ (M 1 0 - 1).toNat - 1 : Int).toNat := by
  have hp0 := hN.1
  have pw := pw_le hp0.1 hp0.2
  have e : (2 : Int) ^ (M 1 0).toNat = 2 * 2 ^ (M 1 0 - 1).toNat := by
    rw [show (M 1 0).toNat = (M 1 0 - 1).toNat + 1 by omega, Int.pow_succ, Int.mul_comm]
  have h := mx_stay (f := excF (M 1) (M 2) (M 3) (M 4) (M 8) (M 9) (M 10)) (q := (2 ^ (M 1 0 - 1).toNat - 1 : Int).toNat) ((2 ^ (M 1 0).toNat - 2 : Int).toNat - (2 ^ (M 1 0 - 1).toNat - 1 : Int).toNat) (fun c a b => by
    have := exc_sym hN (c := c) (by omega) (by omega)
    rw [← this]
    exact mx_ub _ (by omega) (by omega))
  rw [show (2 ^ (M 1 0 - 1).toNat - 1 : Int).toNat + ((2 ^ (M 1 0).toNat - 2 : Int).toNat - (2 ^ (M 1 0 - 1).toNat - 1 : Int).toNat) = (2 ^ (M 1 0).toNat - 2 : Int).toNat by omega] at h
  exact h
/-! far -/
def mn2 (x y : Int) : Int := if y < x then y else x
def jc (a b ln f : Int → Int) : Nat → Int → Int
  | 0, v => f v
  | n + 1, v => mn2 (mn2 (jc a b ln f n v) (if b n = v then f (a n) + ln n else jc a b ln f n v)) (if a n = v then f (b n) + ln n else jc a b ln f n v)
def jB (a b ln : Int → Int) (rc : Nat) (f : Int → Int) : Nat → Int → Int
  | 0 => f
  | k + 1 => jc a b ln (jB a b ln rc f k) rc
section JB
variable {a b ln f g : Int → Int} {rc : Nat} {v : Int}
theorem mn2_l (x y : Int) : mn2 x y ≤ x := by unfold mn2; split <;> omega
theorem mn2_r (x y : Int) : mn2 x y ≤ y := by unfold mn2; split <;> omega
theorem mn2_or (x y : Int) : mn2 x y = x ∨ mn2 x y = y := by unfold mn2; split <;> omega
theorem jc_s (n : Nat) : jc a b ln f (n + 1) v = mn2 (mn2 (jc a b ln f n v) (if b n = v then f (a n) + ln n else jc a b ln f n v)) (if a n = v then f (b n) + ln n else jc a b ln f n v) := rfl
theorem jc_le1 (n : Nat) : jc a b ln f (n + 1) v ≤ jc a b ln f n v := by
  rw [jc_s]
  exact Int.le_trans (mn2_l _ _) (mn2_l _ _)
theorem jc_le : ∀ n : Nat, jc a b ln f n v ≤ f v
  | 0 => Int.le_refl _
  | n + 1 => Int.le_trans (jc_le1 n) (jc_le n)
theorem jc_at {r : Nat} : ∀ {n : Nat}, r < n → jc a b ln f n (b r) ≤ f (a r) + ln r ∧ jc a b ln f n (a r) ≤ f (b r) + ln r
  | 0, h => by omega
  | n + 1, h => by
    by_cases e : r = n
    · subst e
      refine ⟨?_, ?_⟩
      · rw [jc_s]
        refine Int.le_trans (mn2_l _ _) (Int.le_trans (mn2_r _ _) ?_)
        rw [if_pos rfl]
        exact Int.le_refl _
      · rw [jc_s]
        refine Int.le_trans (mn2_r _ _) ?_
        rw [if_pos rfl]
        exact Int.le_refl _
    · have ih := jc_at (r := r) (n := n) (by omega)
      exact ⟨Int.le_trans (jc_le1 n) ih.1, Int.le_trans (jc_le1 n) ih.2⟩
theorem jc_ex : ∀ {n : Nat}, jc a b ln f n v = f v ∨ ∃ r : Nat, r < n ∧ ((b r = v ∧ jc a b ln f n v = f (a r) + ln r) ∨ (a r = v ∧ jc a b ln f n v = f (b r) + ln r))
  | 0 => Or.inl rfl
  | n + 1 => by
    have ih := jc_ex (n := n)
    have key : jc a b ln f (n + 1) v = jc a b ln f n v ∨ (b n = v ∧ jc a b ln f (n + 1) v = f (a n) + ln n) ∨ (a n = v ∧ jc a b ln f (n + 1) v = f (b n) + ln n) := by
      rw [jc_s]
      rcases mn2_or (mn2 (jc a b ln f n v) (if b n = v then f (a n) + ln n else jc a b ln f n v)) (if a n = v then f (b n) + ln n else jc a b ln f n v) with e | e
      · rw [e]
        rcases mn2_or (jc a b ln f n v) (if b n = v then f (a n) + ln n else jc a b ln f n v) with e2 | e2
        · exact Or.inl e2
        · rw [e2]
          by_cases q : b n = v
          · exact Or.inr (Or.inl ⟨q, if_pos q⟩)
          · exact Or.inl (if_neg q)
      · rw [e]
        by_cases q : a n = v
        · exact Or.inr (Or.inr ⟨q, if_pos q⟩)
        · exact Or.inl (if_neg q)
    rcases key with k | k | k
    · rw [k]
      rcases ih with ih | ⟨r, h1, h2⟩
      · exact Or.inl ih
      · exact Or.inr ⟨r, by omega, h2⟩
    · exact Or.inr ⟨n, by omega, Or.inl k⟩
    · exact Or.inr ⟨n, by omega, Or.inr k⟩
theorem jB_mono {j : Nat} : ∀ k : Nat, jB a b ln rc f (j + k) v ≤ jB a b ln rc f j v
  | 0 => Int.le_refl _
  | k + 1 => by
    have := jB_mono (j := j) k
    have h : jB a b ln rc f (j + k + 1) v ≤ jB a b ln rc f (j + k) v := jc_le rc
    rw [← Nat.add_assoc]
    omega
theorem jB_mono' {j k : Nat} (h : j ≤ k) : jB a b ln rc f k v ≤ jB a b ln rc f j v := by
  have := jB_mono (a := a) (b := b) (ln := ln) (rc := rc) (f := f) (v := v) (j := j) (k - j)
  rw [show j + (k - j) = k by omega] at this
  exact this
/-- while something still sinks, ever more posts have sunk -/
theorem jB_chain {n : Int} (hr : ∀ r : Nat, r < rc → (0 ≤ a r ∧ a r < n) ∧ (0 ≤ b r ∧ b r < n) ∧ 0 ≤ ln r) : ∀ (k : Nat) (v : Int), (0 ≤ v ∧ v < n) → jB a b ln rc f (k + 1) v < jB a b ln rc f k v → ∃ L : List Int, L.length = k + 2 ∧ L.Nodup ∧ (∀ x ∈ L, 0 ≤ x ∧ x < n) ∧ ∀ x ∈ L, ∃ j : Nat, j ≤ k + 1 ∧ jB a b ln rc f j x ≤ jB a b ln rc f (k + 1) v
  | 0, v, hv, h => by
    have e := jc_ex (a := a) (b := b) (ln := ln) (f := f) (v := v) (n := rc)
    have h' : jc a b ln f rc v < f v := h
    rcases e with e | ⟨r, h1, h2⟩
    · omega
    · have q := hr r h1
      have key : ∀ u, (0 ≤ u ∧ u < n) → jc a b ln f rc v = f u + ln r → ∃ L : List Int, L.length = 0 + 2 ∧ L.Nodup ∧ (∀ x ∈ L, 0 ≤ x ∧ x < n) ∧ ∀ x ∈ L, ∃ j : Nat, j ≤ 0 + 1 ∧ jB a b ln rc f j x ≤ jB a b ln rc f (0 + 1) v := fun u hu eu => by
        have ne : v ≠ u := fun x => by rw [x] at eu h'; omega
        refine ⟨[v, u], rfl, by simp [ne], fun x hx => ?_, fun x hx => ?_⟩
        · simp at hx; rcases hx with rfl | rfl; exact hv; exact hu
        · simp at hx
          rcases hx with rfl | rfl
          · exact ⟨1, by omega, Int.le_refl _⟩
          · exact ⟨0, by omega, by show f x ≤ jc a b ln f rc v; omega⟩
      rcases h2 with h2 | h2
      · exact key _ q.1 h2.2
      · exact key _ q.2.1 h2.2
  | k + 1, v, hv, h => by
    have e := jc_ex (a := a) (b := b) (ln := ln) (f := jB a b ln rc f (k + 1)) (v := v) (n := rc)
    have h' : jc a b ln (jB a b ln rc f (k + 1)) rc v < jB a b ln rc f (k + 1) v := h
    rcases e with e | ⟨r, h1, h2⟩
    · omega
    · have q := hr r h1
      have at1 := jc_at (a := a) (b := b) (ln := ln) (f := jB a b ln rc f k) h1
      have key : ∀ u, (0 ≤ u ∧ u < n) → jc a b ln (jB a b ln rc f (k + 1)) rc v = jB a b ln rc f (k + 1) u + ln r → jB a b ln rc f (k + 1) v ≤ jB a b ln rc f k u + ln r → ∃ L : List Int, L.length = k + 1 + 2 ∧ L.Nodup ∧ (∀ x ∈ L, 0 ≤ x ∧ x < n) ∧ ∀ x ∈ L, ∃ j : Nat, j ≤ k + 1 + 1 ∧ jB a b ln rc f j x ≤ jB a b ln rc f (k + 1 + 1) v := fun u hu eu ev => by
        obtain ⟨L, l1, l2, l3, l4⟩ := jB_chain hr k u hu (by omega)
        have e2 : jB a b ln rc f (k + 1 + 1) v = jB a b ln rc f (k + 1) u + ln r := eu
        refine ⟨v :: L, by simp [l1], ?_, fun x hx => ?_, fun x hx => ?_⟩
        · rw [List.nodup_cons]
          refine ⟨fun hx => ?_, l2⟩
          obtain ⟨j, j1, j2⟩ := l4 v hx
          have m := jB_mono' (a := a) (b := b) (ln := ln) (rc := rc) (f := f) (v := v) j1
          omega
        · rcases List.mem_cons.mp hx with rfl | hx
          · exact hv
          · exact l3 x hx
        · rcases List.mem_cons.mp hx with rfl | hx
          · exact ⟨k + 1 + 1, by omega, Int.le_refl _⟩
          · obtain ⟨j, j1, j2⟩ := l4 x hx
            exact ⟨j, by omega, by omega⟩
      rcases h2 with ⟨x1, x2⟩ | ⟨x1, x2⟩
      · refine key _ q.1 x2 ?_
        rw [← x1]; exact at1.1
      · refine key _ q.2.1 x2 ?_
        rw [← x1]; exact at1.2
theorem pigeon : ∀ (n : Nat) (L : List Int), L.Nodup → (∀ x ∈ L, 0 ≤ x ∧ x < n) → L.length ≤ n
  | 0, L, _, h => by
    cases L with
    | nil => simp
    | cons x t => have := h x List.mem_cons_self; omega
  | n + 1, L, hd, h => by
    have ih := pigeon n (L.erase (n : Int)) (hd.erase _) (fun x hx => by
      have m := (hd.mem_erase_iff).mp hx
      have := h x m.2
      have ne := m.1
      omega)
    have := List.length_erase (a := (n : Int)) (l := L)
    split at this <;> omega
theorem jB_fix {n : Int} (hn : 1 ≤ n) (hr : ∀ r : Nat, r < rc → (0 ≤ a r ∧ a r < n) ∧ (0 ≤ b r ∧ b r < n) ∧ 0 ≤ ln r) (hv : 0 ≤ v ∧ v < n) : jB a b ln rc f n.toNat v = jB a b ln rc f (n - 1).toNat v := by
  have e : n.toNat = (n - 1).toNat + 1 := by omega
  rw [e]
  have m : jB a b ln rc f ((n - 1).toNat + 1) v ≤ jB a b ln rc f (n - 1).toNat v := jc_le rc
  by_cases q : jB a b ln rc f ((n - 1).toNat + 1) v < jB a b ln rc f (n - 1).toNat v
  · obtain ⟨L, l1, l2, l3, _⟩ := jB_chain hr _ v hv q
    have := pigeon n.toNat L l2 (fun x hx => by have := l3 x hx; omega)
    omega
  · omega
theorem rlx_ge {u w z : Int} (hg : ∀ x, g x ≤ f x) (hs : g w ≤ g u + z) (x : Int) : g x ≤ rlx f u w z x := by
  unfold rlx
  split
  · by_cases e : x = w
    · rw [e, fset_s]; have := hg u; omega
    · rw [fset_n e]; exact hg x
  · exact hg x
theorem rdF_ge (hs : ∀ r : Nat, r < rc → g (b r) ≤ g (a r) + ln r ∧ g (a r) ≤ g (b r) + ln r) (hg : ∀ x, g x ≤ f x) : ∀ n : Nat, n ≤ rc → ∀ x, g x ≤ rdF a b ln f n x
  | 0, _ => hg
  | n + 1, h => by
    have ih := rdF_ge hs hg n (by omega)
    have s := hs n (by omega)
    simp only [rdF]
    exact rlx_ge (rlx_ge ih s.1) s.2
theorem itF_ge {rc : Int} (hs : ∀ r : Nat, r < rc.toNat → g (b r) ≤ g (a r) + ln r ∧ g (a r) ≤ g (b r) + ln r) (hg : ∀ x, g x ≤ f x) : ∀ (k : Nat) (x : Int), g x ≤ itF a b ln rc f k x
  | 0 => hg
  | k + 1 => rdF_ge hs (itF_ge hs hg k) _ (Nat.le_refl _)
theorem itF_jB {rc : Int} : ∀ (k : Nat) (x : Int), itF a b ln rc f k x ≤ jB a b ln rc.toNat f k x
  | 0, x => Int.le_refl _
  | k + 1, x => by
    have ih := itF_jB (rc := rc) k
    have e := jc_ex (a := a) (b := b) (ln := ln) (f := jB a b ln rc.toNat f k) (v := x) (n := rc.toNat)
    have l := rdF_le a b ln (itF a b ln rc f k) x rc.toNat
    show rdF a b ln (itF a b ln rc f k) rc.toNat x ≤ jc a b ln (jB a b ln rc.toNat f k) rc.toNat x
    rcases e with e | ⟨r, h1, h2⟩
    · have := ih x; omega
    · have q := rdF_at (a := a) (b := b) (ln := ln) (f := itF a b ln rc f k) h1
      rcases h2 with ⟨x1, x2⟩ | ⟨x1, x2⟩
      · have := ih (a r)
        have := q.1
        rw [x1] at this
        omega
      · have := ih (b r)
        have := q.2
        rw [x1] at this
        omega
theorem rdG_F : ∀ n : Nat, rdG a b ln f n = rdF b a ln f n
  | 0 => rfl
  | n + 1 => by simp only [rdG, rdF, rdG_F n]
theorem itG_F {rc : Int} : ∀ k : Nat, itG a b ln rc f k = itF b a ln rc f k
  | 0 => rfl
  | k + 1 => by simp only [itG, itF, rdG_F, itG_F k]
theorem rlx_c {u w z : Int} (hu : 0 ≤ u ∧ u < 9) (hw : 0 ≤ w ∧ w < 9) (h : ∀ x, 0 ≤ x → x < 9 → f x = g x) : ∀ x, 0 ≤ x → x < 9 → rlx f u w z x = rlx g u w z x := fun x x0 x1 => by
  unfold rlx
  rw [h u hu.1 hu.2, h w hw.1 hw.2]
  split
  · by_cases e : x = w
    · rw [e, fset_s, fset_s]
    · rw [fset_n e, fset_n e]; exact h x x0 x1
  · exact h x x0 x1
theorem rdF_c (hr : ∀ r : Nat, r < rc → (0 ≤ a r ∧ a r < 9) ∧ (0 ≤ b r ∧ b r < 9)) (h : ∀ x, 0 ≤ x → x < 9 → f x = g x) : ∀ n : Nat, n ≤ rc → ∀ x, 0 ≤ x → x < 9 → rdF a b ln f n x = rdF a b ln g n x
  | 0, _ => h
  | n + 1, hn => by
    have q := hr n (by omega)
    simp only [rdF]
    exact rlx_c q.2 q.1 (rlx_c q.1 q.2 (rdF_c hr h n (by omega)))
theorem itF_c {rc : Int} (hr : ∀ r : Nat, r < rc.toNat → (0 ≤ a r ∧ a r < 9) ∧ (0 ≤ b r ∧ b r < 9)) (h : ∀ x, 0 ≤ x → x < 9 → f x = g x) : ∀ (k : Nat) (x : Int), 0 ≤ x → x < 9 → itF a b ln rc f k x = itF a b ln rc g k x
  | 0 => h
  | k + 1 => rdF_c hr (itF_c hr h k) _ (Nat.le_refl _)
end JB
/-- FAR of a load -/
def DF (M : Mem) (l : Int) : Int := jB (M 2) (M 3) (M 6) (M 1 1).toNat (dsG (M 8 l)) (M 1 0 - 1).toNat (M 9 l)
theorem jB_swap {a b ln f : Int → Int} {rc : Nat} : ∀ (k : Nat) (x : Int), jB b a ln rc f k x = jB a b ln rc f k x := by
  have h1 : ∀ (a b f : Int → Int) (n : Nat) (x : Int), jc b a ln f n x ≤ jc a b ln f n x := fun a b f n x => by
    rcases jc_ex (a := a) (b := b) (ln := ln) (f := f) (v := x) (n := n) with e | ⟨r, r1, r2⟩
    · rw [e]; exact jc_le n
    · have q := jc_at (a := b) (b := a) (ln := ln) (f := f) r1
      rcases r2 with ⟨x1, x2⟩ | ⟨x1, x2⟩
      · rw [x2, ← x1]; exact q.2
      · rw [x2, ← x1]; exact q.1
  intro k
  induction k with
  | zero => intro x; rfl
  | succ k ih =>
    intro x
    have e : jB b a ln rc f k = jB a b ln rc f k := funext ih
    show jc b a ln (jB b a ln rc f k) rc x = jc a b ln (jB a b ln rc f k) rc x
    rw [e]
    have := h1 a b (jB a b ln rc f k) rc x
    have := h1 b a (jB a b ln rc f k) rc x
    omega
theorem far_F {M : Mem} (hN : NB M) {l : Int} (h0 : 0 ≤ l) (h1 : l < M 1 2) (f : Int → Int) : itF (M 2) (M 3) (M 6) (M 1 1) (ds0 (M 8 l) f) (M 1 0 - 1).toNat (M 9 l) = DF M l ∧ itG (M 2) (M 3) (M 6) (M 1 1) (ini f (dsG (M 8 l)) 9) (M 1 0).toNat (M 9 l) = DF M l := by
  obtain ⟨hp0, hr, hl, hR, hL⟩ := hN
  have ll := hL l h0 h1
  have rr : ∀ r : Nat, r < (M 1 1).toNat → (0 ≤ M 2 r ∧ M 2 r < M 1 0) ∧ (0 ≤ M 3 r ∧ M 3 r < M 1 0) ∧ 0 ≤ M 6 r := fun r h => by
    have := hR r (by omega) (by omega)
    omega
  have r9 : ∀ r : Nat, r < (M 1 1).toNat → (0 ≤ M 2 r ∧ M 2 r < 9) ∧ (0 ≤ M 3 r ∧ M 3 r < 9) := fun r h => by have := rr r h; omega
  have fix : ∀ v, 0 ≤ v ∧ v < M 1 0 → jB (M 2) (M 3) (M 6) (M 1 1).toNat (dsG (M 8 l)) (M 1 0).toNat v = jB (M 2) (M 3) (M 6) (M 1 1).toNat (dsG (M 8 l)) (M 1 0 - 1).toNat v := fun v hv => jB_fix hp0.1 rr hv
  have st : ∀ r : Nat, r < (M 1 1).toNat → jB (M 2) (M 3) (M 6) (M 1 1).toNat (dsG (M 8 l)) (M 1 0 - 1).toNat (M 3 r) ≤ jB (M 2) (M 3) (M 6) (M 1 1).toNat (dsG (M 8 l)) (M 1 0 - 1).toNat (M 2 r) + M 6 r ∧ jB (M 2) (M 3) (M 6) (M 1 1).toNat (dsG (M 8 l)) (M 1 0 - 1).toNat (M 2 r) ≤ jB (M 2) (M 3) (M 6) (M 1 1).toNat (dsG (M 8 l)) (M 1 0 - 1).toNat (M 3 r) + M 6 r := fun r h => by
    have q := rr r h
    have at1 := jc_at (a := M 2) (b := M 3) (ln := M 6) (f := jB (M 2) (M 3) (M 6) (M 1 1).toNat (dsG (M 8 l)) (M 1 0 - 1).toNat) h
    have e1 := fix (M 3 r) q.2.1
    have e2 := fix (M 2 r) q.1
    rw [show (M 1 0).toNat = (M 1 0 - 1).toNat + 1 by omega] at e1 e2
    rw [← e1, ← e2]
    have e1' : jc (M 2) (M 3) (M 6) (jB (M 2) (M 3) (M 6) (M 1 1).toNat (dsG (M 8 l)) (M 1 0 - 1).toNat) (M 1 1).toNat (M 3 r) = jB (M 2) (M 3) (M 6) (M 1 1).toNat (dsG (M 8 l)) (M 1 0 - 1).toNat (M 3 r) := e1
    have e2' : jc (M 2) (M 3) (M 6) (jB (M 2) (M 3) (M 6) (M 1 1).toNat (dsG (M 8 l)) (M 1 0 - 1).toNat) (M 1 1).toNat (M 2 r) = jB (M 2) (M 3) (M 6) (M 1 1).toNat (dsG (M 8 l)) (M 1 0 - 1).toNat (M 2 r) := e2
    rw [e1, e2]
    omega
  have low : ∀ x, jB (M 2) (M 3) (M 6) (M 1 1).toNat (dsG (M 8 l)) (M 1 0 - 1).toNat x ≤ dsG (M 8 l) x := fun x => jB_mono' (j := 0) (by omega)
  unfold DF
  refine ⟨?_, ?_⟩
  · rw [itF_c (g := dsG (M 8 l)) r9 (fun x x0 x1 => ?_) _ _ (by omega) (by omega)]
    · have u := itF_jB (a := M 2) (b := M 3) (ln := M 6) (f := dsG (M 8 l)) (rc := M 1 1) (M 1 0 - 1).toNat (M 9 l)
      have w := itF_ge (a := M 2) (b := M 3) (ln := M 6) (f := dsG (M 8 l)) (rc := M 1 1) st low (M 1 0 - 1).toNat (M 9 l)
      omega
    · unfold ds0 dsG fillN
      by_cases e : x = M 8 l
      · rw [e, fset_s, if_pos rfl]
      · rw [fset_n e, if_neg e, if_pos ⟨x0, x1⟩]
  · rw [itG_F, itF_c (g := dsG (M 8 l)) (fun r h => ⟨(r9 r h).2, (r9 r h).1⟩) (fun x x0 x1 => ?_) _ _ (by omega) (by omega)]
    · have u := itF_jB (a := M 3) (b := M 2) (ln := M 6) (f := dsG (M 8 l)) (rc := M 1 1) (M 1 0).toNat (M 9 l)
      have w := itF_ge (a := M 3) (b := M 2) (ln := M 6) (f := dsG (M 8 l)) (rc := M 1 1) (fun r h => ⟨(st r h).2, (st r h).1⟩) low (M 1 0).toNat (M 9 l)
      rw [jB_swap, fix (M 9 l) (by omega)] at u
      omega
    · unfold ini
      rw [if_pos ⟨x0, x1⟩]
theorem DF_b {M : Mem} (hN : NB M) {l : Int} (h0 : 0 ≤ l) (h1 : l < M 1 2) : 0 ≤ DF M l ∧ DF M l ≤ 1000000 := by
  have b := it_b hN (M 8 l) (M 38) (M 1 0 - 1).toNat
  have e := (far_F hN h0 h1 (M 38)).1
  have ll := hN.2.2.2.2 l h0 h1
  have q := b (M 9 l) (by omega) (by have := hN.1; omega)
  omega
