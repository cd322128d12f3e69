/-! shares as reduced fractions -/
def gd (x : Int) : Int := (Int.gcd x 60 : Int)
def tp (x : Int) : Int := x / gd x
def lw (x : Int) : Int := 60 / gd x
theorem gd_pos (x : Int) : 0 < gd x := by
  have : 0 < Int.gcd x 60 := Int.gcd_pos_of_ne_zero_right x (by decide)
  unfold gd; omega
theorem tp_mul (x : Int) : tp x * gd x = x := Int.ediv_mul_cancel (Int.gcd_dvd_left ..)
theorem lw_mul (x : Int) : lw x * gd x = 60 := Int.ediv_mul_cancel (Int.gcd_dvd_right ..)
theorem lw_bd (x : Int) : 1 ≤ lw x ∧ lw x ≤ 60 := by
  have h1 := lw_mul x
  have h2 := gd_pos x
  have h3 : 0 < lw x := by
    by_cases h : 0 < lw x
    · exact h
    · have := Int.mul_nonneg (show 0 ≤ -lw x by omega) (Int.le_of_lt h2)
      rw [Int.neg_mul, h1] at this
      omega
  have h4 := Int.mul_le_mul_of_nonneg_left (show 1 ≤ gd x by omega) (Int.le_of_lt h3)
  omega
theorem tp_bd {x : Int} (h : 0 ≤ x) : 0 ≤ tp x ∧ tp x ≤ x := by
  have h1 := tp_mul x
  have h2 := gd_pos x
  have h3 : 0 ≤ tp x := Int.ediv_nonneg h (Int.le_of_lt h2)
  have h4 := Int.mul_le_mul_of_nonneg_left (show 1 ≤ gd x by omega) h3
  omega
theorem tp_lw (x : Int) : tp x * 60 = x * lw x := by
  have h1 := tp_mul x
  have h2 := lw_mul x
  calc tp x * 60 = tp x * (lw x * gd x) := by rw [h2]
    _ = (tp x * gd x) * lw x := by rw [Int.mul_comm (lw x), Int.mul_assoc]
    _ = x * lw x := by rw [h1]
theorem fr_red {T L z : Int} (hL : 0 < L) (hT : T * 60 = z * L) : T / (Int.gcd T L : Int) = tp z ∧ L / (Int.gcd T L : Int) = lw z := by
  have g1 : 0 < Int.gcd T L := Int.gcd_pos_of_ne_zero_right T (by omega)
  have e1 : Int.gcd (T * 60) (L * 60) = Int.gcd T L * 60 := Int.gcd_mul_right ..
  have e2 : Int.gcd (z * L) (60 * L) = Int.gcd z 60 * L.natAbs := Int.gcd_mul_right ..
  rw [hT, Int.mul_comm L 60, e2] at e1
  have e3 : gd z * L = (Int.gcd T L : Int) * 60 := by
    unfold gd
    have : ((Int.gcd z 60 * L.natAbs : Nat) : Int) = ((Int.gcd T L * 60 : Nat) : Int) := by rw [e1]
    rw [Int.natCast_mul, Int.natCast_mul, Int.natAbs_of_nonneg (by omega)] at this
    exact this
  have h2 := gd_pos z
  have hl : L = lw z * (Int.gcd T L : Int) := by
    refine Int.eq_of_mul_eq_mul_left (show gd z ≠ 0 by omega) ?_
    rw [e3, ← Int.mul_assoc, Int.mul_comm (gd z), lw_mul, Int.mul_comm]
  have ht : T = tp z * (Int.gcd T L : Int) := by
    refine Int.eq_of_mul_eq_mul_right (show (60 : Int) ≠ 0 by decide) ?_
    rw [hT, Int.mul_assoc, ← e3, ← Int.mul_assoc, tp_mul]
  have hG : (0 : Int) < (Int.gcd T L : Int) := by omega
  generalize (Int.gcd T L : Int) = G at ht hl hG ⊢
  refine ⟨?_, ?_⟩
  · rw [ht]; exact Int.mul_ediv_cancel _ (by omega)
  · rw [hl]; exact Int.mul_ediv_cancel _ (by omega)
theorem gcd_step {x y : Int} (hx : 0 ≤ x) (hy : 0 < y) : Int.gcd y (x % y) = Int.gcd x y := by
  obtain ⟨a, rfl⟩ := Int.eq_ofNat_of_zero_le hx
  obtain ⟨b, rfl⟩ := Int.eq_ofNat_of_zero_le (Int.le_of_lt hy)
  rw [← Int.natCast_emod]
  show Nat.gcd b (a % b) = Nat.gcd a b
  rw [Nat.gcd_comm, ← Nat.gcd_rec, Nat.gcd_comm]
def mxP (k : Int) : Int := if k ≤ 1 then 1 else if k = 2 then 2 else if k = 3 then 3 else if k = 4 then 4 else 6
theorem mxP_mul {k c p : Int} (h0 : 0 ≤ k) (h1 : 1 ≤ c) (h2 : k + c ≤ 5) (h3 : 1 ≤ p ∧ p ≤ mxP k) : 1 ≤ p * c ∧ p * c ≤ mxP (k + c) := by
  have hk : k = 0 ∨ k = 1 ∨ k = 2 ∨ k = 3 ∨ k = 4 := by omega
  have hc : c = 1 ∨ c = 2 ∨ c = 3 ∨ c = 4 ∨ c = 5 := by omega
  unfold mxP at *
  rcases hk with rfl | rfl | rfl | rfl | rfl <;> rcases hc with rfl | rfl | rfl | rfl | rfl <;> simp at h3 ⊢ <;> omega
theorem mxP_le {k : Int} : mxP k ≤ 6 := by unfold mxP; split <;> (try split) <;> (try split) <;> (try split) <;> omega
theorem dv60 {p : Int} (h : 1 ≤ p ∧ p ≤ 6) : ∃ q, 60 = p * q := by
  have : p = 1 ∨ p = 2 ∨ p = 3 ∨ p = 4 ∨ p = 5 ∨ p = 6 := by omega
  rcases this with rfl | rfl | rfl | rfl | rfl | rfl
  · exact ⟨60, rfl⟩
  · exact ⟨30, rfl⟩
  · exact ⟨20, rfl⟩
  · exact ⟨15, rfl⟩
  · exact ⟨12, rfl⟩
  · exact ⟨10, rfl⟩
theorem sm_lin {f a b : Int → Int} {c : Int} : ∀ {n : Nat}, (∀ i : Int, 0 ≤ i → i < n → f i = a i + c * b i) → sm f n = sm a n + c * sm b n
  | 0, _ => by simp [sm]
  | n + 1, h => by
    simp only [sm]
    rw [sm_lin (n := n) (fun i h0 h1 => h i h0 (by omega)), h n (by omega) (by omega), Int.mul_add]
    omega
theorem sg_lin {f a b : Int → Int} {c n : Int} (h : ∀ i : Int, 0 ≤ i → i < n → f i = a i + c * b i) : sg f n = sg a n + c * sg b n := sm_lin (fun i h0 h1 => h i h0 (by omega))
theorem sg_mulr {f : Int → Int} {c n : Int} : sg (fun l => f l * c) n = sg f n * c := by
  have h : ∀ m : Nat, sm (fun l => f l * c) m = sm f m * c := by
    intro m
    induction m with
    | zero => simp [sm]
    | succ m ih => simp only [sm]; rw [ih, Int.add_mul]
  exact h n.toNat
theorem sg_le {f a : Int → Int} {n : Int} (h : ∀ i : Int, 0 ≤ i → i < n → f i ≤ a i) : sg f n ≤ sg a n := by
  have key : ∀ m : Nat, (m : Int) ≤ n → sm f m ≤ sm a m := by
    intro m
    induction m with
    | zero => intro _; simp [sm]
    | succ m ih =>
      intro hm
      simp only [sm]
      have h1 := ih (by omega)
      have h2 := h m (by omega) (by omega)
      omega
  by_cases hn : 0 ≤ n
  · exact key n.toNat (by omega)
  · unfold sg
    rw [show n.toNat = 0 by omega]
    simp [sm]
theorem sg_lt {f a : Int → Int} {n i : Int} (h : ∀ i : Int, 0 ≤ i → i < n → f i ≤ a i) (h0 : 0 ≤ i) (h1 : i < n) (h2 : f i < a i) : sg f n < sg a n := by
  have key : ∀ m : Nat, (m : Int) ≤ n → sm f m ≤ sm a m ∧ (i < m → sm f m < sm a m) := by
    intro m
    induction m with
    | zero => intro _; simp [sm]; omega
    | succ m ih =>
      intro hm
      simp only [sm]
      have h3 := ih (by omega)
      have h4 := h m (by omega) (by omega)
      refine ⟨by omega, fun h5 => ?_⟩
      by_cases e : i = m
      · subst e; omega
      · have := h3.2 (by omega); omega
  exact (key n.toNat (by omega)).2 (by omega)
theorem sg_dvd {f : Int → Int} {n k : Int} (h : ∀ i : Int, 0 ≤ i → i < n → k ∣ f i) : k ∣ sg f n := by
  have key : ∀ m : Nat, (m : Int) ≤ n → k ∣ sm f m := by
    intro m
    induction m with
    | zero => intro _; simp [sm]
    | succ m ih => intro hm; simp only [sm]; exact Int.dvd_add (ih (by omega)) (h m (by omega) (by omega))
  by_cases hn : 0 ≤ n
  · exact key n.toNat (by omega)
  · unfold sg
    rw [show n.toNat = 0 by omega]
    simp [sm]
theorem mic_lb {p f : Int → Int} {c : Int} : ∀ {n : Nat} (i : Int), 0 ≤ i → i < n → p i ≠ 0 → mic p f c n ≤ f i
  | 0, i, h0, h1, _ => by omega
  | n + 1, i, h0, h1, h2 => by
    simp only [mic]
    by_cases e : i = n
    · subst e; rw [if_neg h2]; split <;> omega
    · have := mic_lb (f := f) (c := c) (n := n) i h0 (by omega) h2
      split
      · exact this
      · split <;> omega
theorem mic_at {p f : Int → Int} {c : Int} : ∀ n : Nat, mic p f c n = c ∨ ∃ i : Int, 0 ≤ i ∧ i < n ∧ p i ≠ 0 ∧ mic p f c n = f i
  | 0 => Or.inl rfl
  | n + 1 => by
    simp only [mic]
    have ih := mic_at (p := p) (f := f) (c := c) n
    by_cases hp : p n = 0
    · rw [if_pos hp]
      rcases ih with h | ⟨i, h0, h1, h2, h3⟩
      · exact Or.inl h
      · exact Or.inr ⟨i, h0, by omega, h2, h3⟩
    · rw [if_neg hp]
      by_cases hf : f n < mic p f c n
      · rw [if_pos hf]; exact Or.inr ⟨n, by omega, by omega, hp, rfl⟩
      · rw [if_neg hf]
        rcases ih with h | ⟨i, h0, h1, h2, h3⟩
        · exact Or.inl h
        · exact Or.inr ⟨i, h0, by omega, h2, h3⟩
theorem stR_c {sh mk rm : Int → Int} {lc : Int} {ri : Int → Int} {l : Int} (h0 : 0 ≤ l) (h1 : l < lc) : ∀ n : Nat, (stR sh mk rm lc ri n l = 0 ∧ ∃ r : Int, 0 ≤ r ∧ r < n ∧ alC sh mk lc r = rm r * 60 ∧ bt (mk l) r ≠ 0) ∨ (stR sh mk rm lc ri n l = ri l ∧ ∀ r : Int, 0 ≤ r → r < n → alC sh mk lc r = rm r * 60 → bt (mk l) r = 0)
  | 0 => Or.inr ⟨rfl, fun r h2 h3 => by omega⟩
  | n + 1 => by
    simp only [stR]
    have ih := stR_c (sh := sh) (mk := mk) (rm := rm) (lc := lc) (ri := ri) h0 h1 n
    by_cases ha : alC sh mk lc n = rm n * 60
    · rw [if_pos ha]
      simp only [upto]
      by_cases hb : bt (mk l) n = 0
      · rw [if_neg (fun z => z.2.2 hb)]
        rcases ih with ⟨a, r, b, c, e⟩ | ⟨a, b⟩
        · exact Or.inl ⟨a, r, b, by omega, e⟩
        · refine Or.inr ⟨a, fun r h2 h3 h4 => ?_⟩
          by_cases e : r = n
          · subst e; exact hb
          · exact b r h2 (by omega) h4
      · rw [if_pos ⟨h0, h1, hb⟩]
        exact Or.inl ⟨rfl, n, by omega, by omega, ha, hb⟩
    · rw [if_neg ha]
      rcases ih with ⟨a, r, b, c, e⟩ | ⟨a, b⟩
      · exact Or.inl ⟨a, r, b, by omega, e⟩
      · refine Or.inr ⟨a, fun r h2 h3 h4 => ?_⟩
        by_cases e : r = n
        · subst e; exact absurd h4 ha
        · exact b r h2 (by omega) h4
/-- who rises on: those that rose, have not their size, and are on no full road -/
theorem stC_c {sh mk sz rm : Int → Int} {lc rc : Int} {ri : Int → Int} {l : Int} (hrc : 0 ≤ rc) (h0 : 0 ≤ l) (h1 : l < lc) : (stC sh mk sz rm lc rc ri l = 0 ∧ (sh l = sz l * 60 ∨ ∃ r : Int, 0 ≤ r ∧ r < rc ∧ alC sh mk lc r = rm r * 60 ∧ bt (mk l) r ≠ 0)) ∨ (stC sh mk sz rm lc rc ri l = ri l ∧ sh l ≠ sz l * 60 ∧ ∀ r : Int, 0 ≤ r → r < rc → alC sh mk lc r = rm r * 60 → bt (mk l) r = 0) := by
  unfold stC
  simp only [upto]
  have h := stR_c (sh := sh) (mk := mk) (rm := rm) (lc := lc) (ri := ri) h0 h1 rc.toNat
  by_cases hs : sh l = sz l * 60
  · rw [if_pos ⟨h0, h1, by rw [if_pos hs]; decide⟩]
    exact Or.inl ⟨rfl, Or.inl hs⟩
  · rw [if_neg (fun z => by have := z.2.2; rw [if_neg hs] at this; exact this rfl)]
    rcases h with ⟨a, r, b, c, e⟩ | ⟨a, b⟩
    · exact Or.inl ⟨a, Or.inr ⟨r, b, by omega, e⟩⟩
    · exact Or.inr ⟨a, hs, fun r h2 h3 => b r h2 (by omega)⟩
/-- what holds between the rounds; hp: how high the rising ones are -/
abbrev Iv (mk sz rm : Int → Int) (lc rc : Int) (x ri : Int → Int) (hp : Int) : Prop :=
  (∀ l, 0 ≤ l → l < lc → ri l = 0 ∨ ri l = 1) ∧
  (∀ l, 0 ≤ l → l < lc → 0 ≤ x l ∧ x l ≤ sz l * 60) ∧
  (∀ l, 0 ≤ l → l < lc → ri l = 1 → x l = hp) ∧
  (0 ≤ hp) ∧
  (∀ r, 0 ≤ r → r < rc → soC x ri mk lc r + riC ri mk lc r * hp ≤ rm r * 60) ∧
  (∃ P k : Int, 0 ≤ k ∧ (1 ≤ P ∧ P ≤ mxP k) ∧ k + sg ri lc ≤ 5 ∧ ∀ l, 0 ≤ l → l < lc → 60 ∣ x l * P)
theorem Iv.z {mk sz rm : Int → Int} {lc rc : Int} {x ri : Int → Int} {hp : Int} (H : Iv mk sz rm lc rc x ri hp) : ∀ l, 0 ≤ l → l < lc → ri l = 0 ∨ ri l = 1 := H.1
theorem Iv.b {mk sz rm : Int → Int} {lc rc : Int} {x ri : Int → Int} {hp : Int} (H : Iv mk sz rm lc rc x ri hp) : ∀ l, 0 ≤ l → l < lc → 0 ≤ x l ∧ x l ≤ sz l * 60 := H.2.1
theorem Iv.p {mk sz rm : Int → Int} {lc rc : Int} {x ri : Int → Int} {hp : Int} (H : Iv mk sz rm lc rc x ri hp) : ∀ l, 0 ≤ l → l < lc → ri l = 1 → x l = hp := H.2.2.1
theorem Iv.h {mk sz rm : Int → Int} {lc rc : Int} {x ri : Int → Int} {hp : Int} (H : Iv mk sz rm lc rc x ri hp) : 0 ≤ hp := H.2.2.2.1
theorem Iv.f {mk sz rm : Int → Int} {lc rc : Int} {x ri : Int → Int} {hp : Int} (H : Iv mk sz rm lc rc x ri hp) : ∀ r, 0 ≤ r → r < rc → soC x ri mk lc r + riC ri mk lc r * hp ≤ rm r * 60 := H.2.2.2.2.1
theorem Iv.e {mk sz rm : Int → Int} {lc rc : Int} {x ri : Int → Int} {hp : Int} (H : Iv mk sz rm lc rc x ri hp) : ∃ P k : Int, 0 ≤ k ∧ (1 ≤ P ∧ P ≤ mxP k) ∧ k + sg ri lc ≤ 5 ∧ ∀ l, 0 ≤ l → l < lc → 60 ∣ x l * P := H.2.2.2.2.2
section IV
variable {mk sz rm : Int → Int} {lc rc : Int} {x ri : Int → Int} {hp : Int}
theorem al_eq (z : ∀ l, 0 ≤ l → l < lc → ri l = 0 ∨ ri l = 1) {hh : Int} (p : ∀ l, 0 ≤ l → l < lc → ri l = 1 → x l = hh) (r : Int) : alC x mk lc r = soC x ri mk lc r + riC ri mk lc r * hh := by
  unfold alC soC riC
  rw [Int.mul_comm]
  refine sg_lin (fun l h0 h1 => ?_)
  have a := z l h0 h1
  have b := p l h0 h1
  by_cases q : ri l = 0
  · rw [if_pos q, if_pos q]; omega
  · rw [if_neg q, if_neg q, b (by omega)]
    split <;> omega
theorem so_up {hh : Int} (r : Int) : soC (upto ri x (fun _ => hh) lc) ri mk lc r = soC x ri mk lc r := by
  unfold soC
  refine sg_congr (fun l h0 h1 => ?_)
  by_cases q : ri l = 0
  · rw [if_pos q, if_pos q]
    have e : upto ri x (fun _ => hh) lc l = x l := by
      simp only [upto]
      rw [if_neg (fun y => y.2.2 q)]
    rw [e]
  · rw [if_neg q, if_neg q]
theorem up_p {hh : Int} : ∀ l, 0 ≤ l → l < lc → ri l = 1 → upto ri x (fun _ => hh) lc l = hh := fun l h0 h1 h2 => by
  simp only [upto]
  rw [if_pos ⟨h0, h1, by omega⟩]
theorem ri_le (z : ∀ l, 0 ≤ l → l < lc → ri l = 0 ∨ ri l = 1) (r : Int) : riC ri mk lc r ≤ sg ri lc := by
  unfold riC
  refine sg_le (fun l h0 h1 => ?_)
  have := z l h0 h1
  by_cases q : ri l = 0
  · rw [if_pos q]; omega
  · rw [if_neg q]; split <;> omega
/-- the rising shares on a road divide what is free there -/
theorem Iv.ex (H : Iv mk sz rm lc rc x ri hp) {r : Int} (hr : 0 < riC ri mk lc r) : riC ri mk lc r ∣ rm r * 60 - soC x ri mk lc r := by
  obtain ⟨P, k, k0, kP, ks, kd⟩ := H.e
  have h1 := ri_le (mk := mk) H.z r
  have h2 := mxP_mul k0 (show 1 ≤ riC ri mk lc r by omega) (by omega) kP
  have h3 := mxP_le (k := k + riC ri mk lc r)
  obtain ⟨q, hq⟩ := dv60 (p := P * riC ri mk lc r) (by omega)
  have d1 : (60 : Int) ∣ sg (fun l => (if ri l = 0 then (if bt (mk l) r = 0 then 0 else x l) else 0) * P) lc := sg_dvd (fun l h0 h1 => by
    split
    · split
      · simp
      · exact kd l h0 h1
    · simp)
  have d2 : sg (fun l => (if ri l = 0 then (if bt (mk l) r = 0 then 0 else x l) else 0) * P) lc = soC x ri mk lc r * P := by
    have := sg_lin (f := fun l => (if ri l = 0 then (if bt (mk l) r = 0 then 0 else x l) else 0) * P) (a := fun _ => 0) (b := fun l => if ri l = 0 then (if bt (mk l) r = 0 then 0 else x l) else 0) (c := P) (n := lc) (fun l _ _ => by rw [Int.mul_comm]; omega)
    have z0 := sg_bd (f := fun _ => (0 : Int)) (lo := 0) (hi := 0) (n := lc)
    have z1 : sg (fun _ => (0 : Int)) lc = 0 := by
      by_cases hn : 0 ≤ lc
      · have := z0 hn (fun _ _ _ => by omega); omega
      · unfold sg; rw [show lc.toNat = 0 by omega]; rfl
    rw [this, z1, Int.mul_comm]
    unfold soC
    omega
  rw [d2] at d1
  have d3 : (60 : Int) ∣ (rm r * 60 - soC x ri mk lc r) * P := by
    rw [Int.sub_mul]
    refine Int.dvd_sub ?_ d1
    exact ⟨rm r * P, by rw [Int.mul_comm (rm r) 60, Int.mul_assoc]⟩
  obtain ⟨w, hw⟩ := d3
  refine ⟨q * w, ?_⟩
  refine Int.eq_of_mul_eq_mul_right (show P ≠ 0 by omega) ?_
  rw [hw, hq]
  rw [Int.mul_assoc (P * riC ri mk lc r) q w, Int.mul_comm P (riC ri mk lc r), Int.mul_assoc (riC ri mk lc r) P, Int.mul_comm P (q * w), ← Int.mul_assoc (riC ri mk lc r)]
/-- the height: how low it is, where it is met -/
theorem Iv.nh (H : Iv mk sz rm lc rc x ri hp) (hsz : ∀ l, 0 ≤ l → l < lc → sz l ≤ 100) (hlc : 0 ≤ lc) {l0 : Int} (a0 : 0 ≤ l0) (a1 : l0 < lc) (a2 : ri l0 = 1) :
    hp ≤ nhC x ri mk sz rm lc rc ∧ (∀ l, 0 ≤ l → l < lc → ri l = 1 → nhC x ri mk sz rm lc rc ≤ sz l * 60) ∧ (∀ r, 0 ≤ r → r < rc → 0 < riC ri mk lc r → riC ri mk lc r * nhC x ri mk sz rm lc rc ≤ rm r * 60 - soC x ri mk lc r) ∧
    ((∃ l, 0 ≤ l ∧ l < lc ∧ ri l = 1 ∧ nhC x ri mk sz rm lc rc = sz l * 60) ∨ ∃ r, 0 ≤ r ∧ r < rc ∧ 0 < riC ri mk lc r ∧ riC ri mk lc r * nhC x ri mk sz rm lc rc = rm r * 60 - soC x ri mk lc r) := by
  have hri : ∀ r, 0 ≤ riC ri mk lc r := fun r => riC_nn hlc
  have hdv : ∀ r, 0 < riC ri mk lc r → riC ri mk lc r * ((rm r * 60 - soC x ri mk lc r) / riC ri mk lc r) = rm r * 60 - soC x ri mk lc r := fun r h => Int.mul_ediv_cancel' (H.ex h)
  have hm1 : ∀ l, 0 ≤ l → l < lc → ri l = 1 → mic ri (fun l => sz l * 60) 6000 lc.toNat ≤ sz l * 60 := fun l b0 b1 b2 => mic_lb (f := fun l => sz l * 60) l b0 (by omega) (by omega)
  have hle : nhC x ri mk sz rm lc rc ≤ mic ri (fun l => sz l * 60) 6000 lc.toNat := mic_le
  have hr1 : ∀ r, 0 ≤ r → r < rc → 0 < riC ri mk lc r → nhC x ri mk sz rm lc rc ≤ (rm r * 60 - soC x ri mk lc r) / riC ri mk lc r := fun r b0 b1 b2 => mic_lb (p := fun r => riC ri mk lc r) (f := fun r => (rm r * 60 - soC x ri mk lc r) / riC ri mk lc r) r b0 (by omega) (by omega)
  have hs0 : mic ri (fun l => sz l * 60) 6000 lc.toNat = 6000 → ∃ l, 0 ≤ l ∧ l < lc ∧ ri l = 1 ∧ (6000 : Int) = sz l * 60 := fun e => by
    have b := hm1 l0 a0 a1 a2
    have c := hsz l0 a0 a1
    exact ⟨l0, a0, a1, a2, by omega⟩
  have att : (∃ l, 0 ≤ l ∧ l < lc ∧ ri l = 1 ∧ nhC x ri mk sz rm lc rc = sz l * 60) ∨ ∃ r, 0 ≤ r ∧ r < rc ∧ 0 < riC ri mk lc r ∧ nhC x ri mk sz rm lc rc = (rm r * 60 - soC x ri mk lc r) / riC ri mk lc r := by
    rcases mic_at (p := fun r => riC ri mk lc r) (f := fun r => (rm r * 60 - soC x ri mk lc r) / riC ri mk lc r) (c := mic ri (fun l => sz l * 60) 6000 lc.toNat) rc.toNat with e | ⟨r, b0, b1, b2, b3⟩
    · left
      rcases mic_at (p := ri) (f := fun l => sz l * 60) (c := 6000) lc.toNat with e2 | ⟨l, b0, b1, b2, b3⟩
      · obtain ⟨l, c0, c1, c2, c3⟩ := hs0 e2
        exact ⟨l, c0, c1, c2, by rw [← c3, ← e2]; exact e⟩
      · have := H.z l b0 (by omega)
        exact ⟨l, b0, by omega, by omega, by rw [← b3]; exact e⟩
    · have := hri r
      exact Or.inr ⟨r, b0, by omega, by omega, b3⟩
  refine ⟨?_, fun l b0 b1 b2 => by have := hm1 l b0 b1 b2; omega, fun r b0 b1 b2 => ?_, ?_⟩
  · rcases att with ⟨l, b0, b1, b2, b3⟩ | ⟨r, b0, b1, b2, b3⟩
    · have c := H.b l b0 b1
      have e := H.p l b0 b1 b2
      omega
    · have c := H.f r b0 b1
      have e := hdv r b2
      rw [b3]
      refine (Int.le_ediv_iff_mul_le b2).mpr ?_
      rw [Int.mul_comm]; omega
  · have c := hr1 r b0 b1 b2
    have e := Int.mul_le_mul_of_nonneg_left c (hri r)
    rw [hdv r b2] at e
    exact e
  · rcases att with h | ⟨r, b0, b1, b2, b3⟩
    · exact Or.inl h
    · exact Or.inr ⟨r, b0, b1, b2, by rw [b3, hdv r b2]⟩
/-- one round -/
theorem Iv.step (H : Iv mk sz rm lc rc x ri hp) (hsz : ∀ l, 0 ≤ l → l < lc → sz l ≤ 100) (hlc : 0 ≤ lc) (hrc : 0 ≤ rc) {l0 : Int} (a0 : 0 ≤ l0) (a1 : l0 < lc) (a2 : ri l0 = 1) :
    Iv mk sz rm lc rc (upto ri x (fun _ => nhC x ri mk sz rm lc rc) lc) (stC (upto ri x (fun _ => nhC x ri mk sz rm lc rc) lc) mk sz rm lc rc ri) (nhC x ri mk sz rm lc rc) ∧ sg (stC (upto ri x (fun _ => nhC x ri mk sz rm lc rc) lc) mk sz rm lc rc ri) lc < sg ri lc := by
  obtain ⟨n1, n2, n3, n4⟩ := H.nh hsz hlc a0 a1 a2
  generalize hh : nhC x ri mk sz rm lc rc = h at *
  have hx : ∀ l, 0 ≤ l → l < lc → (ri l = 0 ∧ upto ri x (fun _ => h) lc l = x l) ∨ (ri l = 1 ∧ upto ri x (fun _ => h) lc l = h) := fun l b0 b1 => by
    simp only [upto]
    rcases H.z l b0 b1 with q | q
    · left; exact ⟨q, if_neg (fun y => y.2.2 q)⟩
    · right; exact ⟨q, if_pos ⟨b0, b1, by omega⟩⟩
  have hal : ∀ r, alC (upto ri x (fun _ => h) lc) mk lc r = soC x ri mk lc r + riC ri mk lc r * h := fun r => by
    rw [al_eq H.z up_p r, so_up]
  generalize hy : upto ri x (fun _ => h) lc = y at *
  have hst : ∀ l, 0 ≤ l → l < lc → _ := fun l b0 b1 => stC_c (sh := y) (mk := mk) (sz := sz) (rm := rm) (ri := ri) hrc b0 b1
  have z' : ∀ l, 0 ≤ l → l < lc → stC y mk sz rm lc rc ri l = 0 ∨ stC y mk sz rm lc rc ri l = 1 := fun l b0 b1 => by
    have := H.z l b0 b1
    rcases hst l b0 b1 with q | q <;> omega
  have p' : ∀ l, 0 ≤ l → l < lc → stC y mk sz rm lc rc ri l = 1 → y l = h := fun l b0 b1 b2 => by
    have := hx l b0 b1
    rcases hst l b0 b1 with q | q <;> omega
  have le' : ∀ l, 0 ≤ l → l < lc → stC y mk sz rm lc rc ri l ≤ ri l := fun l b0 b1 => by
    have := H.z l b0 b1
    rcases hst l b0 b1 with q | q <;> omega
  have hfr : ∀ r, 0 ≤ r → r < rc → soC x ri mk lc r + riC ri mk lc r * h ≤ rm r * 60 := fun r b0 b1 => by
    by_cases q : 0 < riC ri mk lc r
    · have := n3 r b0 b1 q; omega
    · have e : riC ri mk lc r = 0 := by have := riC_nn (ri := ri) (mk := mk) (r := r) hlc; omega
      have := H.f r b0 b1
      rw [e, Int.zero_mul] at *
      exact this
  have lt' : sg (stC y mk sz rm lc rc ri) lc < sg ri lc := by
    rcases n4 with ⟨l, b0, b1, b2, b3⟩ | ⟨r, b0, b1, b2, b3⟩
    · refine sg_lt le' b0 b1 ?_
      have := hx l b0 b1
      rcases hst l b0 b1 with q | q
      · omega
      · exact absurd (by omega : y l = sz l * 60) q.2.1
    · have : ∃ l, 0 ≤ l ∧ l < lc ∧ ri l = 1 ∧ bt (mk l) r ≠ 0 := by
        by_cases q : ∃ l, 0 ≤ l ∧ l < lc ∧ ri l = 1 ∧ bt (mk l) r ≠ 0
        · exact q
        · have e := sg_bd (f := fun l => if ri l = 0 then 0 else if bt (mk l) r = 0 then 0 else 1) (lo := 0) (hi := 0) hlc (fun l c0 c1 => by
            have := H.z l c0 c1
            by_cases c2 : ri l = 0
            · rw [if_pos c2]; omega
            · rw [if_neg c2]
              by_cases c3 : bt (mk l) r = 0
              · rw [if_pos c3]; omega
              · exact absurd ⟨l, c0, c1, by omega, c3⟩ q)
          unfold riC at b2
          omega
      obtain ⟨l, c0, c1, c2, c3⟩ := this
      refine sg_lt le' c0 c1 ?_
      rcases hst l c0 c1 with q | q
      · omega
      · exact absurd (q.2.2 r b0 b1 (by rw [hal r]; omega)) c3
  refine ⟨⟨z', ?_, p', by have := H.h; omega, ?_, ?_⟩, lt'⟩
  · intro l b0 b1
    have a := H.b l b0 b1
    have b := hx l b0 b1
    have c := n2 l b0 b1
    have e := H.h
    omega
  · intro r b0 b1
    rw [← al_eq z' p' r, hal r]
    exact hfr r b0 b1
  · obtain ⟨P, k, k0, kP, ks, kd⟩ := H.e
    rcases n4 with ⟨l, b0, b1, b2, b3⟩ | ⟨r, b0, b1, b2, b3⟩
    · refine ⟨P, k, k0, kP, by omega, fun j c0 c1 => ?_⟩
      rcases hx j c0 c1 with ⟨q1, q2⟩ | ⟨q1, q2⟩
      · rw [q2]; exact kd j c0 c1
      · rw [q2, b3]
        exact ⟨sz l * P, by rw [Int.mul_comm (sz l) 60, Int.mul_assoc]⟩
    · have hle := ri_le (mk := mk) H.z r
      have m1 := mxP_mul k0 (show 1 ≤ riC ri mk lc r by omega) (by omega) kP
      refine ⟨P * riC ri mk lc r, k + riC ri mk lc r, by omega, m1, ?_, fun j c0 c1 => ?_⟩
      · have : sg (stC y mk sz rm lc rc ri) lc + riC ri mk lc r ≤ sg ri lc := by
          have e := sg_lin (f := fun l => stC y mk sz rm lc rc ri l + 1 * (if ri l = 0 then 0 else if bt (mk l) r = 0 then 0 else 1)) (a := stC y mk sz rm lc rc ri) (b := fun l => if ri l = 0 then 0 else if bt (mk l) r = 0 then 0 else 1) (c := 1) (n := lc) (fun _ _ _ => rfl)
          have e2 : sg (fun l => stC y mk sz rm lc rc ri l + 1 * (if ri l = 0 then 0 else if bt (mk l) r = 0 then 0 else 1)) lc ≤ sg ri lc := sg_le (fun l c0 c1 => by
            have a := H.z l c0 c1
            have b := le' l c0 c1
            by_cases q : ri l = 0
            · rw [if_pos q]; omega
            · rw [if_neg q]
              by_cases q2 : bt (mk l) r = 0
              · rw [if_pos q2]; omega
              · rw [if_neg q2]
                rcases hst l c0 c1 with q3 | q3
                · omega
                · exact absurd (q3.2.2 r b0 b1 (by rw [hal r]; omega)) q2)
          unfold riC
          omega
        omega
      · rcases hx j c0 c1 with ⟨q1, q2⟩ | ⟨q1, q2⟩
        · rw [q2, ← Int.mul_assoc]
          obtain ⟨w, hw⟩ := kd j c0 c1
          exact ⟨w * riC ri mk lc r, by rw [hw, Int.mul_assoc]⟩
        · rw [q2, Int.mul_comm P, ← Int.mul_assoc, Int.mul_comm h, b3]
          have d1 : (60 : Int) ∣ sg (fun l => (if ri l = 0 then (if bt (mk l) r = 0 then 0 else x l) else 0) * P) lc := sg_dvd (fun l h0 h1 => by
            split
            · split
              · simp
              · exact kd l h0 h1
            · simp)
          rw [sg_mulr] at d1
          rw [Int.sub_mul]
          refine Int.dvd_sub ?_ d1
          exact ⟨rm r * P, by rw [Int.mul_comm (rm r) 60, Int.mul_assoc]⟩
end IV
theorem rn_steady {mk sz rm : Int → Int} {lc rc : Int} {s0 : (Int → Int) × (Int → Int)} {k : Nat} (hrc : 0 ≤ rc) (h : ∀ l, 0 ≤ l → l < lc → (rnC mk sz rm lc rc s0 k).2 l = 0) : rnC mk sz rm lc rc s0 (k + 1) = rnC mk sz rm lc rc s0 k := by
  simp only [rnC]
  generalize rnC mk sz rm lc rc s0 k = s at *
  obtain ⟨x, ri⟩ := s
  simp only at h ⊢
  have e1 : ∀ hh : Int, upto ri x (fun _ => hh) lc = x := fun hh => by
    funext l
    simp only [upto]
    rw [if_neg (fun y => y.2.2 (h l y.1 y.2.1))]
  rw [e1]
  have e2 : stC x mk sz rm lc rc ri = ri := by
    funext l
    by_cases q : 0 ≤ l ∧ l < lc
    · rcases stC_c (sh := x) (mk := mk) (sz := sz) (rm := rm) (ri := ri) hrc q.1 q.2 with w | w
      · rw [w.1, h l q.1 q.2]
      · exact w.1
    · unfold stC
      rw [upto_at q]
      have key : ∀ n : Nat, stR x mk rm lc ri n l = ri l := by
        intro n
        induction n with
        | zero => rfl
        | succ n ih =>
          simp only [stR]
          split
          · rw [upto_at q]; exact ih
          · exact ih
      exact key _
  rw [e2]
theorem rn_late {mk sz rm : Int → Int} {lc rc : Int} {s0 : (Int → Int) × (Int → Int)} {k : Nat} (hrc : 0 ≤ rc) (h : ∀ l, 0 ≤ l → l < lc → (rnC mk sz rm lc rc s0 k).2 l = 0) : ∀ j : Nat, rnC mk sz rm lc rc s0 (k + j) = rnC mk sz rm lc rc s0 k := by
  intro j
  induction j with
  | zero => rfl
  | succ j ih =>
    rw [← Nat.add_assoc, rn_steady hrc (by rw [ih]; exact h), ih]
theorem sg_ex {f : Int → Int} {n : Int} (hn : 0 ≤ n) (z : ∀ l, 0 ≤ l → l < n → f l = 0 ∨ f l = 1) : (sg f n = 0 ∧ ∀ l, 0 ≤ l → l < n → f l = 0) ∨ (0 < sg f n ∧ ∃ l, 0 ≤ l ∧ l < n ∧ f l = 1) := by
  by_cases q : ∃ l, 0 ≤ l ∧ l < n ∧ f l = 1
  · obtain ⟨l, h0, h1, h2⟩ := q
    right
    have a := sg_lt (f := fun _ => 0) (a := f) (n := n) (i := l) (fun i c0 c1 => by have := z i c0 c1; omega) h0 h1 (by omega)
    have b := sg_bd (f := fun _ => (0 : Int)) (lo := 0) (hi := 0) hn (fun _ _ _ => by omega)
    exact ⟨by omega, l, h0, h1, h2⟩
  · left
    have h : ∀ l, 0 ≤ l → l < n → f l = 0 := fun l h0 h1 => by
      rcases z l h0 h1 with w | w
      · exact w
      · exact absurd ⟨l, h0, h1, w⟩ q
    have b := sg_bd (f := f) (lo := 0) (hi := 0) hn (fun l h0 h1 => by have := h l h0 h1; omega)
    exact ⟨by omega, h⟩
theorem Iv.init {mk sz rm : Int → Int} {lc rc : Int} {a b rs : Int → Int} (hlc : 0 ≤ lc ∧ lc ≤ 5) (hrs : ∀ l, rs l = 0 ∨ rs l = 1) (hsz : ∀ l, 0 ≤ l → l < lc → 0 ≤ sz l) (hrm : ∀ r, 0 ≤ r → r < rc → 0 ≤ rm r) : Iv mk sz rm lc rc (ini a (fun _ => 0) lc) (ini b rs lc) 0 := by
  have ex : ∀ l, 0 ≤ l → l < lc → ini a (fun _ => 0) lc l = 0 := fun l h0 h1 => if_pos ⟨h0, h1⟩
  have er : ∀ l, 0 ≤ l → l < lc → ini b rs lc l = rs l := fun l h0 h1 => if_pos ⟨h0, h1⟩
  refine ⟨fun l h0 h1 => by rw [er l h0 h1]; exact hrs l, fun l h0 h1 => by rw [ex l h0 h1]; have := hsz l h0 h1; omega, fun l h0 h1 _ => ex l h0 h1, by omega, fun r h0 h1 => ?_, 1, 0, by omega, by decide, ?_, fun l h0 h1 => by rw [ex l h0 h1]; simp⟩
  · have e := sg_bd (f := fun l => if ini b rs lc l = 0 then (if bt (mk l) r = 0 then 0 else ini a (fun _ => 0) lc l) else 0) (lo := 0) (hi := 0) hlc.1 (fun l c0 c1 => by
      rw [ex l c0 c1]; split <;> (try split) <;> omega)
    have := hrm r h0 h1
    unfold soC
    omega
  · have e := sg_bd (f := ini b rs lc) (lo := 0) (hi := 1) hlc.1 (fun l c0 c1 => by rw [er l c0 c1]; have := hrs l; omega)
    omega
theorem rn_iv {mk sz rm : Int → Int} {lc rc : Int} {s0 : (Int → Int) × (Int → Int)} {h0 : Int} (H : Iv mk sz rm lc rc s0.1 s0.2 h0) (hsz : ∀ l, 0 ≤ l → l < lc → sz l ≤ 100) (hlc : 0 ≤ lc) (hrc : 0 ≤ rc) : ∀ k : Nat, (∃ hp, Iv mk sz rm lc rc (rnC mk sz rm lc rc s0 k).1 (rnC mk sz rm lc rc s0 k).2 hp) ∧ (sg (rnC mk sz rm lc rc s0 k).2 lc = 0 ∨ sg (rnC mk sz rm lc rc s0 k).2 lc + k ≤ sg s0.2 lc) := by
  intro k
  induction k with
  | zero => exact ⟨⟨h0, H⟩, Or.inr (by show sg s0.2 lc + 0 ≤ _; omega)⟩
  | succ k ih =>
    obtain ⟨⟨hp, I⟩, hs⟩ := ih
    rcases sg_ex hlc I.z with ⟨q1, q2⟩ | ⟨q1, l, a0, a1, a2⟩
    · rw [rn_steady hrc q2]
      exact ⟨⟨hp, I⟩, Or.inl q1⟩
    · have st := I.step hsz hlc hrc a0 a1 a2
      refine ⟨⟨_, st.1⟩, Or.inr ?_⟩
      have := st.2
      show sg (stC _ mk sz rm lc rc _) lc + ((k + 1 : Nat) : Int) ≤ _
      omega
/-- behind lc rounds none rises -/
theorem rn_end {mk sz rm : Int → Int} {lc rc : Int} {s0 : (Int → Int) × (Int → Int)} {h0 : Int} (H : Iv mk sz rm lc rc s0.1 s0.2 h0) (hsz : ∀ l, 0 ≤ l → l < lc → sz l ≤ 100) (hlc : 0 ≤ lc) (hrc : 0 ≤ rc) : ∀ l, 0 ≤ l → l < lc → (rnC mk sz rm lc rc s0 lc.toNat).2 l = 0 := by
  obtain ⟨⟨hp, I⟩, hs⟩ := rn_iv H hsz hlc hrc lc.toNat
  have b := sg_bd (f := s0.2) (lo := 0) (hi := 1) hlc (fun l c0 c1 => by have := H.z l c0 c1; omega)
  rcases sg_ex hlc I.z with ⟨q1, q2⟩ | ⟨q1, _⟩
  · exact q2
  · rcases hs with q | q <;> omega
theorem lw_min {x n : Int} (hn : 0 < n) (h : x * n % 60 = 0) : lw x ≤ n := by
  have h1 : (x * n / 60) * 60 = x * n := by omega
  have h2 := (fr_red hn h1).2
  have g1 : 0 < Int.gcd (x * n / 60) n := Int.gcd_pos_of_ne_zero_right _ (by omega)
  rw [← h2]
  exact Int.ediv_le_self _ (by omega)
theorem lw_ok (x : Int) : x * lw x % 60 = 0 := by
  have := tp_lw x
  omega
theorem blw_lw {x : Int} : ∀ n : Nat, n ≤ 59 → 60 - (n : Int) ≤ lw x → blw x n = lw x
  | 0, _, h => by
    have := lw_bd x
    simp only [blw]
    omega
  | k + 1, hk, h => by
    simp only [blw]
    by_cases q : x * (59 - k) % 60 = 0
    · rw [if_pos q]
      have := lw_min (show (0 : Int) < 59 - k by omega) q
      omega
    · rw [if_neg q]
      refine blw_lw k (by omega) ?_
      by_cases e : lw x = 59 - k
      · rw [← e] at q; exact absurd (lw_ok x) q
      · omega
theorem blw_59 (x : Int) : blw x 59 = lw x := blw_lw 59 (by omega) (by have := lw_bd x; omega)
theorem abv (x : Int) : x * blw x 59 / 60 = tp x := by
  rw [blw_59, ← tp_lw]
  omega
theorem lc_ge {a b : Int} : (0 ≤ (if b < a then (1 : Int) else if a = b then 0 else -1)) ↔ b ≤ a := by split <;> (try split) <;> omega
theorem lc_lt {a b : Int} : ((if b < a then (1 : Int) else if a = b then 0 else -1) < 0) ↔ a < b := by split <;> (try split) <;> omega
theorem lc_eq {a b : Int} : ((if b < a then (1 : Int) else if a = b then 0 else -1) = 0) ↔ a = b := by split <;> (try split) <;> omega
theorem lc_ne {a b : Int} : ((if b < a then (1 : Int) else if a = b then 0 else -1) ≠ 0) ↔ a ≠ b := by split <;> (try split) <;> omega
/-- the way of a load that its share goes on; -1: none -/
def chS (kd hd wm am : Int → Int) (l : Int) : Int := if kd l = 2 then (if 0 ≤ hd l ∧ hd l < wm l then hd l else -1) else if 0 ≤ fpt (fun i => am (8 * l + i)) (wm l).toNat then fpt (fun i => am (8 * l + i)) (wm l).toNat else if 0 < wm l then 0 else -1
/-- with other numbers top, low -/
def m0 (M : Mem) (a b : Int) : Mem := mset M 0 (fset (fset (M 0) 31 a) 32 b)
theorem m0_p31 (M : Mem) (a b c : Int) : mset (m0 M a b) 0 (fset (m0 M a b 0) 31 c) = m0 M c b := by
  unfold m0
  rw [mset_s, mset_mset]
  congr 1
  funext j
  simp only [fset]
  by_cases h : j = 31
  · rw [if_pos h, if_neg (by omega), if_pos h]
  · rw [if_neg h, if_neg h, if_neg h]
theorem m0_p32 (M : Mem) (a b c : Int) : mset (m0 M a b) 0 (fset (m0 M a b 0) 32 c) = m0 M a c := by
  unfold m0
  rw [mset_s, mset_mset, fset_fset]
theorem m0_31 (M : Mem) (a b : Int) : m0 M a b 0 31 = a := by
  show fset (fset (M 0) 31 a) 32 b 31 = a
  rw [fset_n (by decide), fset_s]
theorem m0_32 (M : Mem) (a b : Int) : m0 M a b 0 32 = b := by
  show fset (fset (M 0) 31 a) 32 b 32 = b
  rw [fset_s]
theorem m0_0 (M : Mem) (a b : Int) : m0 M a b 0 0 = M 0 0 := rfl
theorem m0_1 (M : Mem) (a b : Int) : m0 M a b 0 1 = M 0 1 := rfl
theorem m0_6 (M : Mem) (a b : Int) : m0 M a b 0 6 = M 0 6 := rfl
theorem m0_n {M : Mem} {a b : Int} {k : Nat} (h : ¬ k = 0) : m0 M a b k = M k := by unfold m0; rw [mset_n h]
theorem m0_i (M : Mem) (a b : Int) : mset (mset M 0 (fset (M 0) 31 a)) 0 (fset (mset M 0 (fset (M 0) 31 a) 0) 32 b) = m0 M a b := by
  unfold m0
  rw [mset_s, mset_mset]
theorem m0_m0 (M : Mem) (a b c e : Int) : m0 (m0 M a b) c e = m0 M c e := by
  rw [← m0_i (m0 M a b), m0_p31]
  exact m0_p32 M c b e
/-- the reference's shares: x sixtieths; mk: whose way goes over which road -/
abbrev SR (M : Mem) (x mk : Int → Int) : Prop :=
  (∀ l, 0 ≤ l → l < M 0 6 → M 24 l = 0 ∨ M 24 l = 1) ∧
  (∀ l, 0 ≤ l → l < M 0 6 → M 26 l = tp (x l)) ∧
  (∀ l, 0 ≤ l → l < M 0 6 → M 27 l = lw (x l)) ∧
  (∀ l, 0 ≤ l → l < M 0 6 → 0 ≤ x l ∧ x l ≤ 6000) ∧
  (∀ l, 0 ≤ l → l < M 0 6 → -1 ≤ M 25 l ∧ M 25 l < M 11 l) ∧
  (∀ l, 0 ≤ l → l < M 0 6 → M 24 l = 1 → 0 ≤ M 25 l) ∧
  (∀ l, 0 ≤ l → l < M 0 6 → ∀ r, 0 ≤ r → r < M 0 1 → ((0 ≤ M 25 l ∧ hsM (M 12) (M 13) (8 * l + M 25 l) r ≠ 0) ↔ bt (mk l) r ≠ 0))
theorem SR.z {M : Mem} {x mk : Int → Int} (H : SR M x mk) : ∀ l, 0 ≤ l → l < M 0 6 → M 24 l = 0 ∨ M 24 l = 1 := H.1
theorem SR.t {M : Mem} {x mk : Int → Int} (H : SR M x mk) : ∀ l, 0 ≤ l → l < M 0 6 → M 26 l = tp (x l) := H.2.1
theorem SR.w {M : Mem} {x mk : Int → Int} (H : SR M x mk) : ∀ l, 0 ≤ l → l < M 0 6 → M 27 l = lw (x l) := H.2.2.1
theorem SR.b {M : Mem} {x mk : Int → Int} (H : SR M x mk) : ∀ l, 0 ≤ l → l < M 0 6 → 0 ≤ x l ∧ x l ≤ 6000 := H.2.2.2.1
theorem SR.a {M : Mem} {x mk : Int → Int} (H : SR M x mk) : ∀ l, 0 ≤ l → l < M 0 6 → -1 ≤ M 25 l ∧ M 25 l < M 11 l := H.2.2.2.2.1
theorem SR.r {M : Mem} {x mk : Int → Int} (H : SR M x mk) : ∀ l, 0 ≤ l → l < M 0 6 → M 24 l = 1 → 0 ≤ M 25 l := H.2.2.2.2.2.1
theorem SR.o {M : Mem} {x mk : Int → Int} (H : SR M x mk) : ∀ l, 0 ≤ l → l < M 0 6 → ∀ r, 0 ≤ r → r < M 0 1 → ((0 ≤ M 25 l ∧ hsM (M 12) (M 13) (8 * l + M 25 l) r ≠ 0) ↔ bt (mk l) r ≠ 0) := H.2.2.2.2.2.2
theorem so_mono {x ri mk : Int → Int} {n r i : Int} (h0 : 0 ≤ i) (h1 : i ≤ n) (hx : ∀ l, 0 ≤ l → l < n → 0 ≤ x l) : soC x ri mk i r ≤ soC x ri mk n r ∧ 0 ≤ soC x ri mk i r := by
  have key : ∀ k : Nat, i + k ≤ n → soC x ri mk i r ≤ soC x ri mk (i + k) r := by
    intro k
    induction k with
    | zero => intro _; rw [show i + ((0 : Nat) : Int) = i by omega]; exact Int.le_refl _
    | succ k ih =>
      intro hk
      have a := ih (by omega)
      have b := hx (i + k) (by omega) (by omega)
      have e : soC x ri mk (i + k + 1) r = soC x ri mk (i + k) r + _ := sg_1 (by omega)
      rw [show i + ((k + 1 : Nat) : Int) = i + k + 1 by omega, e]
      split <;> (try split) <;> omega
  refine ⟨by have := key (n - i).toNat (by omega); rw [show i + ((n - i).toNat : Int) = n by omega] at this; exact this, ?_⟩
  have k2 := sg_le (f := fun _ => 0) (a := fun l => if ri l = 0 then (if bt (mk l) r = 0 then 0 else x l) else 0) (n := i) (fun l c0 c1 => by
    have := hx l c0 (by omega)
    split <;> (try split) <;> omega)
  have k3 := sg_bd (f := fun _ => (0 : Int)) (lo := 0) (hi := 0) h0 (fun _ _ _ => by omega)
  unfold soC
  omega
theorem sh_step {y x : Int} (hy : 0 ≤ y ∧ y ≤ 6000) (hx : 0 ≤ x ∧ x ≤ y) : (tp y * lw x - tp x * lw y) * 60 = (y - x) * (lw y * lw x) ∧ 0 < lw y * lw x ∧ lw y * lw x ≤ 3600 ∧ 0 ≤ tp y * lw x - tp x * lw y ∧ tp y * lw x - tp x * lw y ≤ 360000 := by
  have a1 := tp_lw y
  have a2 := tp_lw x
  have b1 := lw_bd y
  have b2 := lw_bd x
  have e : (tp y * lw x - tp x * lw y) * 60 = (y - x) * (lw y * lw x) := by
    have c1 : tp y * lw x * 60 = y * (lw y * lw x) := by
      calc tp y * lw x * 60 = tp y * 60 * lw x := by rw [Int.mul_assoc, Int.mul_comm (lw x), ← Int.mul_assoc]
        _ = y * (lw y * lw x) := by rw [a1, Int.mul_assoc]
    have c2 : tp x * lw y * 60 = x * (lw y * lw x) := by
      calc tp x * lw y * 60 = tp x * 60 * lw y := by rw [Int.mul_assoc, Int.mul_comm (lw y), ← Int.mul_assoc]
        _ = x * (lw y * lw x) := by rw [a2, Int.mul_assoc, Int.mul_comm (lw x)]
    rw [Int.sub_mul, Int.sub_mul, c1, c2]
  have p1 : 0 < lw y * lw x := Int.mul_pos (by omega) (by omega)
  have p2 : lw y * lw x ≤ 60 * 60 := Int.mul_le_mul b1.2 b2.2 (by omega) (by omega)
  have p3 : 0 ≤ (y - x) * (lw y * lw x) := Int.mul_nonneg (by omega) (by omega)
  have p4 : (y - x) * (lw y * lw x) ≤ 6000 * 3600 := Int.mul_le_mul (by omega) (by omega) (by omega) (by omega)
  exact ⟨e, p1, by omega, by omega, by omega⟩
section RL
variable {g : Gt} {M : Mem}
theorem sX8_common (d : Nat) (a b : Int) (ha : 0 ≤ a ∧ a ≤ 4611686018427387904) (hb : 0 ≤ b ∧ b ≤ 4611686018427387904) : Ex LyM g d mX8_common [vl a, vl b] M (PL (Int.gcd a b : Int) M) := by
  refine Ex.of (lv0 := [some (vl a), none, some (vl b), none, none, none, none, none, none, none]) (by decide +kernel) ?_ (fun ad => ⟨Nat.le_of_ble_eq_true rfl, fun j w h => ?_⟩)
  rotate_left
  · match j, h with
    | 0, h => cases h; exact List.Mem.head _
    | 1, h => cases h
    | 2, h => cases h; exact List.Mem.tail _ (List.Mem.head _)
    | 3, h => cases h
    | 4, h => cases h
    | 5, h => cases h
    | 6, h => cases h
    | 7, h => cases h
    | 8, h => cases h
    | 9, h => cases h
    | j + 10, h => cases h
  have L : ∀ (n9 : Nat) (x y : Int) (w8 : Option MV), (0 ≤ x ∧ x ≤ 4611686018427387904) → (0 ≤ y ∧ y ≤ 4611686018427387904) → (Int.gcd x y = Int.gcd a b) → y < n9 → R LyM g mX8_common (d) 17 [some (vl a), none, some (vl b), none, some (vl x), none, some (vl y), none, w8, none] [] M (PL (Int.gcd a b : Int) M) := by
    intro n9
    induction n9 with
    | zero =>
      intro x y w8 hx hy hg hm9
      omega
    | succ n9 ih =>
      intro x y w8 hx hy hg hm9
      refine r_lld iX8_common_17 rfl ?_
      refine r_lcon (z := 0) iX8_common_19 rfl ?_
      refine r_lcmp iX8_common_20 (by omega) ?_
      refine r_ifeq iX8_common_21 (by split <;> (try split) <;> omega) (fun h21 => ?_) (fun h21 => ?_)
      · rw [lc_eq] at h21
        refine r_lld iX8_common_42 rfl ?_
        refine r_lret iX8_common_44 rfl ?_
        rw [h21, Int.gcd_zero_right] at hg
        exact ⟨by rw [← hg, Int.natAbs_of_nonneg hx.1], rfl⟩
      · rw [lc_ne] at h21
        have hm1 := Int.emod_nonneg x (show y ≠ 0 from h21)
        have hm2 := Int.emod_lt_of_pos x (show 0 < y by omega)
        refine r_lld iX8_common_24 rfl ?_
        refine r_lld iX8_common_26 rfl ?_
        refine r_lrem iX8_common_28 (by omega) (by omega) ?_
        refine r_lst iX8_common_29 (by decide) rfl ?_
        refine r_lld iX8_common_31 rfl ?_
        refine r_lst iX8_common_33 (by decide) rfl ?_
        refine r_lld iX8_common_35 rfl ?_
        refine r_lst iX8_common_37 (by decide) rfl ?_
        refine r_goto iX8_common_39 ?_
        exact ih y (x % y) _ (by omega) (by omega) (by rw [gcd_step hx.1 (by omega)]; exact hg) (by omega)
  refine r_lldn iX8_common_0 rfl ?_
  refine r_lcon (z := 0) iX8_common_1 rfl ?_
  refine r_lcmp iX8_common_2 (by omega) ?_
  refine r_ifge iX8_common_3 (by split <;> (try split) <;> omega) (fun h3 => ?_) (fun h3 => ?_)
  · rw [lc_ge] at h3
    refine r_lldn iX8_common_11 rfl ?_
    refine r_lst iX8_common_12 (by decide) rfl ?_
    refine r_lldn iX8_common_14 rfl ?_
    refine r_lst iX8_common_15 (by decide) rfl ?_
    exact L (b.toNat + 1) a b _ ha hb rfl (by omega)
  · rw [lc_lt] at h3
    refine r_lldn iX8_common_6 rfl ?_
    refine r_lneg iX8_common_7 ?_
    refine r_goto iX8_common_8 ?_
    refine r_lst iX8_common_12 (by decide) rfl ?_
    refine r_lldn iX8_common_14 rfl ?_
    refine r_lst iX8_common_15 (by decide) rfl ?_
    exfalso; omega
theorem sX8_choose (d : Nat) (l : Int) (h : 0 ≤ l ∧ l < M 0 6) (hH : 0 ≤ M 9 l ∧ M 9 l ≤ 7) (hW : WBm M) (hA : AVm M) (hN : NBm M) : Ex LyM g (d + 1) mX8_choose [vr 0, vi l] M (PI (chS (M 5) (M 9) (M 11) (M 10) l) M) := by
  refine Ex.in [some (vr 0), some (vi l), none] (by decide +kernel) rfl (Nat.le_of_ble_eq_true rfl) ?_ rfl
  obtain ⟨hp0, hr, hl, hR, hL⟩ := id hN
  have hll := hL l h.1 h.2
  have hwl := hW l h.1 h.2
  have L : ∀ (n9 : Nat) (i : Int), (0 ≤ i) → (i ≤ M 11 l) → (M 5 l ≠ 2) → (∀ j : Int, 0 ≤ j → j < i → (fun i => M 10 (8 * l + i)) j = 0) → M 11 l - i < n9 → R LyM g mX8_choose (d + 1) 37 [some (vr 0), some (vi l), some (vi i)] [] M (PI (chS (M 5) (M 9) (M 11) (M 10) l) M) := by
    intro n9
    induction n9 with
    | zero =>
      intro i h0 h1 hk hq hm9
      omega
    | succ n9 ih =>
      intro i h0 h1 hk hq hm9
      refine r_ldn iX8_choose_37 rfl ?_
      refine r_aldn iX8_choose_38 rfl ?_
      refine r_getr iX8_choose_39 flX8_44 rfl rfl ?_
      refine r_ldn iX8_choose_42 rfl ?_
      refine r_ial iX8_choose_43 rfl (by omega) ?_
      refine r_cge iX8_choose_44 (by omega) (fun h44 => ?_) (fun h44 => ?_)
      · refine r_aldn iX8_choose_69 rfl ?_
        refine r_getr iX8_choose_70 flX8_44 rfl rfl ?_
        refine r_ldn iX8_choose_73 rfl ?_
        refine r_ial iX8_choose_74 rfl (by omega) ?_
        refine r_ifle iX8_choose_75 (by omega) (fun h75 => ?_) (fun h75 => ?_)
        · refine r_con iX8_choose_82 ?_
          refine r_iret iX8_choose_83 rfl ?_
          have e1 : fpt (fun i => M 10 (8 * l + i)) (M 11 l).toNat = -1 := fpt_no (f := (fun i => M 10 (8 * l + i))) (fun j j0 j1 => hq j j0 (by omega))
          exact ⟨by unfold chS; rw [if_neg hk, e1, if_neg (by decide), if_neg (by omega)], rfl⟩
        · refine r_con iX8_choose_78 ?_
          refine r_goto iX8_choose_79 ?_
          refine r_iret iX8_choose_83 rfl ?_
          have e1 : fpt (fun i => M 10 (8 * l + i)) (M 11 l).toNat = -1 := fpt_no (f := (fun i => M 10 (8 * l + i))) (fun j j0 j1 => hq j j0 (by omega))
          exact ⟨by unfold chS; rw [if_neg hk, e1, if_neg (by decide), if_pos h75], rfl⟩
      · have hai := hA l h.1 h.2 i h0 (by omega)
        refine r_aldn iX8_choose_47 rfl ?_
        refine r_getr iX8_choose_48 flX8_41 rfl rfl ?_
        refine r_bip iX8_choose_51 (by decide) ?_
        refine r_ldn iX8_choose_53 rfl ?_
        refine r_mul iX8_choose_54 ?_
        refine r_ldn iX8_choose_55 rfl ?_
        refine r_add iX8_choose_56 ?_
        refine r_ial iX8_choose_57 rfl (by omega) ?_
        refine r_ifle iX8_choose_58 (by omega) (fun h58 => ?_) (fun h58 => ?_)
        · refine r_inc iX8_choose_63 rfl (by decide) rfl ?_
          refine r_goto iX8_choose_66 ?_
          exact ih (i + 1) (by omega) (by omega) hk (fun j j0 j1 => by by_cases e : j = i; subst e; show M 10 (8 * l + j) = 0; omega; exact hq j j0 (by omega)) (by omega)
        · refine r_ldn iX8_choose_61 rfl ?_
          refine r_iret iX8_choose_62 rfl ?_
          have e1 : fpt (fun i => M 10 (8 * l + i)) (M 11 l).toNat = i := fpt_at (f := (fun i => M 10 (8 * l + i))) h0 hq (by show M 10 (8 * l + i) ≠ 0; omega) (by omega)
          exact ⟨by unfold chS; rw [if_neg hk, e1, if_pos h0], rfl⟩
  refine r_aldn iX8_choose_0 rfl ?_
  refine r_getr iX8_choose_1 flX8_26 rfl rfl ?_
  refine r_ldn iX8_choose_4 rfl ?_
  refine r_ial iX8_choose_5 rfl (by omega) ?_
  refine r_con iX8_choose_6 ?_
  refine r_cne iX8_choose_7 (by omega) (fun h7 => ?_) (fun h7 => ?_)
  · refine r_con iX8_choose_35 ?_
    refine r_stn iX8_choose_36 (by decide) rfl ?_
    exact L 9 0 (by omega) (by omega) h7 (fun j j0 j1 => by omega) (by omega)
  · refine r_aldn iX8_choose_10 rfl ?_
    refine r_ldn iX8_choose_11 rfl ?_
    refine r_aldn iX8_choose_12 rfl ?_
    refine r_getr iX8_choose_13 flX8_38 rfl rfl ?_
    refine r_ldn iX8_choose_16 rfl ?_
    refine r_ial iX8_choose_17 rfl (by omega) ?_
    refine call_V2i iX8_choose_18 clX8_145 myX8_isWay rfl rfl rfl rfl (sX8_isWay _ _ _ (by omega) (by omega) hwl.1) ?_
    refine r_ifeq iX8_choose_21 (by split <;> omega) (fun h21 => ?_) (fun h21 => ?_)
    · rw [ite10] at h21
      refine r_con iX8_choose_33 ?_
      refine r_iret iX8_choose_34 rfl ?_
      exact ⟨by unfold chS; rw [if_pos h7, if_neg h21], rfl⟩
    · rw [ne_eq, ite10n] at h21
      refine r_aldn iX8_choose_24 rfl ?_
      refine r_getr iX8_choose_25 flX8_38 rfl rfl ?_
      refine r_ldn iX8_choose_28 rfl ?_
      refine r_ial iX8_choose_29 rfl (by omega) ?_
      refine r_goto iX8_choose_30 ?_
      refine r_iret iX8_choose_34 rfl ?_
      exact ⟨by unfold chS; rw [if_pos h7, if_pos h21], rfl⟩
end RL
