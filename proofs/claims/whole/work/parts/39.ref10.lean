/-! the first of the cheapest choices -/
def rk (v : Int → Int) : Nat → Int
  | 0 => 0
  | k + 1 => 8 * rk v k + v k
theorem rk_congr {v w : Int → Int} : ∀ {n : Nat}, (∀ j : Int, 0 ≤ j → j < n → v j = w j) → rk v n = rk w n
  | 0, _ => rfl
  | n + 1, h => by
    simp only [rk]
    rw [rk_congr (n := n) (fun j h0 h1 => h j h0 (by omega)), h n (by omega) (by omega)]
theorem rk_mono {v w : Int → Int} : ∀ {n : Nat}, (∀ j : Int, 0 ≤ j → j < n → v j ≤ w j) → rk v n ≤ rk w n
  | 0, _ => by simp [rk]
  | n + 1, h => by
    simp only [rk]
    have h1 := rk_mono (n := n) (fun j h0 h1 => h j h0 (by omega))
    have h2 := h n (by omega) (by omega)
    omega
theorem rk_bd {v : Int → Int} : ∀ {n : Nat}, (∀ j : Int, 0 ≤ j → j < n → 0 ≤ v j ∧ v j ≤ 7) → 0 ≤ rk v n ∧ rk v n < 8 ^ n
  | 0, _ => by simp [rk]
  | n + 1, h => by
    simp only [rk, Int.pow_succ]
    have h1 := rk_bd (n := n) (fun j h0 h1 => h j h0 (by omega))
    have h2 := h n (by omega) (by omega)
    omega
theorem rk_app (v : Int → Int) (m : Nat) : ∀ k : Nat, rk v (m + k) = rk v m * 8 ^ k + rk (fun j => v (m + j)) k
  | 0 => by simp [rk]
  | k + 1 => by
    rw [← Nat.add_assoc]
    have e : rk v m * 8 ^ (k + 1) = 8 * (rk v m * 8 ^ k) := by rw [Int.pow_succ, ← Int.mul_assoc, Int.mul_comm]
    simp only [rk]
    rw [rk_app v m k, e, show ((m + k : Nat) : Int) = (m : Int) + k by omega]
    omega
theorem rk_inj {v w : Int → Int} : ∀ {n : Nat}, (∀ j : Int, 0 ≤ j → j < n → 0 ≤ v j ∧ v j ≤ 7) → (∀ j : Int, 0 ≤ j → j < n → 0 ≤ w j ∧ w j ≤ 7) → rk v n = rk w n → ∀ j : Int, 0 ≤ j → j < n → v j = w j
  | 0, _, _, _ => fun j h0 h1 => by omega
  | n + 1, hv, hw, e => by
    simp only [rk] at e
    have h1 := hv n (by omega) (by omega)
    have h2 := hw n (by omega) (by omega)
    intro j h0 h3
    by_cases q : j = n
    · subst q; omega
    · exact rk_inj (n := n) (fun j h0 h1 => hv j h0 (by omega)) (fun j h0 h1 => hw j h0 (by omega)) (by omega) j h0 (by omega)
/-- v is a choice: each of the first n within its bounds -/
def Bx (n : Nat) (fs ls v : Int → Int) : Prop := ∀ j : Int, 0 ≤ j → j < n → fs j ≤ v j ∧ v j ≤ ls j
theorem Bx.dg {n : Nat} {fs ls v : Int → Int} (hb : ∀ j : Int, 0 ≤ j → j < n → 0 ≤ fs j ∧ ls j ≤ 7) (h : Bx n fs ls v) : ∀ j : Int, 0 ≤ j → j < n → 0 ≤ v j ∧ v j ≤ 7 := fun j h0 h1 => by
  have a := hb j h0 h1
  have b := h j h0 h1
  omega
/-- among the choices below t none is good -/
def BsN (n : Nat) (fs ls : Int → Int) (fe : (Int → Int) → Prop) (t : Int) : Prop := ∀ v, Bx n fs ls v → rk v n < t → ¬ fe v
/-- b is the first of the cheapest good choices below t, and costs c -/
def BsS (n : Nat) (fs ls : Int → Int) (co : (Int → Int) → Int) (fe : (Int → Int) → Prop) (t c : Int) (b : Int → Int) : Prop :=
  Bx n fs ls b ∧ rk b n < t ∧ fe b ∧ c = co b ∧ ∀ v, Bx n fs ls v → rk v n < t → fe v → c < co v ∨ (c = co v ∧ rk b n ≤ rk v n)
section BS
variable {n : Nat} {fs ls : Int → Int} {co : (Int → Int) → Int} {fe : (Int → Int) → Prop} {t t' c c' : Int} {b b' v : Int → Int}
theorem BsN.grow (h : BsN n fs ls fe t) (e : ∀ v, Bx n fs ls v → rk v n < t' → t ≤ rk v n → ¬ fe v) : BsN n fs ls fe t' := fun v h1 h2 h3 => by
  by_cases q : rk v n < t
  · exact h v h1 q h3
  · exact e v h1 h2 (by omega) h3
theorem BsS.grow (h : BsS n fs ls co fe t c b) (ht : t ≤ t') (e : ∀ v, Bx n fs ls v → rk v n < t' → t ≤ rk v n → fe v → c ≤ co v) : BsS n fs ls co fe t' c b := by
  obtain ⟨h1, h2, h3, h4, h5⟩ := h
  refine ⟨h1, by omega, h3, h4, fun v k1 k2 k3 => ?_⟩
  by_cases q : rk v n < t
  · exact h5 v k1 q k3
  · have := e v k1 k2 (by omega) k3
    omega
/-- a cheaper one is found at v, the only one from t on below t' that counts -/
theorem BsS.new (hv : Bx n fs ls v) (h2 : rk v n < t') (h3 : fe v) (hl : ∀ u, Bx n fs ls u → rk u n < t' → fe u → co v < co u ∨ (co v = co u ∧ rk v n ≤ rk u n)) : BsS n fs ls co fe t' (co v) v := ⟨hv, h2, h3, rfl, hl⟩
theorem BsS.uniq (hb : ∀ j : Int, 0 ≤ j → j < n → 0 ≤ fs j ∧ ls j ≤ 7) (h : BsS n fs ls co fe t c b) (h' : BsS n fs ls co fe t c' b') : c = c' ∧ ∀ j : Int, 0 ≤ j → j < n → b j = b' j := by
  obtain ⟨h1, h2, h3, h4, h5⟩ := h
  obtain ⟨k1, k2, k3, k4, k5⟩ := h'
  have a := h5 b' k1 k2 k3
  have d := k5 b h1 h2 h3
  exact ⟨by omega, rk_inj (Bx.dg hb h1) (Bx.dg hb k1) (by omega)⟩
theorem BsN.noS (h : BsN n fs ls fe t) (h' : BsS n fs ls co fe t c b) : False := h b h'.1 h'.2.1 h'.2.2.1
theorem BsS.congr {co' : (Int → Int) → Int} {fe' : (Int → Int) → Prop} (ec : ∀ v, Bx n fs ls v → co v = co' v) (ef : ∀ v, Bx n fs ls v → (fe v ↔ fe' v)) (h : BsS n fs ls co fe t c b) : BsS n fs ls co' fe' t c b := by
  obtain ⟨h1, h2, h3, h4, h5⟩ := h
  refine ⟨h1, h2, (ef b h1).mp h3, by rw [h4, ec b h1], fun v k1 k2 k3 => ?_⟩
  rw [← ec v k1]
  exact h5 v k1 k2 ((ef v k1).mpr k3)
theorem BsN.congr {fe' : (Int → Int) → Prop} (ef : ∀ v, Bx n fs ls v → (fe v ↔ fe' v)) (h : BsN n fs ls fe t) : BsN n fs ls fe' t := fun v h1 h2 h3 => h v h1 h2 ((ef v h1).mpr h3)
theorem BsS.ext (e : ∀ j : Int, 0 ≤ j → j < n → b' j = b j) (ec : co b' = co b) (ef : fe b → fe b') (h : BsS n fs ls co fe t c b) : BsS n fs ls co fe t c b' := by
  obtain ⟨h1, h2, h3, h4, h5⟩ := h
  have er : rk b' n = rk b n := rk_congr e
  refine ⟨fun j k0 k1 => by rw [e j k0 k1]; exact h1 j k0 k1, by omega, ef h3, by rw [ec, h4], fun v k1 k2 k3 => ?_⟩
  rw [er]
  exact h5 v k1 k2 k3
/-- the next choice: nothing lies between -/
theorem rk_next {m : Nat} {w : Int → Int} (hb : ∀ j : Int, 0 ≤ j → j < n → 0 ≤ fs j ∧ ls j ≤ 7) (hm : m < n) (hv : Bx n fs ls v) (h1 : ∀ j : Int, 0 ≤ j → j < m → w j = v j) (h2 : w m = v m + 1) (h2b : w m ≤ ls m) (h3 : ∀ j : Int, m < j → j < n → w j = fs j ∧ v j = ls j) :
    Bx n fs ls w ∧ rk v n < rk w n ∧ ∀ u, Bx n fs ls u → (rk u n < rk w n ↔ rk u n ≤ rk v n) := by
  have hw : Bx n fs ls w := fun j k0 k1 => by
    by_cases q : j < m
    · rw [h1 j k0 q]; exact hv j k0 k1
    · by_cases q2 : j = m
      · subst q2; have := hv m k0 k1; omega
      · have a := h3 j (by omega) k1
        have b := hv j k0 k1
        rw [a.1]; omega
  have hK : n = (m + 1) + (n - m - 1) := by omega
  generalize n - m - 1 = K at hK
  subst hK
  have hs : ∀ u, Bx (m + 1 + K) fs ls u → rk (fun j => fs ((m + 1 : Nat) + j)) K ≤ rk (fun j => u ((m + 1 : Nat) + j)) K ∧ rk (fun j => u ((m + 1 : Nat) + j)) K ≤ rk (fun j => ls ((m + 1 : Nat) + j)) K ∧ 0 ≤ rk (fun j => u ((m + 1 : Nat) + j)) K ∧ rk (fun j => u ((m + 1 : Nat) + j)) K < 8 ^ K := fun u hu => by
    have e := rk_bd (v := fun j => u ((m + 1 : Nat) + j)) (n := K) (fun j k0 k1 => Bx.dg hb hu _ (by omega) (by omega))
    exact ⟨rk_mono (fun j k0 k1 => (hu _ (by omega) (by omega)).1), rk_mono (fun j k0 k1 => (hu _ (by omega) (by omega)).2), e.1, e.2⟩
  have ew : rk (fun j => w ((m + 1 : Nat) + j)) K = rk (fun j => fs ((m + 1 : Nat) + j)) K := rk_congr (fun j k0 k1 => (h3 _ (by omega) (by omega)).1)
  have ev : rk (fun j => v ((m + 1 : Nat) + j)) K = rk (fun j => ls ((m + 1 : Nat) + j)) K := rk_congr (fun j k0 k1 => (h3 _ (by omega) (by omega)).2)
  have ep : rk w (m + 1) = rk v (m + 1) + 1 := by
    simp only [rk]
    rw [rk_congr (n := m) h1, h2]; omega
  have sw := hs w hw
  have sv := hs v hv
  have hW : (0 : Int) < 8 ^ K := by omega
  have tri : ∀ (X Y : Int), X ≤ Y → X * 8 ^ K ≤ Y * 8 ^ K := fun X Y h => Int.mul_le_mul_of_nonneg_right h (by omega)
  refine ⟨hw, ?_, fun u hu => ?_⟩
  · rw [rk_app w (m + 1) K, rk_app v (m + 1) K, ep, Int.add_mul, Int.one_mul]
    omega
  · have su := hs u hu
    rw [rk_app w (m + 1) K, rk_app v (m + 1) K, rk_app u (m + 1) K, ep, Int.add_mul, Int.one_mul, ew, ev]
    have t1 := tri (rk u (m + 1)) (rk v (m + 1))
    have t2 := tri (rk u (m + 1) + 1) (rk v (m + 1))
    have t3 := tri (rk v (m + 1) + 1) (rk u (m + 1))
    rw [Int.add_mul, Int.one_mul] at t2 t3
    by_cases q : rk u (m + 1) = rk v (m + 1)
    · rw [q]; omega
    · omega
end BS
def ldF (wl wr sz c : Int → Int) (i r : Int) : Int := sg (fun l => sg (fun k => if wr (8 * (8 * l + c l) + k) = r then sz l else 0) (wl (8 * l + c l))) i
def coF (wl wr sz pr c : Int → Int) (i : Int) : Int := sg (fun l => sg (fun k => sz l * pr (wr (8 * (8 * l + c l) + k))) (wl (8 * l + c l))) i
def feF (wl wr sz rm : Int → Int) (n rc : Int) (c : Int → Int) : Prop := ∀ r, 0 ≤ r → r < rc → ldF wl wr sz c n r ≤ rm r
theorem ldF_ext {wl wr sz c c' : Int → Int} {i r : Int} (h : ∀ j, 0 ≤ j → j < i → c j = c' j) : ldF wl wr sz c i r = ldF wl wr sz c' i r := sg_congr (fun l h0 h1 => by rw [h l h0 h1])
theorem coF_ext {wl wr sz pr c c' : Int → Int} {i : Int} (h : ∀ j, 0 ≤ j → j < i → c j = c' j) : coF wl wr sz pr c i = coF wl wr sz pr c' i := sg_congr (fun l h0 h1 => by rw [h l h0 h1])
theorem feF_ext {wl wr sz rm c c' : Int → Int} {n rc : Int} (h : ∀ j, 0 ≤ j → j < n → c j = c' j) (hf : feF wl wr sz rm n rc c) : feF wl wr sz rm n rc c' := fun r h0 h1 => by
  rw [← ldF_ext h]; exact hf r h0 h1
def fsM (kd hd : Int → Int) : Int → Int := fun l => if kd l = 2 then hd l else 0
def lsM (kd hd cn : Int → Int) : Int → Int := fun l => if kd l = 2 ∧ hd l < cn l then hd l else cn l - 1
def onA (f b sz : Int → Int) : Nat → Int → Int
  | 0 => f
  | l + 1 => fset (onA f b sz l) (8 * l + b l) (sz l)
theorem onA_1 {f b sz : Int → Int} {i : Int} (h : 0 ≤ i) : onA f b sz (i + 1).toNat = fset (onA f b sz i.toNat) (8 * i + b i) (sz i) := by
  rw [show (i + 1).toNat = i.toNat + 1 by omega]
  simp only [onA]
  rw [show ((i.toNat : Nat) : Int) = i by omega]
def m20 (M : Mem) (A B C : Int → Int) : Mem := fun k => if k = 20 then A else if k = 21 then B else if k = 22 then C else M k
theorem m20_e (M : Mem) : m20 M (M 20) (M 21) (M 22) = M := by
  funext k
  simp only [m20]
  by_cases h : k = 20
  · rw [if_pos h, h]
  · rw [if_neg h]
    by_cases h2 : k = 21
    · rw [if_pos h2, h2]
    · rw [if_neg h2]
      by_cases h3 : k = 22
      · rw [if_pos h3, h3]
      · rw [if_neg h3]
theorem m20_20 (M : Mem) (A B C X : Int → Int) : mset (m20 M A B C) 20 X = m20 M X B C := by
  funext k
  simp only [mset, m20]
  by_cases h : k = 20
  · rw [if_pos h, if_pos h]
  · rw [if_neg h, if_neg h, if_neg h]
theorem m20_21 (M : Mem) (A B C X : Int → Int) : mset (m20 M A B C) 21 X = m20 M A X C := by
  funext k
  simp only [mset, m20]
  by_cases h : k = 21
  · rw [if_pos h, if_pos h, if_neg (by omega)]
  · rw [if_neg h, if_neg h, if_neg h]
theorem m20_22 (M : Mem) (A B C X : Int → Int) : mset (m20 M A B C) 22 X = m20 M A B X := by
  funext k
  simp only [mset, m20]
  by_cases h : k = 22
  · rw [if_pos h, if_pos h, if_neg (by omega), if_neg (by omega)]
  · rw [if_neg h, if_neg h, if_neg h]
theorem m20_n {M : Mem} {A B C : Int → Int} {k : Nat} (h : ¬ k = 20) (h2 : ¬ k = 21) (h3 : ¬ k = 22) : m20 M A B C k = M k := by simp only [m20]; rw [if_neg h, if_neg h2, if_neg h3]
theorem m20_a (M : Mem) (A B C : Int → Int) : m20 M A B C 20 = A := rfl
theorem m20_b (M : Mem) (A B C : Int → Int) : m20 M A B C 21 = B := rfl
theorem m20_c (M : Mem) (A B C : Int → Int) : m20 M A B C 22 = C := rfl
/-- a choice of ways that are there -/
def CV (M : Mem) (c : Int → Int) : Prop := ∀ l, 0 ≤ l → l < M 0 6 → 0 ≤ c l ∧ c l < M 11 l
theorem ldI_bd {M : Mem} (hW : WBm M) (hN : NBm M) {c : Int → Int} (hc : CV M c) {l r : Int} (h0 : 0 ≤ l) (h1 : l < M 0 6) {k : Int} (h2 : 0 ≤ k) (h3 : k ≤ M 12 (8 * l + c l)) : 0 ≤ sg (fun k => if M 13 (8 * (8 * l + c l) + k) = r then M 8 l else 0) k ∧ sg (fun k => if M 13 (8 * (8 * l + c l) + k) = r then M 8 l else 0) k ≤ 800 := by
  have hcl := hc l h0 h1
  have hv := ((hW l h0 h1).2 (c l) hcl.1 hcl.2).1
  have hz := (hN.2.2.2.2 l h0 h1).2.2.2.2
  exact sg_nn (hi := 100) h2 (by omega) (fun i _ _ => by split <;> omega) (k := 8) (by omega)
theorem ldF_bd {M : Mem} (hW : WBm M) (hN : NBm M) {c : Int → Int} (hc : CV M c) {i r : Int} (h0 : 0 ≤ i) (h1 : i ≤ M 0 6) : 0 ≤ ldF (M 12) (M 13) (M 8) c i r ∧ ldF (M 12) (M 13) (M 8) c i r ≤ 4000 := by
  have hl := hN.2.2.1
  refine sg_nn (hi := 800) h0 (by omega) (fun l h2 h3 => ?_) (k := 5) (by omega)
  have hcl := hc l h2 (by omega)
  have hv := ((hW l h2 (by omega)).2 (c l) hcl.1 hcl.2).1
  exact ldI_bd hW hN hc h2 (by omega) (by omega) (Int.le_refl _)
theorem coI_bd {M : Mem} (hW : WBm M) (hN : NBm M) {c : Int → Int} (hc : CV M c) {l : Int} (h0 : 0 ≤ l) (h1 : l < M 0 6) : 0 ≤ sg (fun k => M 8 l * M 3 (M 13 (8 * (8 * l + c l) + k))) (M 12 (8 * l + c l)) ∧ sg (fun k => M 8 l * M 3 (M 13 (8 * (8 * l + c l) + k))) (M 12 (8 * l + c l)) ≤ 40000 := by
  have hcl := hc l h0 h1
  have hv := (hW l h0 h1).2 (c l) hcl.1 hcl.2
  have hz := (hN.2.2.2.2 l h0 h1).2.2.2.2
  have hv1 := hv.1
  refine sg_nn (hi := 5000) (by omega) (by omega) (fun i h2 h3 => ?_) (k := 8) (by omega)
  have hr := hv.2 i h2 h3
  have hp := (hN.2.2.2.1 _ hr.1 hr.2).2.2.1
  have a1 := Int.mul_le_mul hz.2 hp.2 hp.1 (by omega)
  have a2 := Int.mul_nonneg (show 0 ≤ M 8 l by omega) hp.1
  omega
theorem coF_bd {M : Mem} (hW : WBm M) (hN : NBm M) {c : Int → Int} (hc : CV M c) {i : Int} (h0 : 0 ≤ i) (h1 : i ≤ M 0 6) : 0 ≤ coF (M 12) (M 13) (M 8) (M 3) c i ∧ coF (M 12) (M 13) (M 8) (M 3) c i ≤ 200000 := by
  have hl := hN.2.2.1
  exact sg_nn (hi := 40000) h0 (by omega) (fun l h2 h3 => coI_bd hW hN hc h2 (by omega)) (k := 5) (by omega)
section RK
variable {g : Gt} {M : Mem}
theorem sX8_costOfChoice (d : Nat) (hc : CV M (M 20)) (hW : WBm M) (hN : NBm M) : Ex LyM g (d) mX8_costOfChoice [vr 0] M (fun r M' => ∃ z f, r = some (vi z) ∧ M' = mset M 22 f ∧ ((feF (M 12) (M 13) (M 8) (M 2) (M 0 6) (M 0 1) (M 20) ∧ z = coF (M 12) (M 13) (M 8) (M 3) (M 20) (M 0 6)) ∨ (¬ feF (M 12) (M 13) (M 8) (M 2) (M 0 6) (M 0 1) (M 20) ∧ z = -1))) := by
  refine Ex.in [some (vr 0), none, none, none, none, none] (by decide +kernel) rfl (Nat.le_of_ble_eq_true rfl) ?_ rfl
  obtain ⟨hp0, hr, hl, hR, hL⟩ := id hN
  have L3 : ∀ (n9 : Nat) (r : Int) (f : Int → Int) (w3 w4 w5 : Option MV), (0 ≤ r) → (r ≤ M 0 1) → (∀ r, 0 ≤ r → r < M 0 1 → f r = ldF (M 12) (M 13) (M 8) (M 20) (M 0 6) r) → (∀ q, 0 ≤ q → q < r → ldF (M 12) (M 13) (M 8) (M 20) (M 0 6) q ≤ M 2 q) → M 0 1 - r < n9 → R LyM g mX8_costOfChoice (d) 122 [some (vr 0), some (vi (coF (M 12) (M 13) (M 8) (M 3) (M 20) (M 0 6))), some (vi r), w3, w4, w5] [] (mset M 22 f) (fun r M' => ∃ z f, r = some (vi z) ∧ M' = mset M 22 f ∧ ((feF (M 12) (M 13) (M 8) (M 2) (M 0 6) (M 0 1) (M 20) ∧ z = coF (M 12) (M 13) (M 8) (M 3) (M 20) (M 0 6)) ∨ (¬ feF (M 12) (M 13) (M 8) (M 2) (M 0 6) (M 0 1) (M 20) ∧ z = -1))) := by
    intro n9
    induction n9 with
    | zero =>
      intro r f w3 w4 w5 h0 h1 hf hg hm9
      omega
    | succ n9 ih =>
      intro r f w3 w4 w5 h0 h1 hf hg hm9
      refine r_ldn iX8_costOfChoice_122 rfl ?_
      refine r_aldn iX8_costOfChoice_123 rfl ?_
      refine r_geti 1 iX8_costOfChoice_124 flX8_97 rfl rfl rfl rfl ?_
      try simp only [mset_s, mset_n, mset_mset, m20_n, m20_a, m20_b, m20_c, fset_s, fset_fset, ne_eq, Nat.reduceEqDiff, not_false_eq_true]
      refine r_cge iX8_costOfChoice_127 (by omega) (fun h127 => ?_) (fun h127 => ?_)
      · refine r_ldn iX8_costOfChoice_153 rfl ?_
        refine r_iret iX8_costOfChoice_154 rfl ?_
        exact ⟨_, _, rfl, rfl, Or.inl ⟨fun q h2 h3 => hg q h2 (by omega), rfl⟩⟩
      · have hri := hR r h0 (by omega)
        have hfr := hf r h0 (by omega)
        have hbd := ldF_bd hW hN hc (i := M 0 6) (r := r) (by omega) (by omega)
        refine r_aldn iX8_costOfChoice_130 rfl ?_
        refine r_getr iX8_costOfChoice_131 flX8_77 rfl rfl ?_
        refine r_ldn iX8_costOfChoice_134 rfl ?_
        refine r_ial iX8_costOfChoice_135 rfl (by omega) ?_
        refine r_aldn iX8_costOfChoice_136 rfl ?_
        refine r_getr iX8_costOfChoice_137 flX8_17 rfl rfl ?_
        refine r_ldn iX8_costOfChoice_140 rfl ?_
        refine r_ial iX8_costOfChoice_141 rfl (by omega) ?_
        try simp only [mset_s, mset_n, mset_mset, m20_n, m20_a, m20_b, m20_c, fset_s, fset_fset, ne_eq, Nat.reduceEqDiff, not_false_eq_true]
        refine r_cle iX8_costOfChoice_142 (by omega) (fun h142 => ?_) (fun h142 => ?_)
        · refine r_inc iX8_costOfChoice_147 rfl (by decide) rfl ?_
          refine r_goto iX8_costOfChoice_150 ?_
          exact ih (r + 1) f _ _ _ (by omega) (by omega) hf (fun q h2 h3 => by by_cases e : q = r; subst e; omega; exact hg q h2 (by omega)) (by omega)
        · refine r_con iX8_costOfChoice_145 ?_
          refine r_iret iX8_costOfChoice_146 rfl ?_
          exact ⟨_, _, rfl, rfl, Or.inr ⟨fun hfe => by have := hfe r h0 (by omega); omega, rfl⟩⟩
  have L2 : ∀ (n9 : Nat) (l a : Int) (f : Int → Int) (w3 w4 w5 : Option MV), (0 ≤ l) → (l ≤ M 0 6) → (a = coF (M 12) (M 13) (M 8) (M 3) (M 20) l) → (∀ r, 0 ≤ r → r < M 0 1 → f r = ldF (M 12) (M 13) (M 8) (M 20) l r) → M 0 6 - l < n9 → R LyM g mX8_costOfChoice (d) 27 [some (vr 0), some (vi a), some (vi l), w3, w4, w5] [] (mset M 22 f) (fun r M' => ∃ z f, r = some (vi z) ∧ M' = mset M 22 f ∧ ((feF (M 12) (M 13) (M 8) (M 2) (M 0 6) (M 0 1) (M 20) ∧ z = coF (M 12) (M 13) (M 8) (M 3) (M 20) (M 0 6)) ∨ (¬ feF (M 12) (M 13) (M 8) (M 2) (M 0 6) (M 0 1) (M 20) ∧ z = -1))) := by
    intro n9
    induction n9 with
    | zero =>
      intro l a f w3 w4 w5 h0 h1 ha hf hm9
      omega
    | succ n9 ih =>
      intro l a f w3 w4 w5 h0 h1 ha hf hm9
      have I : ∀ (n8 : Nat) (k a : Int) (f : Int → Int) (w5 : Option MV), (0 ≤ k) → (k ≤ M 12 (8 * l + M 20 l)) → (l < M 0 6) → (a = coF (M 12) (M 13) (M 8) (M 3) (M 20) l + sg (fun k => M 8 l * M 3 (M 13 (8 * (8 * l + M 20 l) + k))) k) → (∀ r, 0 ≤ r → r < M 0 1 → f r = ldF (M 12) (M 13) (M 8) (M 20) l r + sg (fun k => if M 13 (8 * (8 * l + M 20 l) + k) = r then M 8 l else 0) k) → M 12 (8 * l + M 20 l) - k < n8 → R LyM g mX8_costOfChoice (d) 50 [some (vr 0), some (vi a), some (vi l), some (vi (8 * l + M 20 l)), some (vi k), w5] [] (mset M 22 f) (fun r M' => ∃ z f, r = some (vi z) ∧ M' = mset M 22 f ∧ ((feF (M 12) (M 13) (M 8) (M 2) (M 0 6) (M 0 1) (M 20) ∧ z = coF (M 12) (M 13) (M 8) (M 3) (M 20) (M 0 6)) ∨ (¬ feF (M 12) (M 13) (M 8) (M 2) (M 0 6) (M 0 1) (M 20) ∧ z = -1))) := by
        intro n8
        induction n8 with
        | zero =>
          intro k a f w5 h0i h1i hl6 hai hfi hm9
          omega
        | succ n8 ih2 =>
          intro k a f w5 h0i h1i hl6 hai hfi hm9
          have hcl := hc l h0 hl6
          have hwl := hW l h0 hl6
          have hv := hwl.2 (M 20 l) hcl.1 hcl.2
          have hv1 := hv.1
          refine r_ld iX8_costOfChoice_50 rfl ?_
          refine r_aldn iX8_costOfChoice_52 rfl ?_
          refine r_getr iX8_costOfChoice_53 flX8_47 rfl rfl ?_
          refine r_ldn iX8_costOfChoice_56 rfl ?_
          refine r_ial iX8_costOfChoice_57 rfl (by omega) ?_
          try simp only [mset_s, mset_n, mset_mset, m20_n, m20_a, m20_b, m20_c, fset_s, fset_fset, ne_eq, Nat.reduceEqDiff, not_false_eq_true]
          refine r_cge iX8_costOfChoice_58 (by omega) (fun h58 => ?_) (fun h58 => ?_)
          · refine r_inc iX8_costOfChoice_114 rfl (by decide) rfl ?_
            refine r_goto iX8_costOfChoice_117 ?_
            rw [show k = M 12 (8 * l + M 20 l) by omega] at hai hfi
            exact ih (l + 1) a f _ _ _ (by omega) (by omega) (by unfold coF; rw [sg_1 h0]; exact hai) (fun r z0 z1 => by unfold ldF; rw [sg_1 h0]; exact hfi r z0 z1) (by omega)
          · have hrk := hv.2 k h0i (by omega)
            refine r_aldn iX8_costOfChoice_61 rfl ?_
            refine r_getr iX8_costOfChoice_62 flX8_50 rfl rfl ?_
            refine r_bip iX8_costOfChoice_65 (by decide) ?_
            refine r_ldn iX8_costOfChoice_67 rfl ?_
            refine r_mul iX8_costOfChoice_68 ?_
            refine r_ld iX8_costOfChoice_69 rfl ?_
            refine r_add iX8_costOfChoice_71 ?_
            refine r_ial iX8_costOfChoice_72 rfl (by omega) ?_
            refine r_st iX8_costOfChoice_73 (by decide) rfl ?_
            refine r_aldn iX8_costOfChoice_75 rfl ?_
            refine r_getr iX8_costOfChoice_76 flX8_77 rfl rfl ?_
            refine r_ld iX8_costOfChoice_79 rfl ?_
            refine r_dup2 iX8_costOfChoice_81 rfl rfl ?_
            try simp only [mset_s, mset_n, mset_mset, m20_n, m20_a, m20_b, m20_c, fset_s, fset_fset, ne_eq, Nat.reduceEqDiff, not_false_eq_true]
            refine r_ial iX8_costOfChoice_82 rfl (by omega) ?_
            refine r_aldn iX8_costOfChoice_83 rfl ?_
            refine r_getr iX8_costOfChoice_84 flX8_35 rfl rfl ?_
            refine r_ldn iX8_costOfChoice_87 rfl ?_
            refine r_ial iX8_costOfChoice_88 rfl (by omega) ?_
            refine r_add iX8_costOfChoice_89 ?_
            refine r_ias iX8_costOfChoice_90 rfl (by omega) ?_
            refine r_ldn iX8_costOfChoice_91 rfl ?_
            refine r_aldn iX8_costOfChoice_92 rfl ?_
            refine r_getr iX8_costOfChoice_93 flX8_35 rfl rfl ?_
            refine r_ldn iX8_costOfChoice_96 rfl ?_
            refine r_ial iX8_costOfChoice_97 rfl (by omega) ?_
            refine r_aldn iX8_costOfChoice_98 rfl ?_
            refine r_getr iX8_costOfChoice_99 flX8_20 rfl rfl ?_
            refine r_ld iX8_costOfChoice_102 rfl ?_
            refine r_ial iX8_costOfChoice_104 rfl (by omega) ?_
            refine r_mul iX8_costOfChoice_105 ?_
            refine r_add iX8_costOfChoice_106 ?_
            refine r_stn iX8_costOfChoice_107 (by decide) rfl ?_
            refine r_inc iX8_costOfChoice_108 rfl (by decide) rfl ?_
            refine r_goto iX8_costOfChoice_111 ?_
            have hcl := hc l h0 hl6
            have hwl := hW l h0 hl6
            have hv := hwl.2 (M 20 l) hcl.1 hcl.2
            have hv1 := hv.1
            try simp only [mset_s, mset_n, mset_mset, m20_n, m20_a, m20_b, m20_c, fset_s, fset_fset, ne_eq, Nat.reduceEqDiff, not_false_eq_true]
            refine ih2 (k + 1) _ _ _ (by omega) (by omega) hl6 (by rw [sg_1 h0i, hai, Int.add_assoc]) ?_ (by omega)
            intro r z0 z1
            rw [sg_1 h0i]
            by_cases e : r = M 13 (8 * (8 * l + M 20 l) + k)
            · rw [e, fset_s, if_pos rfl, hfi _ hrk.1 hrk.2]; omega
            · rw [fset_n e, if_neg (fun q => e q.symm), hfi r z0 z1]; omega
      refine r_ldn iX8_costOfChoice_27 rfl ?_
      refine r_aldn iX8_costOfChoice_28 rfl ?_
      refine r_geti 6 iX8_costOfChoice_29 flX8_100 rfl rfl rfl rfl ?_
      try simp only [mset_s, mset_n, mset_mset, m20_n, m20_a, m20_b, m20_c, fset_s, fset_fset, ne_eq, Nat.reduceEqDiff, not_false_eq_true]
      refine r_cge iX8_costOfChoice_32 (by omega) (fun h32 => ?_) (fun h32 => ?_)
      · refine r_con iX8_costOfChoice_120 ?_
        refine r_stn iX8_costOfChoice_121 (by decide) rfl ?_
        rw [show l = M 0 6 by omega] at ha hf
        rw [ha]
        exact L3 21 0 f _ _ _ (by omega) (by omega) hf (fun q h2 h3 => by omega) (by omega)
      · have hcl := hc l h0 (by omega)
        have hwl := hW l h0 (by omega)
        have hv := hwl.2 (M 20 l) hcl.1 hcl.2
        have hv1 := hv.1
        refine r_bip iX8_costOfChoice_35 (by decide) ?_
        refine r_ldn iX8_costOfChoice_37 rfl ?_
        refine r_mul iX8_costOfChoice_38 ?_
        refine r_aldn iX8_costOfChoice_39 rfl ?_
        refine r_getr iX8_costOfChoice_40 flX8_71 rfl rfl ?_
        refine r_ldn iX8_costOfChoice_43 rfl ?_
        refine r_ial iX8_costOfChoice_44 rfl (by omega) ?_
        try simp only [mset_s, mset_n, mset_mset, m20_n, m20_a, m20_b, m20_c, fset_s, fset_fset, ne_eq, Nat.reduceEqDiff, not_false_eq_true]
        refine r_add iX8_costOfChoice_45 ?_
        refine r_stn iX8_costOfChoice_46 (by decide) rfl ?_
        refine r_con iX8_costOfChoice_47 ?_
        refine r_st iX8_costOfChoice_48 (by decide) rfl ?_
        exact I 9 0 a f _ (by omega) (by omega) (by omega) (by rw [sg_0, Int.add_zero]; exact ha) (fun r z0 z1 => by rw [sg_0, Int.add_zero]; exact hf r z0 z1) (by omega)
  have L1 : ∀ (n9 : Nat) (i : Int), (0 ≤ i) → (i ≤ M 0 1) → M 0 1 - i < n9 → R LyM g mX8_costOfChoice (d) 4 [some (vr 0), some (vi 0), some (vi i), none, none, none] [] (mset M 22 (ini (M 22) (fun _ => 0) i)) (fun r M' => ∃ z f, r = some (vi z) ∧ M' = mset M 22 f ∧ ((feF (M 12) (M 13) (M 8) (M 2) (M 0 6) (M 0 1) (M 20) ∧ z = coF (M 12) (M 13) (M 8) (M 3) (M 20) (M 0 6)) ∨ (¬ feF (M 12) (M 13) (M 8) (M 2) (M 0 6) (M 0 1) (M 20) ∧ z = -1))) := by
    intro n9
    induction n9 with
    | zero =>
      intro i h0 h1 hm9
      omega
    | succ n9 ih =>
      intro i h0 h1 hm9
      refine r_ldn iX8_costOfChoice_4 rfl ?_
      refine r_aldn iX8_costOfChoice_5 rfl ?_
      refine r_geti 1 iX8_costOfChoice_6 flX8_97 rfl rfl rfl rfl ?_
      try simp only [mset_s, mset_n, mset_mset, m20_n, m20_a, m20_b, m20_c, fset_s, fset_fset, ne_eq, Nat.reduceEqDiff, not_false_eq_true]
      refine r_cge iX8_costOfChoice_9 (by omega) (fun h9 => ?_) (fun h9 => ?_)
      · refine r_con iX8_costOfChoice_25 ?_
        refine r_stn iX8_costOfChoice_26 (by decide) rfl ?_
        exact L2 6 0 0 _ _ _ _ (by omega) (by omega) rfl (fun r z0 z1 => if_pos ⟨z0, by omega⟩) (by omega)
      · refine r_aldn iX8_costOfChoice_12 rfl ?_
        refine r_getr iX8_costOfChoice_13 flX8_77 rfl rfl ?_
        refine r_ldn iX8_costOfChoice_16 rfl ?_
        refine r_con iX8_costOfChoice_17 ?_
        refine r_ias iX8_costOfChoice_18 rfl (by omega) ?_
        refine r_inc iX8_costOfChoice_19 rfl (by decide) rfl ?_
        refine r_goto iX8_costOfChoice_22 ?_
        try simp only [mset_s, mset_n, mset_mset, m20_n, m20_a, m20_b, m20_c, fset_s, fset_fset, ne_eq, Nat.reduceEqDiff, not_false_eq_true]
        rw [show fset (ini (M 22) (fun _ => 0) i) i 0 = ini (M 22) (fun _ => 0) (i + 1) from ini_1 (v := fun _ => 0) h0]
        exact ih (i + 1) (by omega) (by omega) (by omega)
  refine r_con iX8_costOfChoice_0 ?_
  refine r_stn iX8_costOfChoice_1 (by decide) rfl ?_
  refine r_con iX8_costOfChoice_2 ?_
  refine r_stn iX8_costOfChoice_3 (by decide) rfl ?_
  have L0 := L1 21 0 (by omega) (by omega) (by omega)
  rw [ini_0, mset_eq rfl] at L0
  exact L0
theorem sX8_nextChoice (d : Nat) (hx : Bx (M 0 6).toNat (fsM (M 5) (M 9)) (lsM (M 5) (M 9) (M 11)) (M 20)) (hW : WBm M) (hN : NBm M) (hH : ∀ l, 0 ≤ l → l < M 0 6 → 0 ≤ M 9 l ∧ M 9 l ≤ 7) : Ex LyM g (d) mX8_nextChoice [vr 0] M (fun r M' => ∃ z f, r = some (vi z) ∧ M' = mset M 20 f ∧ ((z = 1 ∧ Bx (M 0 6).toNat (fsM (M 5) (M 9)) (lsM (M 5) (M 9) (M 11)) f ∧ rk (M 20) (M 0 6).toNat < rk f (M 0 6).toNat ∧ ∀ u, Bx (M 0 6).toNat (fsM (M 5) (M 9)) (lsM (M 5) (M 9) (M 11)) u → (rk u (M 0 6).toNat < rk f (M 0 6).toNat ↔ rk u (M 0 6).toNat ≤ rk (M 20) (M 0 6).toNat)) ∨ (z = 0 ∧ ∀ u, Bx (M 0 6).toNat (fsM (M 5) (M 9)) (lsM (M 5) (M 9) (M 11)) u → rk u (M 0 6).toNat ≤ rk (M 20) (M 0 6).toNat))) := by
  refine Ex.in [some (vr 0), none] (by decide +kernel) rfl (Nat.le_of_ble_eq_true rfl) ?_ rfl
  obtain ⟨hp0, hr, hl, hR, hL⟩ := id hN
  have hb : ∀ j : Int, 0 ≤ j → j < (M 0 6).toNat → 0 ≤ (fsM (M 5) (M 9)) j ∧ (lsM (M 5) (M 9) (M 11)) j ≤ 7 := fun j z0 z1 => by
    have a1 := hH j z0 (by omega)
    have a2 := (hW j z0 (by omega)).1
    unfold fsM lsM
    refine ⟨by split <;> omega, by split <;> omega⟩
  have L : ∀ (n9 : Nat) (l : Int) (f : Int → Int), (-1 ≤ l) → (l < M 0 6) → (∀ j, 0 ≤ j → j ≤ l → f j = M 20 j) → (∀ j, l < j → j < M 0 6 → f j = (fsM (M 5) (M 9)) j ∧ M 20 j = (lsM (M 5) (M 9) (M 11)) j) → l + 1 < n9 → R LyM g mX8_nextChoice (d) 7 [some (vr 0), some (vi l)] [] (mset M 20 f) (fun r M' => ∃ z f, r = some (vi z) ∧ M' = mset M 20 f ∧ ((z = 1 ∧ Bx (M 0 6).toNat (fsM (M 5) (M 9)) (lsM (M 5) (M 9) (M 11)) f ∧ rk (M 20) (M 0 6).toNat < rk f (M 0 6).toNat ∧ ∀ u, Bx (M 0 6).toNat (fsM (M 5) (M 9)) (lsM (M 5) (M 9) (M 11)) u → (rk u (M 0 6).toNat < rk f (M 0 6).toNat ↔ rk u (M 0 6).toNat ≤ rk (M 20) (M 0 6).toNat)) ∨ (z = 0 ∧ ∀ u, Bx (M 0 6).toNat (fsM (M 5) (M 9)) (lsM (M 5) (M 9) (M 11)) u → rk u (M 0 6).toNat ≤ rk (M 20) (M 0 6).toNat))) := by
    intro n9
    induction n9 with
    | zero =>
      intro l f h0 h1 hf hg hm9
      omega
    | succ n9 ih =>
      intro l f h0 h1 hf hg hm9
      refine r_ldn iX8_nextChoice_7 rfl ?_
      refine r_iflt iX8_nextChoice_8 (by omega) (fun h8 => ?_) (fun h8 => ?_)
      · refine r_con iX8_nextChoice_61 ?_
        refine r_zret iX8_nextChoice_62 rfl (by omega) ?_
        refine ⟨_, _, rfl, rfl, Or.inr ⟨rfl, fun u hu => rk_mono (fun j z0 z1 => ?_)⟩⟩
        have a1 := (hu j z0 z1).2
        have a2 := (hg j (by omega) (by omega)).2
        omega
      · have hll := hL l (by omega) (by omega)
        have hwl := hW l (by omega) (by omega)
        have hfl := hf l (by omega) (by omega)
        have hxl := hx l (by omega) (by omega)
        have hhl := hH l (by omega) (by omega)
        have efs : (fsM (M 5) (M 9)) l = if M 5 l = 2 then M 9 l else 0 := rfl
        have els : (lsM (M 5) (M 9) (M 11)) l = if M 5 l = 2 ∧ M 9 l < M 11 l then M 9 l else M 11 l - 1 := rfl
        refine r_aldn iX8_nextChoice_11 rfl ?_
        refine r_getr iX8_nextChoice_12 flX8_26 rfl rfl ?_
        refine r_ldn iX8_nextChoice_15 rfl ?_
        refine r_ial iX8_nextChoice_16 rfl (by omega) ?_
        refine r_con iX8_nextChoice_17 ?_
        try simp only [mset_s, mset_n, mset_mset, m20_n, m20_a, m20_b, m20_c, fset_s, fset_fset, ne_eq, Nat.reduceEqDiff, not_false_eq_true]
        refine r_cge iX8_nextChoice_18 (by omega) (fun h18 => ?_) (fun h18 => ?_)
        · refine r_inc iX8_nextChoice_55 rfl (by decide) rfl ?_
          refine r_goto iX8_nextChoice_58 ?_
          refine ih (l - 1) f (by omega) (by omega) (fun j z0 z1 => hf j z0 (by omega)) (fun j z0 z1 => ?_) (by omega)
          by_cases e : j = l
          · subst e
            rw [if_pos (by omega)] at efs
            by_cases c9 : M 5 j = 2 ∧ M 9 j < M 11 j
            · rw [if_pos c9] at els; exact ⟨by omega, by omega⟩
            · rw [if_neg c9] at els; exact ⟨by omega, by omega⟩
          · exact hg j (by omega) z1
        · refine r_aldn iX8_nextChoice_21 rfl ?_
          refine r_getr iX8_nextChoice_22 flX8_71 rfl rfl ?_
          refine r_ldn iX8_nextChoice_25 rfl ?_
          refine r_dup2 iX8_nextChoice_26 rfl rfl ?_
          try simp only [mset_s, mset_n, mset_mset, m20_n, m20_a, m20_b, m20_c, fset_s, fset_fset, ne_eq, Nat.reduceEqDiff, not_false_eq_true]
          refine r_ial iX8_nextChoice_27 rfl (by omega) ?_
          refine r_con iX8_nextChoice_28 ?_
          refine r_add iX8_nextChoice_29 ?_
          refine r_ias iX8_nextChoice_30 rfl (by omega) ?_
          refine r_aldn iX8_nextChoice_31 rfl ?_
          refine r_getr iX8_nextChoice_32 flX8_71 rfl rfl ?_
          refine r_ldn iX8_nextChoice_35 rfl ?_
          refine r_ial iX8_nextChoice_36 rfl (by omega) ?_
          refine r_aldn iX8_nextChoice_37 rfl ?_
          refine r_getr iX8_nextChoice_38 flX8_44 rfl rfl ?_
          refine r_ldn iX8_nextChoice_41 rfl ?_
          refine r_ial iX8_nextChoice_42 rfl (by omega) ?_
          try simp only [mset_s, mset_n, mset_mset, m20_n, m20_a, m20_b, m20_c, fset_s, fset_fset, ne_eq, Nat.reduceEqDiff, not_false_eq_true]
          refine r_cge iX8_nextChoice_43 (by omega) (fun h43 => ?_) (fun h43 => ?_)
          · refine r_aldn iX8_nextChoice_48 rfl ?_
            refine r_getr iX8_nextChoice_49 flX8_71 rfl rfl ?_
            refine r_ldn iX8_nextChoice_52 rfl ?_
            refine r_con iX8_nextChoice_53 ?_
            refine r_ias iX8_nextChoice_54 rfl (by omega) ?_
            refine r_inc iX8_nextChoice_55 rfl (by decide) rfl ?_
            refine r_goto iX8_nextChoice_58 ?_
            try simp only [mset_s, mset_n, mset_mset, m20_n, m20_a, m20_b, m20_c, fset_s, fset_fset, ne_eq, Nat.reduceEqDiff, not_false_eq_true]
            rw [if_neg (by omega)] at efs els
            refine ih (l - 1) _ (by omega) (by omega) (fun j z0 z1 => by rw [fset_n (by omega)]; exact hf j z0 (by omega)) (fun j z0 z1 => ?_) (by omega)
            by_cases e : j = l
            · subst e
              rw [fset_s]
              exact ⟨by omega, by omega⟩
            · rw [fset_n e]; exact hg j (by omega) z1
          · refine r_con iX8_nextChoice_46 ?_
            refine r_zret iX8_nextChoice_47 rfl (by omega) ?_
            rw [if_neg (by omega)] at efs els
            have key := rk_next (m := l.toNat) (w := fset f l (f l + 1)) (v := M 20) hb (by omega) hx (fun j z0 z1 => by rw [fset_n (by omega)]; exact hf j z0 (by omega)) (by rw [show ((l.toNat : Nat) : Int) = l by omega, fset_s, hfl]) (by rw [show ((l.toNat : Nat) : Int) = l by omega, fset_s]; omega) (fun j z0 z1 => by rw [fset_n (by omega)]; exact hg j (by omega) (by omega))
            exact ⟨_, _, rfl, rfl, Or.inl ⟨rfl, key.1, key.2.1, key.2.2⟩⟩
  refine r_aldn iX8_nextChoice_0 rfl ?_
  refine r_geti 6 iX8_nextChoice_1 flX8_100 rfl rfl rfl rfl ?_
  refine r_con iX8_nextChoice_4 ?_
  refine r_sub iX8_nextChoice_5 ?_
  refine r_stn iX8_nextChoice_6 (by decide) rfl ?_
  have L0 := L 6 (M 0 6 - 1) (M 20) (by omega) (by omega) (fun j z0 z1 => rfl) (fun j z0 z1 => by omega) (by omega)
  rw [mset_eq rfl] at L0
  exact L0
theorem sX8_ones_0 (d : Nat) (h : M 0 6 = 0) (hN : NBm M) : Ex LyM g (d + 2) mX8_ones [vr 0] M (PI (-4) M) := by
  refine Ex.in [some (vr 0), none, none, none, none] (by decide +kernel) rfl (Nat.le_of_ble_eq_true rfl) ?_ rfl
  obtain ⟨hp0, hr, hl, hR, hL⟩ := id hN
  refine r_aldn iX8_ones_0 rfl ?_
  refine r_geti 6 iX8_ones_1 flX8_100 rfl rfl rfl rfl ?_
  refine r_ifle iX8_ones_4 (by omega) (fun h4 => ?_) (fun h4 => ?_)
  · refine r_con iX8_ones_11 ?_
    refine r_stn iX8_ones_12 (by decide) rfl ?_
    refine r_con iX8_ones_13 ?_
    refine r_stn iX8_ones_14 (by decide) rfl ?_
    refine r_ldn iX8_ones_15 rfl ?_
    refine r_aldn iX8_ones_16 rfl ?_
    refine r_geti 6 iX8_ones_17 flX8_100 rfl rfl rfl rfl ?_
    refine r_cge iX8_ones_20 (by omega) (fun h20 => ?_) (fun h20 => ?_)
    · refine r_bip iX8_ones_79 (by decide) ?_
      refine r_stn iX8_ones_81 (by decide) rfl ?_
      refine r_ldn iX8_ones_82 rfl ?_
      refine r_ifeq iX8_ones_83 (by omega) (fun h83 => ?_) (fun h83 => ?_)
      · refine r_ldn iX8_ones_146 rfl ?_
        refine r_iflt iX8_ones_147 (by omega) (fun h147 => ?_) (fun h147 => ?_)
        · refine r_ldn iX8_ones_199 rfl ?_
          refine r_iret iX8_ones_200 rfl ?_
          exact ⟨rfl, rfl⟩
        · exfalso; omega
      · exact absurd rfl h83
    · exfalso; omega
  · exfalso; omega
theorem sX8_ones_o (d : Nat) (h : 0 < M 0 6) (hW : WBm M) (hN : NBm M) (hH : ∀ l, 0 ≤ l → l < M 0 6 → 0 ≤ M 9 l ∧ M 9 l ≤ 7) : Ex LyM g (d + 2) mX8_ones [vr 0] M (fun r M' => ∃ z A B C E, r = some (vi z) ∧ M' = mset (m20 M A B C) 10 E ∧ ((z = -4 ∧ BsN (M 0 6).toNat (fsM (M 5) (M 9)) (lsM (M 5) (M 9) (M 11)) (fun c => feF (M 12) (M 13) (M 8) (M 2) (M 0 6) (M 0 1) c) (32768) ∧ E = M 10) ∨ (0 ≤ z ∧ BsS (M 0 6).toNat (fsM (M 5) (M 9)) (lsM (M 5) (M 9) (M 11)) (fun c => coF (M 12) (M 13) (M 8) (M 3) c (M 0 6)) (fun c => feF (M 12) (M 13) (M 8) (M 2) (M 0 6) (M 0 1) c) (32768) z B ∧ E = onA (clr (M 10) 0 (8 * M 0 6)) B (M 8) (M 0 6).toNat))) := by
  refine Ex.in [some (vr 0), none, none, none, none] (by decide +kernel) rfl (Nat.le_of_ble_eq_true rfl) ?_ rfl
  obtain ⟨hp0, hr, hl, hR, hL⟩ := id hN
  have hb : ∀ j : Int, 0 ≤ j → j < (M 0 6).toNat → 0 ≤ (fsM (M 5) (M 9)) j ∧ (lsM (M 5) (M 9) (M 11)) j ≤ 7 := fun j z0 z1 => by
    have a1 := hH j z0 (by omega)
    have a2 := (hW j z0 (by omega)).1
    unfold fsM lsM
    refine ⟨by split <;> omega, by split <;> omega⟩
  have hcv : ∀ v, Bx (M 0 6).toNat (fsM (M 5) (M 9)) (lsM (M 5) (M 9) (M 11)) v → CV M v := fun v hv l z0 z1 => by
    have a1 := hv l z0 (by omega)
    have a2 := hb l z0 (by omega)
    have a3 : (lsM (M 5) (M 9) (M 11)) l < M 11 l := by unfold lsM; split <;> omega
    omega
  have p8 : ∀ v, Bx (M 0 6).toNat (fsM (M 5) (M 9)) (lsM (M 5) (M 9) (M 11)) v → 0 ≤ rk v (M 0 6).toNat ∧ rk v (M 0 6).toNat < 32768 := fun v hv => by
    have a1 := rk_bd (Bx.dg hb hv)
    have a2 : (8 : Int) ^ (M 0 6).toNat ≤ 32768 := by
      have : M 0 6 = 1 ∨ M 0 6 = 2 ∨ M 0 6 = 3 ∨ M 0 6 = 4 ∨ M 0 6 = 5 := by omega
      rcases this with e | e | e | e | e <;> rw [e] <;> decide
    omega
  have L4 : ∀ (n9 : Nat) (i z : Int) (A B C : Int → Int) (w : Option MV) (n3 : Int), (0 ≤ i) → (i ≤ M 0 6) → (0 ≤ z) → (BsS (M 0 6).toNat (fsM (M 5) (M 9)) (lsM (M 5) (M 9) (M 11)) (fun c => coF (M 12) (M 13) (M 8) (M 3) c (M 0 6)) (fun c => feF (M 12) (M 13) (M 8) (M 2) (M 0 6) (M 0 1) c) (32768) z B) → M 0 6 - i < n9 → R LyM g mX8_ones (d + 2) 159 [some (vr 0), some (vi 0), some (vi z), some (vi n3), some (vi i)] [] (mset (m20 M A B C) 10 (onA (clr (M 10) 0 (8 * M 0 6)) B (M 8) i.toNat)) (fun r M' => ∃ z A B C E, r = some (vi z) ∧ M' = mset (m20 M A B C) 10 E ∧ ((z = -4 ∧ BsN (M 0 6).toNat (fsM (M 5) (M 9)) (lsM (M 5) (M 9) (M 11)) (fun c => feF (M 12) (M 13) (M 8) (M 2) (M 0 6) (M 0 1) c) (32768) ∧ E = M 10) ∨ (0 ≤ z ∧ BsS (M 0 6).toNat (fsM (M 5) (M 9)) (lsM (M 5) (M 9) (M 11)) (fun c => coF (M 12) (M 13) (M 8) (M 3) c (M 0 6)) (fun c => feF (M 12) (M 13) (M 8) (M 2) (M 0 6) (M 0 1) c) (32768) z B ∧ E = onA (clr (M 10) 0 (8 * M 0 6)) B (M 8) (M 0 6).toNat))) := by
    intro n9
    induction n9 with
    | zero =>
      intro i z A B C w n3 h0 h1 hz hB hm9
      omega
    | succ n9 ih =>
      intro i z A B C w n3 h0 h1 hz hB hm9
      refine r_ld iX8_ones_159 rfl ?_
      refine r_aldn iX8_ones_161 rfl ?_
      refine r_geti 6 iX8_ones_162 flX8_100 rfl rfl rfl rfl ?_
      try simp only [mset_s, mset_n, mset_mset, m20_n, m20_a, m20_b, m20_c, fset_s, fset_fset, ne_eq, Nat.reduceEqDiff, not_false_eq_true]
      refine r_cge iX8_ones_165 (by omega) (fun h165 => ?_) (fun h165 => ?_)
      · refine r_ldn iX8_ones_199 rfl ?_
        refine r_iret iX8_ones_200 rfl ?_
        exact ⟨z, A, B, C, _, rfl, rfl, Or.inr ⟨hz, hB, by rw [show i = M 0 6 by omega]⟩⟩
      · have hbi := hcv B hB.1 i h0 h165
        have hwi := (hW i h0 h165).1
        refine r_aldn iX8_ones_168 rfl ?_
        refine r_getr iX8_ones_169 flX8_41 rfl rfl ?_
        refine r_bip iX8_ones_172 (by decide) ?_
        refine r_ld iX8_ones_174 rfl ?_
        refine r_mul iX8_ones_176 ?_
        refine r_aldn iX8_ones_177 rfl ?_
        refine r_getr iX8_ones_178 flX8_74 rfl rfl ?_
        refine r_ld iX8_ones_181 rfl ?_
        refine r_ial iX8_ones_183 rfl (by omega) ?_
        try simp only [mset_s, mset_n, mset_mset, m20_n, m20_a, m20_b, m20_c, fset_s, fset_fset, ne_eq, Nat.reduceEqDiff, not_false_eq_true]
        refine r_add iX8_ones_184 ?_
        refine r_aldn iX8_ones_185 rfl ?_
        refine r_getr iX8_ones_186 flX8_35 rfl rfl ?_
        refine r_ld iX8_ones_189 rfl ?_
        refine r_ial iX8_ones_191 rfl (by omega) ?_
        try simp only [mset_s, mset_n, mset_mset, m20_n, m20_a, m20_b, m20_c, fset_s, fset_fset, ne_eq, Nat.reduceEqDiff, not_false_eq_true]
        refine r_ias iX8_ones_192 rfl (by omega) ?_
        refine r_inc iX8_ones_193 rfl (by decide) rfl ?_
        refine r_goto iX8_ones_196 ?_
        have ih0 := fun w => ih (i + 1) z A B C w n3 (by omega) (by omega) hz hB (by omega)
        rw [onA_1 h0] at ih0
        try simp only [mset_s, mset_n, mset_mset, m20_n, m20_a, m20_b, m20_c, fset_s, fset_fset, ne_eq, Nat.reduceEqDiff, not_false_eq_true]
        exact ih0 none
  have L2 : ∀ (n9 : Nat) (a z t : Int) (f b e : Int → Int) (w3 w4 : Option MV), (a = 0 ∨ a = 1) → (a = 1 → Bx (M 0 6).toNat (fsM (M 5) (M 9)) (lsM (M 5) (M 9) (M 11)) f ∧ t = rk f (M 0 6).toNat) → (a = 0 → t = 32768) → (t ≤ 32768) → (((z = -4 ∧ BsN (M 0 6).toNat (fsM (M 5) (M 9)) (lsM (M 5) (M 9) (M 11)) (fun c => feF (M 12) (M 13) (M 8) (M 2) (M 0 6) (M 0 1) c) (t)) ∨ (0 ≤ z ∧ z ≤ 200000 ∧ BsS (M 0 6).toNat (fsM (M 5) (M 9)) (lsM (M 5) (M 9) (M 11)) (fun c => coF (M 12) (M 13) (M 8) (M 3) c (M 0 6)) (fun c => feF (M 12) (M 13) (M 8) (M 2) (M 0 6) (M 0 1) c) (t) z b))) → 32768 - t < n9 → R LyM g mX8_ones (d + 2) 82 [some (vr 0), some (vi a), some (vi z), w3, w4] [] (m20 M f b e) (fun r M' => ∃ z A B C E, r = some (vi z) ∧ M' = mset (m20 M A B C) 10 E ∧ ((z = -4 ∧ BsN (M 0 6).toNat (fsM (M 5) (M 9)) (lsM (M 5) (M 9) (M 11)) (fun c => feF (M 12) (M 13) (M 8) (M 2) (M 0 6) (M 0 1) c) (32768) ∧ E = M 10) ∨ (0 ≤ z ∧ BsS (M 0 6).toNat (fsM (M 5) (M 9)) (lsM (M 5) (M 9) (M 11)) (fun c => coF (M 12) (M 13) (M 8) (M 3) c (M 0 6)) (fun c => feF (M 12) (M 13) (M 8) (M 2) (M 0 6) (M 0 1) c) (32768) z B ∧ E = onA (clr (M 10) 0 (8 * M 0 6)) B (M 8) (M 0 6).toNat))) := by
    intro n9
    induction n9 with
    | zero =>
      intro a z t f b e w3 w4 hz hs1 hs0 htt hB hm9
      omega
    | succ n9 ih =>
      intro a z t f b e w3 w4 hz hs1 hs0 htt hB hm9
      by_cases ca : a = 0
      · refine r_ldn iX8_ones_82 rfl ?_
        refine r_ifeq iX8_ones_83 (by omega) (fun h83 => ?_) (fun h83 => ?_)
        · refine r_ldn iX8_ones_146 rfl ?_
          refine r_iflt iX8_ones_147 (by omega) (fun h147 => ?_) (fun h147 => ?_)
          · refine r_ldn iX8_ones_199 rfl ?_
            refine r_iret iX8_ones_200 rfl ?_
            refine ⟨z, f, b, e, M 10, rfl, (mset_eq rfl).symm, Or.inl ?_⟩
            rcases hB with q | q
            · rw [hs0 ca] at q; exact ⟨q.1, q.2, rfl⟩
            · omega
          · refine r_aldn iX8_ones_150 rfl ?_
            refine r_con iX8_ones_151 ?_
            refine call_V1i iX8_ones_152 clX8_200 myX8_empty rfl rfl rfl rfl (sX8_empty_a (M := m20 M f b e) _ hW hN) ?_
            rw [show (m20 M f b e) = m20 M f b e from rfl]
            refine r_stn iX8_ones_155 (by decide) rfl ?_
            refine r_con iX8_ones_156 ?_
            refine r_st iX8_ones_157 (by decide) rfl ?_
            have hB2 : BsS (M 0 6).toNat (fsM (M 5) (M 9)) (lsM (M 5) (M 9) (M 11)) (fun c => coF (M 12) (M 13) (M 8) (M 3) c (M 0 6)) (fun c => feF (M 12) (M 13) (M 8) (M 2) (M 0 6) (M 0 1) c) (32768) z b := by
              rcases hB with q | q
              · omega
              · rw [hs0 ca] at q; exact q.2.2
            rw [ca]
            exact L4 6 0 z f b e none _ (by omega) (by omega) (by omega) hB2 (by omega)
        · exact absurd ca h83
      have hx := (hs1 (by omega)).1
      have ht := (hs1 (by omega)).2
      have pf := p8 f hx
      have heq : ∀ v, Bx (M 0 6).toNat (fsM (M 5) (M 9)) (lsM (M 5) (M 9) (M 11)) v → rk f (M 0 6).toNat ≤ rk v (M 0 6).toNat → rk v (M 0 6).toNat < rk f (M 0 6).toNat + 1 → ∀ j, 0 ≤ j → j < M 0 6 → v j = f j := fun v hv q1 q2 j q3 q4 => rk_inj (n := (M 0 6).toNat) (Bx.dg hb hv) (Bx.dg hb hx) (by omega) j q3 (by omega)
      have W : ∀ (z c : Int) (b e : Int → Int) (w4 : Option MV), ((z = -4 ∧ BsN (M 0 6).toNat (fsM (M 5) (M 9)) (lsM (M 5) (M 9) (M 11)) (fun c => feF (M 12) (M 13) (M 8) (M 2) (M 0 6) (M 0 1) c) (rk f (M 0 6).toNat + 1)) ∨ (0 ≤ z ∧ z ≤ 200000 ∧ BsS (M 0 6).toNat (fsM (M 5) (M 9)) (lsM (M 5) (M 9) (M 11)) (fun c => coF (M 12) (M 13) (M 8) (M 3) c (M 0 6)) (fun c => feF (M 12) (M 13) (M 8) (M 2) (M 0 6) (M 0 1) c) (rk f (M 0 6).toNat + 1) z b)) → R LyM g mX8_ones (d + 2) 138 [some (vr 0), some (vi a), some (vi z), some (vi c), w4] [] (m20 M f b e) (fun r M' => ∃ z A B C E, r = some (vi z) ∧ M' = mset (m20 M A B C) 10 E ∧ ((z = -4 ∧ BsN (M 0 6).toNat (fsM (M 5) (M 9)) (lsM (M 5) (M 9) (M 11)) (fun c => feF (M 12) (M 13) (M 8) (M 2) (M 0 6) (M 0 1) c) (32768) ∧ E = M 10) ∨ (0 ≤ z ∧ BsS (M 0 6).toNat (fsM (M 5) (M 9)) (lsM (M 5) (M 9) (M 11)) (fun c => coF (M 12) (M 13) (M 8) (M 3) c (M 0 6)) (fun c => feF (M 12) (M 13) (M 8) (M 2) (M 0 6) (M 0 1) c) (32768) z B ∧ E = onA (clr (M 10) 0 (8 * M 0 6)) B (M 8) (M 0 6).toNat))) := by
        intro z c b e w4 hq
        refine r_aldn iX8_ones_138 rfl ?_
        refine call_V0p iX8_ones_139 clX8_197 myX8_nextChoice rfl rfl rfl rfl (sX8_nextChoice (M := m20 M f b e) _ hx hW hN hH) (fun r139 M139 h139 => ?_)
        obtain ⟨y, f2, e1, e2, e3⟩ := h139
        subst e1
        subst e2
        rw [m20_20]
        have e4 : (y = 1 ∧ Bx (M 0 6).toNat (fsM (M 5) (M 9)) (lsM (M 5) (M 9) (M 11)) f2 ∧ rk f (M 0 6).toNat < rk f2 (M 0 6).toNat ∧ ∀ u, Bx (M 0 6).toNat (fsM (M 5) (M 9)) (lsM (M 5) (M 9) (M 11)) u → (rk u (M 0 6).toNat < rk f2 (M 0 6).toNat ↔ rk u (M 0 6).toNat ≤ rk f (M 0 6).toNat)) ∨ (y = 0 ∧ ∀ u, Bx (M 0 6).toNat (fsM (M 5) (M 9)) (lsM (M 5) (M 9) (M 11)) u → rk u (M 0 6).toNat ≤ rk f (M 0 6).toNat) := e3
        refine r_stn iX8_ones_142 (by decide) rfl ?_
        refine r_goto iX8_ones_143 ?_
        rcases e4 with ⟨y1, k1, k2, k3⟩ | ⟨y1, k1⟩
        · have pf2 := p8 f2 k1
          refine ih y z (rk f2 (M 0 6).toNat) f2 b e _ _ (Or.inr y1) (fun _ => ⟨k1, rfl⟩) (fun q => by omega) (by omega) ?_ (by omega)
          rcases hq with ⟨q1, q2⟩ | ⟨q1, q2, q3⟩
          · exact Or.inl ⟨q1, q2.grow (fun v j1 j2 j3 => by have := (k3 v j1).mp j2; omega)⟩
          · exact Or.inr ⟨q1, q2, q3.grow (by omega) (fun v j1 j2 j3 => by have := (k3 v j1).mp j2; omega)⟩
        · refine ih y z 32768 f2 b e _ _ (Or.inl y1) (fun q => by omega) (fun _ => rfl) (by omega) ?_ (by omega)
          rcases hq with ⟨q1, q2⟩ | ⟨q1, q2, q3⟩
          · exact Or.inl ⟨q1, q2.grow (fun v j1 j2 j3 => by have := k1 v j1; omega)⟩
          · exact Or.inr ⟨q1, q2, q3.grow (by omega) (fun v j1 j2 j3 => by have := k1 v j1; omega)⟩
      have I :  ∀ (n8 : Nat) (i : Int) (e : Int → Int), (0 ≤ i) → (i ≤ M 0 6) → (BsS (M 0 6).toNat (fsM (M 5) (M 9)) (lsM (M 5) (M 9) (M 11)) (fun c => coF (M 12) (M 13) (M 8) (M 3) c (M 0 6)) (fun c => feF (M 12) (M 13) (M 8) (M 2) (M 0 6) (M 0 1) c) (rk f (M 0 6).toNat + 1) (coF (M 12) (M 13) (M 8) (M 3) f (M 0 6)) f) → (0 ≤ (coF (M 12) (M 13) (M 8) (M 3) f (M 0 6)) ∧ (coF (M 12) (M 13) (M 8) (M 3) f (M 0 6)) ≤ 200000) → M 0 6 - i < n8 → R LyM g mX8_ones (d + 2) 109 [some (vr 0), some (vi a), some (vi ((coF (M 12) (M 13) (M 8) (M 3) f (M 0 6)))), some (vi ((coF (M 12) (M 13) (M 8) (M 3) f (M 0 6)))), some (vi i)] [] (m20 M f (ini b f i) e) (fun r M' => ∃ z A B C E, r = some (vi z) ∧ M' = mset (m20 M A B C) 10 E ∧ ((z = -4 ∧ BsN (M 0 6).toNat (fsM (M 5) (M 9)) (lsM (M 5) (M 9) (M 11)) (fun c => feF (M 12) (M 13) (M 8) (M 2) (M 0 6) (M 0 1) c) (32768) ∧ E = M 10) ∨ (0 ≤ z ∧ BsS (M 0 6).toNat (fsM (M 5) (M 9)) (lsM (M 5) (M 9) (M 11)) (fun c => coF (M 12) (M 13) (M 8) (M 3) c (M 0 6)) (fun c => feF (M 12) (M 13) (M 8) (M 2) (M 0 6) (M 0 1) c) (32768) z B ∧ E = onA (clr (M 10) 0 (8 * M 0 6)) B (M 8) (M 0 6).toNat))) := by
        intro n8
        induction n8 with
        | zero =>
          intro i e h0i h1i hnew hcc hm9
          omega
        | succ n8 ih2 =>
          intro i e h0i h1i hnew hcc hm9
          refine r_ld iX8_ones_109 rfl ?_
          refine r_aldn iX8_ones_111 rfl ?_
          refine r_geti 6 iX8_ones_112 flX8_100 rfl rfl rfl rfl ?_
          try simp only [mset_s, mset_n, mset_mset, m20_n, m20_a, m20_b, m20_c, fset_s, fset_fset, ne_eq, Nat.reduceEqDiff, not_false_eq_true]
          refine r_cge iX8_ones_115 (by omega) (fun h115 => ?_) (fun h115 => ?_)
          · rw [show i = M 0 6 by omega]
            have ei : ∀ j : Int, 0 ≤ j → j < (M 0 6).toNat → ini b f (M 0 6) j = f j := fun j j0 j1 => if_pos ⟨j0, by omega⟩
            have ei2 : ∀ j : Int, 0 ≤ j → j < M 0 6 → ini b f (M 0 6) j = f j := fun j j0 j1 => if_pos ⟨j0, j1⟩
            exact W _ _ _ _ _ (Or.inr ⟨hcc.1, hcc.2, hnew.ext ei (coF_ext ei2) (feF_ext (fun j j0 j1 => (ei2 j j0 j1).symm))⟩)
          · refine r_aldn iX8_ones_118 rfl ?_
            refine r_getr iX8_ones_119 flX8_74 rfl rfl ?_
            refine r_ld iX8_ones_122 rfl ?_
            refine r_aldn iX8_ones_124 rfl ?_
            refine r_getr iX8_ones_125 flX8_71 rfl rfl ?_
            refine r_ld iX8_ones_128 rfl ?_
            refine r_ial iX8_ones_130 rfl (by omega) ?_
            try simp only [mset_s, mset_n, mset_mset, m20_n, m20_a, m20_b, m20_c, fset_s, fset_fset, ne_eq, Nat.reduceEqDiff, not_false_eq_true]
            refine r_ias iX8_ones_131 rfl (by omega) ?_
            refine r_inc iX8_ones_132 rfl (by decide) rfl ?_
            refine r_goto iX8_ones_135 ?_
            rw [m20_21, m20_b]
            rw [show fset (ini b f i) i (f i) = ini b f (i + 1) from ini_1 h0i]
            exact ih2 (i + 1) e (by omega) (by omega) hnew hcc (by omega)
      refine r_ldn iX8_ones_82 rfl ?_
      refine r_ifeq iX8_ones_83 (by omega) (fun h83 => ?_) (fun h83 => ?_)
      · exact absurd h83 ca
      · refine r_aldn iX8_ones_86 rfl ?_
        refine call_V0p iX8_ones_87 clX8_194 myX8_costOfChoice rfl rfl rfl rfl (sX8_costOfChoice (M := m20 M f b e) _ (hcv f hx) hW hN) (fun r87 M87 h87 => ?_)
        obtain ⟨c, e2, e1, e3, e4⟩ := h87
        subst e1
        subst e3
        rw [m20_22]
        replace e4 : (feF (M 12) (M 13) (M 8) (M 2) (M 0 6) (M 0 1) f ∧ c = (coF (M 12) (M 13) (M 8) (M 3) f (M 0 6))) ∨ (¬ feF (M 12) (M 13) (M 8) (M 2) (M 0 6) (M 0 1) f ∧ c = -1) := e4
        have hcc := coF_bd hW hN (hcv f hx) (i := M 0 6) (by omega) (by omega)
        have hcb : -1 ≤ c ∧ c ≤ 200000 := by rcases e4 with q | q <;> omega
        refine r_stn iX8_ones_90 (by decide) rfl ?_
        refine r_ldn iX8_ones_91 rfl ?_
        refine r_iflt iX8_ones_92 (by omega) (fun h92 => ?_) (fun h92 => ?_)
        · refine W z c b e2 _ ?_
          have hnf : ¬ feF (M 12) (M 13) (M 8) (M 2) (M 0 6) (M 0 1) f := by
            rcases e4 with ⟨q1, q2⟩ | ⟨q1, q2⟩
            · omega
            · exact q1
          rcases hB with ⟨q1, q2⟩ | ⟨q1, q2, q3⟩
          · exact Or.inl ⟨q1, q2.grow (fun v j1 j2 j3 j4 => hnf (feF_ext (heq v j1 (by omega) (by omega)) j4))⟩
          · exact Or.inr ⟨q1, q2, q3.grow (by omega) (fun v j1 j2 j3 j4 => absurd (feF_ext (heq v j1 (by omega) (by omega)) j4) hnf)⟩
        · refine r_ldn iX8_ones_95 rfl ?_
          refine r_iflt iX8_ones_96 (by omega) (fun h96 => ?_) (fun h96 => ?_)
          · refine r_ldn iX8_ones_104 rfl ?_
            refine r_stn iX8_ones_105 (by decide) rfl ?_
            refine r_con iX8_ones_106 ?_
            refine r_st iX8_ones_107 (by decide) rfl ?_
            have e5 : feF (M 12) (M 13) (M 8) (M 2) (M 0 6) (M 0 1) f ∧ c = (coF (M 12) (M 13) (M 8) (M 3) f (M 0 6)) := by
              rcases e4 with q | q
              · exact q
              · omega
            obtain ⟨e5, e6⟩ := e5
            subst e6
            have hnew : BsS (M 0 6).toNat (fsM (M 5) (M 9)) (lsM (M 5) (M 9) (M 11)) (fun c => coF (M 12) (M 13) (M 8) (M 3) c (M 0 6)) (fun c => feF (M 12) (M 13) (M 8) (M 2) (M 0 6) (M 0 1) c) (rk f (M 0 6).toNat + 1) (coF (M 12) (M 13) (M 8) (M 3) f (M 0 6)) f := by
              refine BsS.new hx (by omega) e5 (fun u j1 j2 j3 => ?_)
              by_cases q : rk f (M 0 6).toNat ≤ rk u (M 0 6).toNat
              · have e7 : (coF (M 12) (M 13) (M 8) (M 3) u (M 0 6)) = (coF (M 12) (M 13) (M 8) (M 3) f (M 0 6)) := coF_ext (heq u j1 q (by omega))
                exact Or.inr ⟨e7.symm, q⟩
              · rcases hB with ⟨q1, q2⟩ | ⟨q1, q2, q3⟩
                · exact absurd j3 (q2 u j1 (by omega))
                · have q4 : z < (coF (M 12) (M 13) (M 8) (M 3) u (M 0 6)) ∨ (z = (coF (M 12) (M 13) (M 8) (M 3) u (M 0 6)) ∧ rk b (M 0 6).toNat ≤ rk u (M 0 6).toNat) := q3.2.2.2.2 u j1 (by omega) j3
                  exact Or.inl (show (coF (M 12) (M 13) (M 8) (M 3) f (M 0 6)) < (coF (M 12) (M 13) (M 8) (M 3) u (M 0 6)) by omega)
            have L0 := I 6 0 e2 (by omega) (by omega) hnew (by omega) (by omega)
            rw [ini_0] at L0
            exact L0
          · refine r_ldn iX8_ones_99 rfl ?_
            refine r_ldn iX8_ones_100 rfl ?_
            refine r_cge iX8_ones_101 (by omega) (fun h101 => ?_) (fun h101 => ?_)
            · refine W z c b e2 _ ?_
              have hc2 : c = (coF (M 12) (M 13) (M 8) (M 3) f (M 0 6)) := by
                rcases e4 with ⟨q1, q2⟩ | ⟨q1, q2⟩ <;> omega
              rcases hB with ⟨q1, q2⟩ | ⟨q1, q2, q3⟩
              · omega
              · exact Or.inr ⟨q1, q2, q3.grow (by omega) (fun v j1 j2 j3 j4 => by have e6 : (coF (M 12) (M 13) (M 8) (M 3) v (M 0 6)) = (coF (M 12) (M 13) (M 8) (M 3) f (M 0 6)) := coF_ext (heq v j1 (by omega) (by omega)); show z ≤ (coF (M 12) (M 13) (M 8) (M 3) v (M 0 6)); omega)⟩
            · refine r_ldn iX8_ones_104 rfl ?_
              refine r_stn iX8_ones_105 (by decide) rfl ?_
              refine r_con iX8_ones_106 ?_
              refine r_st iX8_ones_107 (by decide) rfl ?_
              have e5 : feF (M 12) (M 13) (M 8) (M 2) (M 0 6) (M 0 1) f ∧ c = (coF (M 12) (M 13) (M 8) (M 3) f (M 0 6)) := by
                rcases e4 with q | q
                · exact q
                · omega
              obtain ⟨e5, e6⟩ := e5
              subst e6
              have hnew : BsS (M 0 6).toNat (fsM (M 5) (M 9)) (lsM (M 5) (M 9) (M 11)) (fun c => coF (M 12) (M 13) (M 8) (M 3) c (M 0 6)) (fun c => feF (M 12) (M 13) (M 8) (M 2) (M 0 6) (M 0 1) c) (rk f (M 0 6).toNat + 1) (coF (M 12) (M 13) (M 8) (M 3) f (M 0 6)) f := by
                refine BsS.new hx (by omega) e5 (fun u j1 j2 j3 => ?_)
                by_cases q : rk f (M 0 6).toNat ≤ rk u (M 0 6).toNat
                · have e7 : (coF (M 12) (M 13) (M 8) (M 3) u (M 0 6)) = (coF (M 12) (M 13) (M 8) (M 3) f (M 0 6)) := coF_ext (heq u j1 q (by omega))
                  exact Or.inr ⟨e7.symm, q⟩
                · rcases hB with ⟨q1, q2⟩ | ⟨q1, q2, q3⟩
                  · exact absurd j3 (q2 u j1 (by omega))
                  · have q4 : z < (coF (M 12) (M 13) (M 8) (M 3) u (M 0 6)) ∨ (z = (coF (M 12) (M 13) (M 8) (M 3) u (M 0 6)) ∧ rk b (M 0 6).toNat ≤ rk u (M 0 6).toNat) := q3.2.2.2.2 u j1 (by omega) j3
                    exact Or.inl (show (coF (M 12) (M 13) (M 8) (M 3) f (M 0 6)) < (coF (M 12) (M 13) (M 8) (M 3) u (M 0 6)) by omega)
              have L0 := I 6 0 e2 (by omega) (by omega) hnew (by omega) (by omega)
              rw [ini_0] at L0
              exact L0
  have L1 : ∀ (n9 : Nat) (i a : Int), (0 ≤ i) → (i ≤ M 0 6) → (a = 0 ∨ a = 1) → (a = 1 ↔ ∀ l, 0 ≤ l → l < i → (fsM (M 5) (M 9)) l < M 11 l) → M 0 6 - i < n9 → R LyM g mX8_ones (d + 2) 15 [some (vr 0), some (vi a), some (vi i), none, none] [] (mset M 20 (ini (M 20) (fsM (M 5) (M 9)) i)) (fun r M' => ∃ z A B C E, r = some (vi z) ∧ M' = mset (m20 M A B C) 10 E ∧ ((z = -4 ∧ BsN (M 0 6).toNat (fsM (M 5) (M 9)) (lsM (M 5) (M 9) (M 11)) (fun c => feF (M 12) (M 13) (M 8) (M 2) (M 0 6) (M 0 1) c) (32768) ∧ E = M 10) ∨ (0 ≤ z ∧ BsS (M 0 6).toNat (fsM (M 5) (M 9)) (lsM (M 5) (M 9) (M 11)) (fun c => coF (M 12) (M 13) (M 8) (M 3) c (M 0 6)) (fun c => feF (M 12) (M 13) (M 8) (M 2) (M 0 6) (M 0 1) c) (32768) z B ∧ E = onA (clr (M 10) 0 (8 * M 0 6)) B (M 8) (M 0 6).toNat))) := by
    intro n9
    induction n9 with
    | zero =>
      intro i a h0 h1 hz ha hm9
      omega
    | succ n9 ih =>
      intro i a h0 h1 hz ha hm9
      refine r_ldn iX8_ones_15 rfl ?_
      refine r_aldn iX8_ones_16 rfl ?_
      refine r_geti 6 iX8_ones_17 flX8_100 rfl rfl rfl rfl ?_
      try simp only [mset_s, mset_n, mset_mset, m20_n, m20_a, m20_b, m20_c, fset_s, fset_fset, ne_eq, Nat.reduceEqDiff, not_false_eq_true]
      refine r_cge iX8_ones_20 (by omega) (fun h20 => ?_) (fun h20 => ?_)
      · refine r_bip iX8_ones_79 (by decide) ?_
        refine r_stn iX8_ones_81 (by decide) rfl ?_
        rw [show i = M 0 6 by omega] at ha
        rw [show i = M 0 6 by omega]
        have em : mset M 20 (ini (M 20) (fsM (M 5) (M 9)) (M 0 6)) = m20 M (ini (M 20) (fsM (M 5) (M 9)) (M 0 6)) (M 21) (M 22) := by rw [← m20_20 M (M 20), m20_e]
        rw [em]
        have ei : ∀ j, 0 ≤ j → j < M 0 6 → (ini (M 20) (fsM (M 5) (M 9)) (M 0 6)) j = (fsM (M 5) (M 9)) j := fun j j0 j1 => if_pos ⟨j0, j1⟩
        have ev : ∀ v, Bx (M 0 6).toNat (fsM (M 5) (M 9)) (lsM (M 5) (M 9) (M 11)) v → rk (ini (M 20) (fsM (M 5) (M 9)) (M 0 6)) (M 0 6).toNat ≤ rk v (M 0 6).toNat := fun v hv => rk_mono (fun j j0 j1 => by rw [ei j j0 (by omega)]; exact (hv j j0 j1).1)
        have hlt : ∀ l, (lsM (M 5) (M 9) (M 11)) l < M 11 l := fun l => by unfold lsM; split <;> omega
        rcases hz with q | q
        · refine L2 32769 a (-4) 32768 _ _ _ _ _ (Or.inl q) (fun q2 => by omega) (fun _ => rfl) (by omega) (Or.inl ⟨rfl, fun v hv _ _ => ?_⟩) (by omega)
          have := ha.mpr (fun l q0 q1 => by have := hv l q0 (by omega); have := hlt l; omega)
          omega
        · have hx : Bx (M 0 6).toNat (fsM (M 5) (M 9)) (lsM (M 5) (M 9) (M 11)) (ini (M 20) (fsM (M 5) (M 9)) (M 0 6)) := fun j j0 j1 => by
            rw [ei j j0 (by omega)]
            have a1 := ha.mp q j j0 (by omega)
            unfold fsM at a1 ⊢
            unfold lsM
            refine ⟨Int.le_refl _, ?_⟩
            split at a1 <;> split <;> omega
          have px := p8 _ hx
          exact L2 32769 a (-4) _ _ _ _ _ _ (Or.inr q) (fun _ => ⟨hx, rfl⟩) (fun q2 => by omega) (by omega) (Or.inl ⟨rfl, fun v hv q2 _ => by have := ev v hv; omega⟩) (by omega)
      · have hll := hL i h0 (by exact h20)
        have hwl := hW i h0 (by exact h20)
        have hhl := hH i h0 (by exact h20)
        refine r_aldn iX8_ones_23 rfl ?_
        refine r_getr iX8_ones_24 flX8_71 rfl rfl ?_
        refine r_ldn iX8_ones_27 rfl ?_
        refine r_aldn iX8_ones_28 rfl ?_
        refine r_getr iX8_ones_29 flX8_26 rfl rfl ?_
        refine r_ldn iX8_ones_32 rfl ?_
        refine r_ial iX8_ones_33 rfl (by omega) ?_
        refine r_con iX8_ones_34 ?_
        try simp only [mset_s, mset_n, mset_mset, m20_n, m20_a, m20_b, m20_c, fset_s, fset_fset, ne_eq, Nat.reduceEqDiff, not_false_eq_true]
        refine r_cne iX8_ones_35 (by omega) (fun h35 => ?_) (fun h35 => ?_)
        · refine r_con iX8_ones_47 ?_
          refine r_ias iX8_ones_48 rfl (by omega) ?_
          try simp only [mset_s, mset_n, mset_mset, m20_n, m20_a, m20_b, m20_c, fset_s, fset_fset, ne_eq, Nat.reduceEqDiff, not_false_eq_true]
          have e5 : fset (ini (M 20) (fsM (M 5) (M 9)) i) i (0) = (ini (M 20) (fsM (M 5) (M 9)) (i + 1)) := by rw [← ini_1 h0, show (fsM (M 5) (M 9)) i = 0 from if_neg h35]
          rw [e5]
          have e6 : (ini (M 20) (fsM (M 5) (M 9)) (i + 1)) i = 0 := by rw [← e5, fset_s]
          refine r_ldn iX8_ones_49 rfl ?_
          refine r_ifeq iX8_ones_50 (by omega) (fun h50 => ?_) (fun h50 => ?_)
          · refine r_con iX8_ones_71 ?_
            refine r_stn iX8_ones_72 (by decide) rfl ?_
            refine r_inc iX8_ones_73 rfl (by decide) rfl ?_
            refine r_goto iX8_ones_76 ?_
            have fi : (fsM (M 5) (M 9)) i = 0 := if_neg h35
            refine ih (i + 1) 0 (by omega) (by omega) (Or.inl rfl) ⟨fun q => by omega, fun q => ?_⟩ (by omega)
            have := ha.mpr (fun l q0 q1 => q l q0 (by omega))
            omega
          · refine r_aldn iX8_ones_53 rfl ?_
            refine r_ldn iX8_ones_54 rfl ?_
            refine r_aldn iX8_ones_55 rfl ?_
            refine r_getr iX8_ones_56 flX8_71 rfl rfl ?_
            refine r_ldn iX8_ones_59 rfl ?_
            refine r_ial iX8_ones_60 rfl (by omega) ?_
            try simp only [mset_s, mset_n, mset_mset, m20_n, m20_a, m20_b, m20_c, fset_s, fset_fset, ne_eq, Nat.reduceEqDiff, not_false_eq_true]
            rw [e6]
            refine call_V2i iX8_ones_61 clX8_145 myX8_isWay rfl rfl rfl rfl (sX8_isWay (M := mset M 20 (ini (M 20) (fsM (M 5) (M 9)) (i + 1))) _ _ _ (by omega) (by omega) hwl.1) ?_
            try simp only [mset_s, mset_n, mset_mset, m20_n, m20_a, m20_b, m20_c, fset_s, fset_fset, ne_eq, Nat.reduceEqDiff, not_false_eq_true]
            refine r_ifeq iX8_ones_64 (by split <;> omega) (fun h64 => ?_) (fun h64 => ?_)
            · rw [ite10] at h64
              refine r_con iX8_ones_71 ?_
              refine r_stn iX8_ones_72 (by decide) rfl ?_
              refine r_inc iX8_ones_73 rfl (by decide) rfl ?_
              refine r_goto iX8_ones_76 ?_
              have fi : (fsM (M 5) (M 9)) i = 0 := if_neg h35
              refine ih (i + 1) 0 (by omega) (by omega) (Or.inl rfl) ⟨fun q => by omega, fun q => ?_⟩ (by omega)
              have := q i h0 (by omega)
              omega
            · rw [ne_eq, ite10n] at h64
              refine r_con iX8_ones_67 ?_
              refine r_goto iX8_ones_68 ?_
              refine r_stn iX8_ones_72 (by decide) rfl ?_
              refine r_inc iX8_ones_73 rfl (by decide) rfl ?_
              refine r_goto iX8_ones_76 ?_
              have fi : (fsM (M 5) (M 9)) i = 0 := if_neg h35
              refine ih (i + 1) 1 (by omega) (by omega) (Or.inr rfl) ⟨fun _ l q0 q1 => ?_, fun _ => rfl⟩ (by omega)
              by_cases e : l = i
              · rw [e]; omega
              · exact ha.mp (by omega) l q0 (by omega)
        · refine r_aldn iX8_ones_38 rfl ?_
          refine r_getr iX8_ones_39 flX8_38 rfl rfl ?_
          refine r_ldn iX8_ones_42 rfl ?_
          refine r_ial iX8_ones_43 rfl (by omega) ?_
          refine r_goto iX8_ones_44 ?_
          refine r_ias iX8_ones_48 rfl (by omega) ?_
          try simp only [mset_s, mset_n, mset_mset, m20_n, m20_a, m20_b, m20_c, fset_s, fset_fset, ne_eq, Nat.reduceEqDiff, not_false_eq_true]
          have e5 : fset (ini (M 20) (fsM (M 5) (M 9)) i) i (M 9 i) = (ini (M 20) (fsM (M 5) (M 9)) (i + 1)) := by rw [← ini_1 h0, show (fsM (M 5) (M 9)) i = M 9 i from if_pos h35]
          rw [e5]
          have e6 : (ini (M 20) (fsM (M 5) (M 9)) (i + 1)) i = M 9 i := by rw [← e5, fset_s]
          refine r_ldn iX8_ones_49 rfl ?_
          refine r_ifeq iX8_ones_50 (by omega) (fun h50 => ?_) (fun h50 => ?_)
          · refine r_con iX8_ones_71 ?_
            refine r_stn iX8_ones_72 (by decide) rfl ?_
            refine r_inc iX8_ones_73 rfl (by decide) rfl ?_
            refine r_goto iX8_ones_76 ?_
            have fi : (fsM (M 5) (M 9)) i = M 9 i := if_pos h35
            refine ih (i + 1) 0 (by omega) (by omega) (Or.inl rfl) ⟨fun q => by omega, fun q => ?_⟩ (by omega)
            have := ha.mpr (fun l q0 q1 => q l q0 (by omega))
            omega
          · refine r_aldn iX8_ones_53 rfl ?_
            refine r_ldn iX8_ones_54 rfl ?_
            refine r_aldn iX8_ones_55 rfl ?_
            refine r_getr iX8_ones_56 flX8_71 rfl rfl ?_
            refine r_ldn iX8_ones_59 rfl ?_
            refine r_ial iX8_ones_60 rfl (by omega) ?_
            try simp only [mset_s, mset_n, mset_mset, m20_n, m20_a, m20_b, m20_c, fset_s, fset_fset, ne_eq, Nat.reduceEqDiff, not_false_eq_true]
            rw [e6]
            refine call_V2i iX8_ones_61 clX8_145 myX8_isWay rfl rfl rfl rfl (sX8_isWay (M := mset M 20 (ini (M 20) (fsM (M 5) (M 9)) (i + 1))) _ _ _ (by omega) (by omega) hwl.1) ?_
            try simp only [mset_s, mset_n, mset_mset, m20_n, m20_a, m20_b, m20_c, fset_s, fset_fset, ne_eq, Nat.reduceEqDiff, not_false_eq_true]
            refine r_ifeq iX8_ones_64 (by split <;> omega) (fun h64 => ?_) (fun h64 => ?_)
            · rw [ite10] at h64
              refine r_con iX8_ones_71 ?_
              refine r_stn iX8_ones_72 (by decide) rfl ?_
              refine r_inc iX8_ones_73 rfl (by decide) rfl ?_
              refine r_goto iX8_ones_76 ?_
              have fi : (fsM (M 5) (M 9)) i = M 9 i := if_pos h35
              refine ih (i + 1) 0 (by omega) (by omega) (Or.inl rfl) ⟨fun q => by omega, fun q => ?_⟩ (by omega)
              have := q i h0 (by omega)
              omega
            · rw [ne_eq, ite10n] at h64
              refine r_con iX8_ones_67 ?_
              refine r_goto iX8_ones_68 ?_
              refine r_stn iX8_ones_72 (by decide) rfl ?_
              refine r_inc iX8_ones_73 rfl (by decide) rfl ?_
              refine r_goto iX8_ones_76 ?_
              have fi : (fsM (M 5) (M 9)) i = M 9 i := if_pos h35
              refine ih (i + 1) 1 (by omega) (by omega) (Or.inr rfl) ⟨fun _ l q0 q1 => ?_, fun _ => rfl⟩ (by omega)
              by_cases e : l = i
              · rw [e]; omega
              · exact ha.mp (by omega) l q0 (by omega)
  refine r_aldn iX8_ones_0 rfl ?_
  refine r_geti 6 iX8_ones_1 flX8_100 rfl rfl rfl rfl ?_
  refine r_ifle iX8_ones_4 (by omega) (fun h4 => ?_) (fun h4 => ?_)
  · exfalso; omega
  · refine r_con iX8_ones_7 ?_
    refine r_goto iX8_ones_8 ?_
    refine r_stn iX8_ones_12 (by decide) rfl ?_
    refine r_con iX8_ones_13 ?_
    refine r_stn iX8_ones_14 (by decide) rfl ?_
    have L0 := L1 6 0 1 (by omega) (by omega) (Or.inr rfl) ⟨fun _ l q0 q1 => by omega, fun _ => rfl⟩ (by omega)
    rw [ini_0, mset_eq rfl] at L0
    exact L0
end RK
