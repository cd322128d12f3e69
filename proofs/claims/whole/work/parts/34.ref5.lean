/-! the reference: what is kept -/
def kp5 (f v0 v1 v2 v3 v4 : Int → Int) : Nat → Int → Int
  | 0 => f
  | i + 1 => fset (fset (fset (fset (fset (kp5 f v0 v1 v2 v3 v4 i) (5 * i) (v0 i)) (5 * i + 1) (v1 i)) (5 * i + 2) (v2 i)) (5 * i + 3) (v3 i)) (5 * i + 4) (v4 i)
theorem kp5_1 {f v0 v1 v2 v3 v4 : Int → Int} {i : Int} (h : 0 ≤ i) : kp5 f v0 v1 v2 v3 v4 (i + 1).toNat = fset (fset (fset (fset (fset (kp5 f v0 v1 v2 v3 v4 i.toNat) (5 * i) (v0 i)) (5 * i + 1) (v1 i)) (5 * i + 2) (v2 i)) (5 * i + 3) (v3 i)) (5 * i + 4) (v4 i) := by
  rw [show (i + 1).toNat = i.toNat + 1 by omega]
  simp only [kp5]
  rw [show ((i.toNat : Nat) : Int) = i by omega]
theorem kp5_at {f v0 v1 v2 v3 v4 : Int → Int} {r : Int} (h0 : 0 ≤ r) : ∀ {n : Nat}, r < n → kp5 f v0 v1 v2 v3 v4 n (5 * r) = v0 r ∧ kp5 f v0 v1 v2 v3 v4 n (5 * r + 1) = v1 r ∧ kp5 f v0 v1 v2 v3 v4 n (5 * r + 2) = v2 r ∧ kp5 f v0 v1 v2 v3 v4 n (5 * r + 3) = v3 r ∧ kp5 f v0 v1 v2 v3 v4 n (5 * r + 4) = v4 r
  | 0, h => by omega
  | n + 1, h => by
    simp only [kp5]
    by_cases e : r = n
    · subst e
      refine ⟨?_, ?_, ?_, ?_, ?_⟩
      · rw [fset_n (by omega), fset_n (by omega), fset_n (by omega), fset_n (by omega), fset_s]
      · rw [fset_n (by omega), fset_n (by omega), fset_n (by omega), fset_s]
      · rw [fset_n (by omega), fset_n (by omega), fset_s]
      · rw [fset_n (by omega), fset_s]
      · rw [fset_s]
    · have ih := kp5_at (f := f) (v0 := v0) (v1 := v1) (v2 := v2) (v3 := v3) (v4 := v4) h0 (n := n) (by omega)
      refine ⟨?_, ?_, ?_, ?_, ?_⟩
      · rw [fset_n (by omega), fset_n (by omega), fset_n (by omega), fset_n (by omega), fset_n (by omega)]; exact ih.1
      · rw [fset_n (by omega), fset_n (by omega), fset_n (by omega), fset_n (by omega), fset_n (by omega)]; exact ih.2.1
      · rw [fset_n (by omega), fset_n (by omega), fset_n (by omega), fset_n (by omega), fset_n (by omega)]; exact ih.2.2.1
      · rw [fset_n (by omega), fset_n (by omega), fset_n (by omega), fset_n (by omega), fset_n (by omega)]; exact ih.2.2.2.1
      · rw [fset_n (by omega), fset_n (by omega), fset_n (by omega), fset_n (by omega), fset_n (by omega)]; exact ih.2.2.2.2
def kp2 (f v0 v1 : Int → Int) : Nat → Int → Int
  | 0 => f
  | i + 1 => fset (fset (kp2 f v0 v1 i) (2 * i) (v0 i)) (2 * i + 1) (v1 i)
theorem kp2_1 {f v0 v1 : Int → Int} {i : Int} (h : 0 ≤ i) : kp2 f v0 v1 (i + 1).toNat = fset (fset (kp2 f v0 v1 i.toNat) (2 * i) (v0 i)) (2 * i + 1) (v1 i) := by
  rw [show (i + 1).toNat = i.toNat + 1 by omega]
  simp only [kp2]
  rw [show ((i.toNat : Nat) : Int) = i by omega]
theorem kp2_at {f v0 v1 : Int → Int} {r : Int} (h0 : 0 ≤ r) : ∀ {n : Nat}, r < n → kp2 f v0 v1 n (2 * r) = v0 r ∧ kp2 f v0 v1 n (2 * r + 1) = v1 r
  | 0, h => by omega
  | n + 1, h => by
    simp only [kp2]
    by_cases e : r = n
    · subst e
      refine ⟨?_, ?_⟩
      · rw [fset_n (by omega), fset_s]
      · rw [fset_s]
    · have ih := kp2_at (f := f) (v0 := v0) (v1 := v1) h0 (n := n) (by omega)
      refine ⟨?_, ?_⟩
      · rw [fset_n (by omega), fset_n (by omega)]; exact ih.1
      · rw [fset_n (by omega), fset_n (by omega)]; exact ih.2
def keM (M : Mem) : Mem := mset (mset (mset (mset (mset M 0 (fset (M 0) 16 1)) 14 (fset (fset (fset (M 14) 0 (M 0 0)) 1 (M 0 1)) 2 (M 0 6))) 15 (kp5 (M 15) (aM M) (bM M) (M 2) (M 3) (M 4) 20)) 16 (kp5 (M 16) (M 5) (M 6) (M 7) (M 8) (M 9) 5)) 17 (ini (M 17) (M 10) 40)
/-- as it was kept, before the ways are found -/
def bkM (M : Mem) : Mem := fun k =>
  if k = 0 then fset (fset (fset (M 0) 0 (M 14 0)) 1 (M 14 1)) 6 (M 14 2)
  else if k = 1 then kp2 (M 1) (fun r => M 15 (5 * r)) (fun r => M 15 (5 * r + 1)) 20
  else if k = 2 then ini (M 2) (fun r => M 15 (5 * r + 2)) 20
  else if k = 3 then ini (M 3) (fun r => M 15 (5 * r + 3)) 20
  else if k = 4 then ini (M 4) (fun r => M 15 (5 * r + 4)) 20
  else if k = 5 then ini (M 5) (fun l => M 16 (5 * l)) 5
  else if k = 6 then ini (M 6) (fun l => M 16 (5 * l + 1)) 5
  else if k = 7 then ini (M 7) (fun l => M 16 (5 * l + 2)) 5
  else if k = 8 then ini (M 8) (fun l => M 16 (5 * l + 3)) 5
  else if k = 9 then ini (M 9) (fun l => M 16 (5 * l + 4)) 5
  else if k = 10 then ini (M 10) (M 17) 40
  else M k
def b1M (M : Mem) (i : Int) : Mem := fun k =>
  if k = 0 then fset (fset (fset (M 0) 0 (M 14 0)) 1 (M 14 1)) 6 (M 14 2)
  else if k = 1 then kp2 (M 1) (fun r => M 15 (5 * r)) (fun r => M 15 (5 * r + 1)) i.toNat
  else if k = 2 then ini (M 2) (fun r => M 15 (5 * r + 2)) i
  else if k = 3 then ini (M 3) (fun r => M 15 (5 * r + 3)) i
  else if k = 4 then ini (M 4) (fun r => M 15 (5 * r + 4)) i
  else M k
def b2M (M : Mem) (i : Int) : Mem := fun k =>
  if k = 5 then ini (M 5) (fun l => M 16 (5 * l)) i
  else if k = 6 then ini (M 6) (fun l => M 16 (5 * l + 1)) i
  else if k = 7 then ini (M 7) (fun l => M 16 (5 * l + 2)) i
  else if k = 8 then ini (M 8) (fun l => M 16 (5 * l + 3)) i
  else if k = 9 then ini (M 9) (fun l => M 16 (5 * l + 4)) i
  else b1M M 20 k
theorem b1M_1 {M : Mem} {i : Int} (h : 0 ≤ i) : mset (mset (mset (mset (mset (b1M M i) 1 (fset (b1M M i 1) (2 * i) (M 15 (5 * i)))) 1 (fset (fset (b1M M i 1) (2 * i) (M 15 (5 * i))) (2 * i + 1) (M 15 (5 * i + 1)))) 2 (fset (b1M M i 2) i (M 15 (5 * i + 2)))) 3 (fset (b1M M i 3) i (M 15 (5 * i + 3)))) 4 (fset (b1M M i 4) i (M 15 (5 * i + 4))) = b1M M (i + 1) := by
  have e1 := kp2_1 (f := M 1) (v0 := fun r => M 15 (5 * r)) (v1 := fun r => M 15 (5 * r + 1)) h
  have e2 := ini_1 (f := M 2) (v := fun r => M 15 (5 * r + 2)) h
  have e3 := ini_1 (f := M 3) (v := fun r => M 15 (5 * r + 3)) h
  have e4 := ini_1 (f := M 4) (v := fun r => M 15 (5 * r + 4)) h
  funext k
  by_cases k4 : k = 4
  · subst k4; rw [mset_s]; exact e4
  by_cases k3 : k = 3
  · subst k3; rw [mset_n (by decide), mset_s]; exact e3
  by_cases k2 : k = 2
  · subst k2; rw [mset_n (by decide), mset_n (by decide), mset_s]; exact e2
  by_cases k1 : k = 1
  · subst k1; rw [mset_n (by decide), mset_n (by decide), mset_n (by decide), mset_s]; exact e1.symm
  rw [mset_n k4, mset_n k3, mset_n k2, mset_n k1, mset_n k1]
  simp only [b1M, k1, k2, k3, k4, if_false]
theorem b2M_1 {M : Mem} {i : Int} (h : 0 ≤ i) : mset (mset (mset (mset (mset (b2M M i) 5 (fset (b2M M i 5) i (M 16 (5 * i)))) 6 (fset (b2M M i 6) i (M 16 (5 * i + 1)))) 7 (fset (b2M M i 7) i (M 16 (5 * i + 2)))) 8 (fset (b2M M i 8) i (M 16 (5 * i + 3)))) 9 (fset (b2M M i 9) i (M 16 (5 * i + 4))) = b2M M (i + 1) := by
  have e5 := ini_1 (f := M 5) (v := fun r => M 16 (5 * r)) h
  have e6 := ini_1 (f := M 6) (v := fun r => M 16 (5 * r + 1)) h
  have e7 := ini_1 (f := M 7) (v := fun r => M 16 (5 * r + 2)) h
  have e8 := ini_1 (f := M 8) (v := fun r => M 16 (5 * r + 3)) h
  have e9 := ini_1 (f := M 9) (v := fun r => M 16 (5 * r + 4)) h
  funext k
  by_cases k9 : k = 9
  · subst k9; rw [mset_s]; exact e9
  by_cases k8 : k = 8
  · subst k8; rw [mset_n (by decide), mset_s]; exact e8
  by_cases k7 : k = 7
  · subst k7; rw [mset_n (by decide), mset_n (by decide), mset_s]; exact e7
  by_cases k6 : k = 6
  · subst k6; rw [mset_n (by decide), mset_n (by decide), mset_n (by decide), mset_s]; exact e6
  by_cases k5 : k = 5
  · subst k5; rw [mset_n (by decide), mset_n (by decide), mset_n (by decide), mset_n (by decide), mset_s]; exact e5
  rw [mset_n k9, mset_n k8, mset_n k7, mset_n k6, mset_n k5]
  simp only [b2M, k5, k6, k7, k8, k9, if_false]
theorem b1M_0 (M : Mem) : b1M M 0 = mset M 0 (fset (fset (fset (M 0) 0 (M 14 0)) 1 (M 14 1)) 6 (M 14 2)) := by
  funext k
  simp only [b1M, mset]
  by_cases k0 : k = 0
  · rw [if_pos k0, if_pos k0]
  rw [if_neg k0, if_neg k0]
  by_cases k1 : k = 1
  · subst k1; rfl
  rw [if_neg k1]
  by_cases k2 : k = 2
  · subst k2; exact ini_0 _ _
  rw [if_neg k2]
  by_cases k3 : k = 3
  · subst k3; exact ini_0 _ _
  rw [if_neg k3]
  by_cases k4 : k = 4
  · subst k4; exact ini_0 _ _
  rw [if_neg k4]
theorem b2M_0 (M : Mem) : b2M M 0 = b1M M 20 := by
  funext k
  simp only [b2M]
  by_cases k5 : k = 5
  · subst k5; exact ini_0 _ _
  rw [if_neg k5]
  by_cases k6 : k = 6
  · subst k6; exact ini_0 _ _
  rw [if_neg k6]
  by_cases k7 : k = 7
  · subst k7; exact ini_0 _ _
  rw [if_neg k7]
  by_cases k8 : k = 8
  · subst k8; exact ini_0 _ _
  rw [if_neg k8]
  by_cases k9 : k = 9
  · subst k9; exact ini_0 _ _
  rw [if_neg k9]
theorem b3M_e (M : Mem) : mset (b2M M 5) 10 (ini (M 10) (M 17) 40) = bkM M := by
  funext k
  by_cases k10 : k = 10
  · subst k10; rw [mset_s]; rfl
  rw [mset_n k10]
  simp only [b2M, b1M, bkM, k10, if_false]
  by_cases k0 : k = 0
  · subst k0; rfl
  by_cases k1 : k = 1
  · subst k1; rfl
  by_cases k2 : k = 2
  · subst k2; rfl
  by_cases k3 : k = 3
  · subst k3; rfl
  by_cases k4 : k = 4
  · subst k4; rfl
  simp only [k0, k1, k2, k3, k4, if_false]
section RF
variable {g : Gt} {M : Mem}
theorem sX8_keep (d : Nat) : Ex LyM g (d) mX8_keep [vr 0] M (PI 1 (keM M)) := by
  refine Ex.in [some (vr 0), none] (by decide +kernel) rfl (Nat.le_of_ble_eq_true rfl) ?_ rfl
  have L3 : ∀ (n9 : Nat) (i : Int), (0 ≤ i) → (i ≤ 40) → 40 - i < n9 → R LyM g mX8_keep (d) 226 [some (vr 0), some (vi i)] [] (mset (mset (mset (mset (mset M 0 (fset (M 0) 16 1)) 14 (fset (fset (fset (M 14) 0 (M 0 0)) 1 (M 0 1)) 2 (M 0 6))) 15 (kp5 (M 15) (aM M) (bM M) (M 2) (M 3) (M 4) 20)) 16 (kp5 (M 16) (M 5) (M 6) (M 7) (M 8) (M 9) 5)) 17 (ini (M 17) (M 10) i)) (PI 1 (keM M)) := by
    intro n9
    induction n9 with
    | zero =>
      intro i h0 h1 hm9
      omega
    | succ n9 ih =>
      intro i h0 h1 hm9
      refine r_ldn iX8_keep_226 rfl ?_
      refine r_bip iX8_keep_227 (by decide) ?_
      refine r_cge iX8_keep_229 (by omega) (fun h229 => ?_) (fun h229 => ?_)
      · refine r_con iX8_keep_250 ?_
        refine r_iret iX8_keep_251 rfl ?_
        rw [show i = 40 by omega]
        exact ⟨rfl, rfl⟩
      · refine r_aldn iX8_keep_232 rfl ?_
        refine r_getr iX8_keep_233 flX8_62 rfl rfl ?_
        refine r_ldn iX8_keep_236 rfl ?_
        refine r_aldn iX8_keep_237 rfl ?_
        refine r_getr iX8_keep_238 flX8_41 rfl rfl ?_
        refine r_ldn iX8_keep_241 rfl ?_
        refine r_ial iX8_keep_242 rfl (by omega) ?_
        try simp only [mset_s, mset_n, mset_mset, fset_s, ne_eq, Nat.reduceEqDiff, not_false_eq_true]
        refine r_ias iX8_keep_243 rfl (by omega) ?_
        refine r_inc iX8_keep_244 rfl (by decide) rfl ?_
        refine r_goto iX8_keep_247 ?_
        try simp only [mset_s, mset_n, mset_mset, fset_s, ne_eq, Nat.reduceEqDiff, not_false_eq_true]
        rw [ini_1 h0]
        exact ih (i + 1) (by omega) (by omega) (by omega)
  have L2 : ∀ (n9 : Nat) (i : Int), (0 ≤ i) → (i ≤ 5) → 5 - i < n9 → R LyM g mX8_keep (d) 135 [some (vr 0), some (vi i)] [] (mset (mset (mset (mset M 0 (fset (M 0) 16 1)) 14 (fset (fset (fset (M 14) 0 (M 0 0)) 1 (M 0 1)) 2 (M 0 6))) 15 (kp5 (M 15) (aM M) (bM M) (M 2) (M 3) (M 4) 20)) 16 (kp5 (M 16) (M 5) (M 6) (M 7) (M 8) (M 9) i.toNat)) (PI 1 (keM M)) := by
    intro n9
    induction n9 with
    | zero =>
      intro i h0 h1 hm9
      omega
    | succ n9 ih =>
      intro i h0 h1 hm9
      refine r_ldn iX8_keep_135 rfl ?_
      refine r_con iX8_keep_136 ?_
      refine r_cge iX8_keep_137 (by omega) (fun h137 => ?_) (fun h137 => ?_)
      · refine r_con iX8_keep_224 ?_
        refine r_stn iX8_keep_225 (by decide) rfl ?_
        rw [show i = 5 by omega]
        have L0 := L3 41 0 (by omega) (by omega) (by omega)
        rw [ini_0] at L0
        refine R_mem ?_ L0
        exact mset_eq (by simp [mset_n])
      · refine r_aldn iX8_keep_140 rfl ?_
        refine r_getr iX8_keep_141 flX8_59 rfl rfl ?_
        refine r_con iX8_keep_144 ?_
        refine r_ldn iX8_keep_145 rfl ?_
        refine r_mul iX8_keep_146 ?_
        refine r_aldn iX8_keep_147 rfl ?_
        refine r_getr iX8_keep_148 flX8_26 rfl rfl ?_
        refine r_ldn iX8_keep_151 rfl ?_
        refine r_ial iX8_keep_152 rfl (by omega) ?_
        try simp only [mset_s, mset_n, mset_mset, fset_s, ne_eq, Nat.reduceEqDiff, not_false_eq_true]
        refine r_ias iX8_keep_153 rfl (by omega) ?_
        refine r_aldn iX8_keep_154 rfl ?_
        refine r_getr iX8_keep_155 flX8_59 rfl rfl ?_
        refine r_con iX8_keep_158 ?_
        refine r_ldn iX8_keep_159 rfl ?_
        refine r_mul iX8_keep_160 ?_
        refine r_con iX8_keep_161 ?_
        refine r_add iX8_keep_162 ?_
        refine r_aldn iX8_keep_163 rfl ?_
        refine r_getr iX8_keep_164 flX8_29 rfl rfl ?_
        refine r_ldn iX8_keep_167 rfl ?_
        refine r_ial iX8_keep_168 rfl (by omega) ?_
        try simp only [mset_s, mset_n, mset_mset, fset_s, ne_eq, Nat.reduceEqDiff, not_false_eq_true]
        refine r_ias iX8_keep_169 rfl (by omega) ?_
        refine r_aldn iX8_keep_170 rfl ?_
        refine r_getr iX8_keep_171 flX8_59 rfl rfl ?_
        refine r_con iX8_keep_174 ?_
        refine r_ldn iX8_keep_175 rfl ?_
        refine r_mul iX8_keep_176 ?_
        refine r_con iX8_keep_177 ?_
        refine r_add iX8_keep_178 ?_
        refine r_aldn iX8_keep_179 rfl ?_
        refine r_getr iX8_keep_180 flX8_32 rfl rfl ?_
        refine r_ldn iX8_keep_183 rfl ?_
        refine r_ial iX8_keep_184 rfl (by omega) ?_
        try simp only [mset_s, mset_n, mset_mset, fset_s, ne_eq, Nat.reduceEqDiff, not_false_eq_true]
        refine r_ias iX8_keep_185 rfl (by omega) ?_
        refine r_aldn iX8_keep_186 rfl ?_
        refine r_getr iX8_keep_187 flX8_59 rfl rfl ?_
        refine r_con iX8_keep_190 ?_
        refine r_ldn iX8_keep_191 rfl ?_
        refine r_mul iX8_keep_192 ?_
        refine r_con iX8_keep_193 ?_
        refine r_add iX8_keep_194 ?_
        refine r_aldn iX8_keep_195 rfl ?_
        refine r_getr iX8_keep_196 flX8_35 rfl rfl ?_
        refine r_ldn iX8_keep_199 rfl ?_
        refine r_ial iX8_keep_200 rfl (by omega) ?_
        try simp only [mset_s, mset_n, mset_mset, fset_s, ne_eq, Nat.reduceEqDiff, not_false_eq_true]
        refine r_ias iX8_keep_201 rfl (by omega) ?_
        refine r_aldn iX8_keep_202 rfl ?_
        refine r_getr iX8_keep_203 flX8_59 rfl rfl ?_
        refine r_con iX8_keep_206 ?_
        refine r_ldn iX8_keep_207 rfl ?_
        refine r_mul iX8_keep_208 ?_
        refine r_con iX8_keep_209 ?_
        refine r_add iX8_keep_210 ?_
        refine r_aldn iX8_keep_211 rfl ?_
        refine r_getr iX8_keep_212 flX8_38 rfl rfl ?_
        refine r_ldn iX8_keep_215 rfl ?_
        refine r_ial iX8_keep_216 rfl (by omega) ?_
        try simp only [mset_s, mset_n, mset_mset, fset_s, ne_eq, Nat.reduceEqDiff, not_false_eq_true]
        refine r_ias iX8_keep_217 rfl (by omega) ?_
        refine r_inc iX8_keep_218 rfl (by decide) rfl ?_
        refine r_goto iX8_keep_221 ?_
        try simp only [mset_s, mset_n, mset_mset, fset_s, ne_eq, Nat.reduceEqDiff, not_false_eq_true]
        have e1 := kp5_1 (f := M 16) (v0 := M 5) (v1 := M 6) (v2 := M 7) (v3 := M 8) (v4 := M 9) h0
        rw [← e1]
        exact ih (i + 1) (by omega) (by omega) (by omega)
  have L1 : ∀ (n9 : Nat) (i : Int), (0 ≤ i) → (i ≤ 20) → 20 - i < n9 → R LyM g mX8_keep (d) 37 [some (vr 0), some (vi i)] [] (mset (mset (mset M 0 (fset (M 0) 16 1)) 14 (fset (fset (fset (M 14) 0 (M 0 0)) 1 (M 0 1)) 2 (M 0 6))) 15 (kp5 (M 15) (aM M) (bM M) (M 2) (M 3) (M 4) i.toNat)) (PI 1 (keM M)) := by
    intro n9
    induction n9 with
    | zero =>
      intro i h0 h1 hm9
      omega
    | succ n9 ih =>
      intro i h0 h1 hm9
      refine r_ldn iX8_keep_37 rfl ?_
      refine r_bip iX8_keep_38 (by decide) ?_
      refine r_cge iX8_keep_40 (by omega) (fun h40 => ?_) (fun h40 => ?_)
      · refine r_con iX8_keep_133 ?_
        refine r_stn iX8_keep_134 (by decide) rfl ?_
        rw [show i = 20 by omega]
        have L0 := L2 6 0 (by omega) (by omega) (by omega)
        refine R_mem ?_ L0
        exact mset_eq (by simp [mset_n, kp5])
      · refine r_aldn iX8_keep_43 rfl ?_
        refine r_getr iX8_keep_44 flX8_56 rfl rfl ?_
        refine r_con iX8_keep_47 ?_
        refine r_ldn iX8_keep_48 rfl ?_
        refine r_mul iX8_keep_49 ?_
        refine r_aldn iX8_keep_50 rfl ?_
        refine r_getr iX8_keep_51 flX8_13 rfl rfl ?_
        refine r_con iX8_keep_54 ?_
        refine r_ldn iX8_keep_55 rfl ?_
        refine r_mul iX8_keep_56 ?_
        refine r_ial iX8_keep_57 rfl (by omega) ?_
        try simp only [mset_s, mset_n, mset_mset, fset_s, ne_eq, Nat.reduceEqDiff, not_false_eq_true]
        refine r_ias iX8_keep_58 rfl (by omega) ?_
        refine r_aldn iX8_keep_59 rfl ?_
        refine r_getr iX8_keep_60 flX8_56 rfl rfl ?_
        refine r_con iX8_keep_63 ?_
        refine r_ldn iX8_keep_64 rfl ?_
        refine r_mul iX8_keep_65 ?_
        refine r_con iX8_keep_66 ?_
        refine r_add iX8_keep_67 ?_
        refine r_aldn iX8_keep_68 rfl ?_
        refine r_getr iX8_keep_69 flX8_13 rfl rfl ?_
        refine r_con iX8_keep_72 ?_
        refine r_ldn iX8_keep_73 rfl ?_
        refine r_mul iX8_keep_74 ?_
        refine r_con iX8_keep_75 ?_
        refine r_add iX8_keep_76 ?_
        refine r_ial iX8_keep_77 rfl (by omega) ?_
        try simp only [mset_s, mset_n, mset_mset, fset_s, ne_eq, Nat.reduceEqDiff, not_false_eq_true]
        refine r_ias iX8_keep_78 rfl (by omega) ?_
        refine r_aldn iX8_keep_79 rfl ?_
        refine r_getr iX8_keep_80 flX8_56 rfl rfl ?_
        refine r_con iX8_keep_83 ?_
        refine r_ldn iX8_keep_84 rfl ?_
        refine r_mul iX8_keep_85 ?_
        refine r_con iX8_keep_86 ?_
        refine r_add iX8_keep_87 ?_
        refine r_aldn iX8_keep_88 rfl ?_
        refine r_getr iX8_keep_89 flX8_17 rfl rfl ?_
        refine r_ldn iX8_keep_92 rfl ?_
        refine r_ial iX8_keep_93 rfl (by omega) ?_
        try simp only [mset_s, mset_n, mset_mset, fset_s, ne_eq, Nat.reduceEqDiff, not_false_eq_true]
        refine r_ias iX8_keep_94 rfl (by omega) ?_
        refine r_aldn iX8_keep_95 rfl ?_
        refine r_getr iX8_keep_96 flX8_56 rfl rfl ?_
        refine r_con iX8_keep_99 ?_
        refine r_ldn iX8_keep_100 rfl ?_
        refine r_mul iX8_keep_101 ?_
        refine r_con iX8_keep_102 ?_
        refine r_add iX8_keep_103 ?_
        refine r_aldn iX8_keep_104 rfl ?_
        refine r_getr iX8_keep_105 flX8_20 rfl rfl ?_
        refine r_ldn iX8_keep_108 rfl ?_
        refine r_ial iX8_keep_109 rfl (by omega) ?_
        try simp only [mset_s, mset_n, mset_mset, fset_s, ne_eq, Nat.reduceEqDiff, not_false_eq_true]
        refine r_ias iX8_keep_110 rfl (by omega) ?_
        refine r_aldn iX8_keep_111 rfl ?_
        refine r_getr iX8_keep_112 flX8_56 rfl rfl ?_
        refine r_con iX8_keep_115 ?_
        refine r_ldn iX8_keep_116 rfl ?_
        refine r_mul iX8_keep_117 ?_
        refine r_con iX8_keep_118 ?_
        refine r_add iX8_keep_119 ?_
        refine r_aldn iX8_keep_120 rfl ?_
        refine r_getr iX8_keep_121 flX8_23 rfl rfl ?_
        refine r_ldn iX8_keep_124 rfl ?_
        refine r_ial iX8_keep_125 rfl (by omega) ?_
        try simp only [mset_s, mset_n, mset_mset, fset_s, ne_eq, Nat.reduceEqDiff, not_false_eq_true]
        refine r_ias iX8_keep_126 rfl (by omega) ?_
        refine r_inc iX8_keep_127 rfl (by decide) rfl ?_
        refine r_goto iX8_keep_130 ?_
        try simp only [mset_s, mset_n, mset_mset, fset_s, ne_eq, Nat.reduceEqDiff, not_false_eq_true]
        have e1 := kp5_1 (f := M 15) (v0 := aM M) (v1 := bM M) (v2 := M 2) (v3 := M 3) (v4 := M 4) h0
        have e2 : aM M i = M 1 (2 * i) := rfl
        have e3 : bM M i = M 1 (2 * i + 1) := rfl
        rw [e2, e3] at e1
        rw [← e1]
        exact ih (i + 1) (by omega) (by omega) (by omega)
  refine r_aldn iX8_keep_0 rfl ?_
  refine r_con iX8_keep_1 ?_
  refine r_putz 16 iX8_keep_2 fpX8_240 rfl rfl (by omega) rfl ?_
  refine r_aldn iX8_keep_5 rfl ?_
  refine r_getr iX8_keep_6 flX8_53 rfl rfl ?_
  refine r_con iX8_keep_9 ?_
  refine r_aldn iX8_keep_10 rfl ?_
  refine r_geti 0 iX8_keep_11 flX8_7 rfl rfl rfl rfl ?_
  try simp only [mset_s, mset_n, mset_mset, fset_s, ne_eq, Nat.reduceEqDiff, not_false_eq_true]
  refine r_ias iX8_keep_14 rfl (by omega) ?_
  refine r_aldn iX8_keep_15 rfl ?_
  refine r_getr iX8_keep_16 flX8_53 rfl rfl ?_
  refine r_con iX8_keep_19 ?_
  refine r_aldn iX8_keep_20 rfl ?_
  refine r_geti 1 iX8_keep_21 flX8_97 rfl rfl rfl rfl ?_
  try simp only [mset_s, mset_n, mset_mset, fset_s, ne_eq, Nat.reduceEqDiff, not_false_eq_true]
  refine r_ias iX8_keep_24 rfl (by omega) ?_
  refine r_aldn iX8_keep_25 rfl ?_
  refine r_getr iX8_keep_26 flX8_53 rfl rfl ?_
  refine r_con iX8_keep_29 ?_
  refine r_aldn iX8_keep_30 rfl ?_
  refine r_geti 6 iX8_keep_31 flX8_100 rfl rfl rfl rfl ?_
  try simp only [mset_s, mset_n, mset_mset, fset_s, ne_eq, Nat.reduceEqDiff, not_false_eq_true]
  refine r_ias iX8_keep_34 rfl (by omega) ?_
  refine r_con iX8_keep_35 ?_
  refine r_stn iX8_keep_36 (by decide) rfl ?_
  try simp only [mset_s, mset_n, mset_mset, fset_s, ne_eq, Nat.reduceEqDiff, not_false_eq_true]
  have L0 := L1 21 0 (by omega) (by omega) (by omega)
  refine R_mem ?_ L0
  refine (mset_eq ?_).trans ?_
  · simp [mset_n, kp5]
  · simp [fset]
theorem sX8_back_x (d : Nat) (h : M 0 16 = 0) : Ex LyM g (d) mX8_back [vr 0] M (PI (-5) M) := by
  refine Ex.in [some (vr 0), none] (by decide +kernel) rfl (Nat.le_of_ble_eq_true rfl) ?_ rfl
  refine r_aldn iX8_back_0 rfl ?_
  refine r_geti 16 iX8_back_1 flX8_240 rfl rfl rfl rfl ?_
  refine r_ifne iX8_back_4 (by omega) (fun h4 => ?_) (fun h4 => ?_)
  · exact absurd h h4
  · refine r_bip iX8_back_7 (by decide) ?_
    refine r_iret iX8_back_9 rfl ?_
    exact ⟨rfl, rfl⟩
theorem sX8_back_o (d : Nat) (h : M 0 16 = 1) (hN : NBm (bkM M)) : Ex LyM g (d + 3) mX8_back [vr 0] M (fun r M' => r = some (vi 1) ∧ (∀ l, 0 ≤ l → l < M 14 2 → WLm M' l) ∧ FwM (bkM M) M') := by
  refine Ex.in [some (vr 0), none] (by decide +kernel) rfl (Nat.le_of_ble_eq_true rfl) ?_ rfl
  have L3 : ∀ (n9 : Nat) (i : Int), (0 ≤ i) → (i ≤ 40) → 40 - i < n9 → R LyM g mX8_back (d + 3) 231 [some (vr 0), some (vi i)] [] (mset (b2M M 5) 10 (ini (M 10) (M 17) i)) (fun r M' => r = some (vi 1) ∧ (∀ l, 0 ≤ l → l < M 14 2 → WLm M' l) ∧ FwM (bkM M) M') := by
    intro n9
    induction n9 with
    | zero =>
      intro i h0 h1 hm9
      omega
    | succ n9 ih =>
      intro i h0 h1 hm9
      refine r_ldn iX8_back_231 rfl ?_
      refine r_bip iX8_back_232 (by decide) ?_
      refine r_cge iX8_back_234 (by omega) (fun h234 => ?_) (fun h234 => ?_)
      · rw [show i = 40 by omega, b3M_e]
        refine r_aldn iX8_back_255 rfl ?_
        refine call_V0p iX8_back_256 clX8_129 myX8_findWays rfl rfl rfl rfl (sX8_findWays d (bkM M) hN) (fun r256 M256 h256 => ?_)
        obtain ⟨rfl, q1, q2⟩ := h256
        refine r_con iX8_back_259 ?_
        refine r_iret iX8_back_260 rfl ?_
        exact ⟨rfl, q1, q2⟩
      · refine r_aldn iX8_back_237 rfl ?_
        refine r_getr iX8_back_238 flX8_41 rfl rfl ?_
        refine r_ldn iX8_back_241 rfl ?_
        refine r_aldn iX8_back_242 rfl ?_
        refine r_getr iX8_back_243 flX8_62 rfl rfl ?_
        refine r_ldn iX8_back_246 rfl ?_
        refine r_ial iX8_back_247 rfl (by omega) ?_
        simp only [mset_n, ne_eq, Nat.reduceEqDiff, not_false_eq_true, show (b2M M 5) 17 = M 17 from rfl]
        refine r_ias iX8_back_248 rfl (by omega) ?_
        refine r_inc iX8_back_249 rfl (by decide) rfl ?_
        refine r_goto iX8_back_252 ?_
        rw [mset_s, mset_mset, ini_1 h0]
        exact ih (i + 1) (by omega) (by omega) (by omega)
  have L2 : ∀ (n9 : Nat) (i : Int), (0 ≤ i) → (i ≤ 5) → 5 - i < n9 → R LyM g mX8_back (d + 3) 140 [some (vr 0), some (vi i)] [] (b2M M i) (fun r M' => r = some (vi 1) ∧ (∀ l, 0 ≤ l → l < M 14 2 → WLm M' l) ∧ FwM (bkM M) M') := by
    intro n9
    induction n9 with
    | zero =>
      intro i h0 h1 hm9
      omega
    | succ n9 ih =>
      intro i h0 h1 hm9
      refine r_ldn iX8_back_140 rfl ?_
      refine r_con iX8_back_141 ?_
      refine r_cge iX8_back_142 (by omega) (fun h142 => ?_) (fun h142 => ?_)
      · refine r_con iX8_back_229 ?_
        refine r_stn iX8_back_230 (by decide) rfl ?_
        rw [show i = 5 by omega]
        have L0 := L3 41 0 (by omega) (by omega) (by omega)
        rw [ini_0] at L0
        refine R_mem ?_ L0
        exact mset_eq rfl
      · refine r_aldn iX8_back_145 rfl ?_
        refine r_getr iX8_back_146 flX8_26 rfl rfl ?_
        refine r_ldn iX8_back_149 rfl ?_
        refine r_aldn iX8_back_150 rfl ?_
        refine r_getr iX8_back_151 flX8_59 rfl rfl ?_
        refine r_con iX8_back_154 ?_
        refine r_ldn iX8_back_155 rfl ?_
        refine r_mul iX8_back_156 ?_
        refine r_ial iX8_back_157 rfl (by omega) ?_
        try simp only [show (b1M M i) 15 = M 15 from rfl, show (b2M M i) 16 = M 16 from rfl, mset_s, mset_n, mset_mset, fset_s, ne_eq, Nat.reduceEqDiff, not_false_eq_true]
        refine r_ias iX8_back_158 rfl (by omega) ?_
        refine r_aldn iX8_back_159 rfl ?_
        refine r_getr iX8_back_160 flX8_29 rfl rfl ?_
        refine r_ldn iX8_back_163 rfl ?_
        refine r_aldn iX8_back_164 rfl ?_
        refine r_getr iX8_back_165 flX8_59 rfl rfl ?_
        refine r_con iX8_back_168 ?_
        refine r_ldn iX8_back_169 rfl ?_
        refine r_mul iX8_back_170 ?_
        refine r_con iX8_back_171 ?_
        refine r_add iX8_back_172 ?_
        refine r_ial iX8_back_173 rfl (by omega) ?_
        try simp only [show (b1M M i) 15 = M 15 from rfl, show (b2M M i) 16 = M 16 from rfl, mset_s, mset_n, mset_mset, fset_s, ne_eq, Nat.reduceEqDiff, not_false_eq_true]
        refine r_ias iX8_back_174 rfl (by omega) ?_
        refine r_aldn iX8_back_175 rfl ?_
        refine r_getr iX8_back_176 flX8_32 rfl rfl ?_
        refine r_ldn iX8_back_179 rfl ?_
        refine r_aldn iX8_back_180 rfl ?_
        refine r_getr iX8_back_181 flX8_59 rfl rfl ?_
        refine r_con iX8_back_184 ?_
        refine r_ldn iX8_back_185 rfl ?_
        refine r_mul iX8_back_186 ?_
        refine r_con iX8_back_187 ?_
        refine r_add iX8_back_188 ?_
        refine r_ial iX8_back_189 rfl (by omega) ?_
        try simp only [show (b1M M i) 15 = M 15 from rfl, show (b2M M i) 16 = M 16 from rfl, mset_s, mset_n, mset_mset, fset_s, ne_eq, Nat.reduceEqDiff, not_false_eq_true]
        refine r_ias iX8_back_190 rfl (by omega) ?_
        refine r_aldn iX8_back_191 rfl ?_
        refine r_getr iX8_back_192 flX8_35 rfl rfl ?_
        refine r_ldn iX8_back_195 rfl ?_
        refine r_aldn iX8_back_196 rfl ?_
        refine r_getr iX8_back_197 flX8_59 rfl rfl ?_
        refine r_con iX8_back_200 ?_
        refine r_ldn iX8_back_201 rfl ?_
        refine r_mul iX8_back_202 ?_
        refine r_con iX8_back_203 ?_
        refine r_add iX8_back_204 ?_
        refine r_ial iX8_back_205 rfl (by omega) ?_
        try simp only [show (b1M M i) 15 = M 15 from rfl, show (b2M M i) 16 = M 16 from rfl, mset_s, mset_n, mset_mset, fset_s, ne_eq, Nat.reduceEqDiff, not_false_eq_true]
        refine r_ias iX8_back_206 rfl (by omega) ?_
        refine r_aldn iX8_back_207 rfl ?_
        refine r_getr iX8_back_208 flX8_38 rfl rfl ?_
        refine r_ldn iX8_back_211 rfl ?_
        refine r_aldn iX8_back_212 rfl ?_
        refine r_getr iX8_back_213 flX8_59 rfl rfl ?_
        refine r_con iX8_back_216 ?_
        refine r_ldn iX8_back_217 rfl ?_
        refine r_mul iX8_back_218 ?_
        refine r_con iX8_back_219 ?_
        refine r_add iX8_back_220 ?_
        refine r_ial iX8_back_221 rfl (by omega) ?_
        try simp only [show (b1M M i) 15 = M 15 from rfl, show (b2M M i) 16 = M 16 from rfl, mset_s, mset_n, mset_mset, fset_s, ne_eq, Nat.reduceEqDiff, not_false_eq_true]
        refine r_ias iX8_back_222 rfl (by omega) ?_
        refine r_inc iX8_back_223 rfl (by decide) rfl ?_
        refine r_goto iX8_back_226 ?_
        refine R_mem ?_ (ih (i + 1) (by omega) (by omega) (by omega))
        rw [← b2M_1 h0]
        simp only [mset_n, ne_eq, Nat.reduceEqDiff, not_false_eq_true]
  have L1 : ∀ (n9 : Nat) (i : Int), (0 ≤ i) → (i ≤ 20) → 20 - i < n9 → R LyM g mX8_back (d + 3) 42 [some (vr 0), some (vi i)] [] (b1M M i) (fun r M' => r = some (vi 1) ∧ (∀ l, 0 ≤ l → l < M 14 2 → WLm M' l) ∧ FwM (bkM M) M') := by
    intro n9
    induction n9 with
    | zero =>
      intro i h0 h1 hm9
      omega
    | succ n9 ih =>
      intro i h0 h1 hm9
      refine r_ldn iX8_back_42 rfl ?_
      refine r_bip iX8_back_43 (by decide) ?_
      refine r_cge iX8_back_45 (by omega) (fun h45 => ?_) (fun h45 => ?_)
      · refine r_con iX8_back_138 ?_
        refine r_stn iX8_back_139 (by decide) rfl ?_
        rw [show i = 20 by omega]
        have L0 := L2 6 0 (by omega) (by omega) (by omega)
        rw [b2M_0] at L0
        exact L0
      · refine r_aldn iX8_back_48 rfl ?_
        refine r_getr iX8_back_49 flX8_13 rfl rfl ?_
        refine r_con iX8_back_52 ?_
        refine r_ldn iX8_back_53 rfl ?_
        refine r_mul iX8_back_54 ?_
        refine r_aldn iX8_back_55 rfl ?_
        refine r_getr iX8_back_56 flX8_56 rfl rfl ?_
        refine r_con iX8_back_59 ?_
        refine r_ldn iX8_back_60 rfl ?_
        refine r_mul iX8_back_61 ?_
        refine r_ial iX8_back_62 rfl (by omega) ?_
        try simp only [show (b1M M i) 15 = M 15 from rfl, show (b2M M i) 16 = M 16 from rfl, mset_s, mset_n, mset_mset, fset_s, ne_eq, Nat.reduceEqDiff, not_false_eq_true]
        refine r_ias iX8_back_63 rfl (by omega) ?_
        refine r_aldn iX8_back_64 rfl ?_
        refine r_getr iX8_back_65 flX8_13 rfl rfl ?_
        refine r_con iX8_back_68 ?_
        refine r_ldn iX8_back_69 rfl ?_
        refine r_mul iX8_back_70 ?_
        refine r_con iX8_back_71 ?_
        refine r_add iX8_back_72 ?_
        refine r_aldn iX8_back_73 rfl ?_
        refine r_getr iX8_back_74 flX8_56 rfl rfl ?_
        refine r_con iX8_back_77 ?_
        refine r_ldn iX8_back_78 rfl ?_
        refine r_mul iX8_back_79 ?_
        refine r_con iX8_back_80 ?_
        refine r_add iX8_back_81 ?_
        refine r_ial iX8_back_82 rfl (by omega) ?_
        try simp only [show (b1M M i) 15 = M 15 from rfl, show (b2M M i) 16 = M 16 from rfl, mset_s, mset_n, mset_mset, fset_s, ne_eq, Nat.reduceEqDiff, not_false_eq_true]
        refine r_ias iX8_back_83 rfl (by omega) ?_
        refine r_aldn iX8_back_84 rfl ?_
        refine r_getr iX8_back_85 flX8_17 rfl rfl ?_
        refine r_ldn iX8_back_88 rfl ?_
        refine r_aldn iX8_back_89 rfl ?_
        refine r_getr iX8_back_90 flX8_56 rfl rfl ?_
        refine r_con iX8_back_93 ?_
        refine r_ldn iX8_back_94 rfl ?_
        refine r_mul iX8_back_95 ?_
        refine r_con iX8_back_96 ?_
        refine r_add iX8_back_97 ?_
        refine r_ial iX8_back_98 rfl (by omega) ?_
        try simp only [show (b1M M i) 15 = M 15 from rfl, show (b2M M i) 16 = M 16 from rfl, mset_s, mset_n, mset_mset, fset_s, ne_eq, Nat.reduceEqDiff, not_false_eq_true]
        refine r_ias iX8_back_99 rfl (by omega) ?_
        refine r_aldn iX8_back_100 rfl ?_
        refine r_getr iX8_back_101 flX8_20 rfl rfl ?_
        refine r_ldn iX8_back_104 rfl ?_
        refine r_aldn iX8_back_105 rfl ?_
        refine r_getr iX8_back_106 flX8_56 rfl rfl ?_
        refine r_con iX8_back_109 ?_
        refine r_ldn iX8_back_110 rfl ?_
        refine r_mul iX8_back_111 ?_
        refine r_con iX8_back_112 ?_
        refine r_add iX8_back_113 ?_
        refine r_ial iX8_back_114 rfl (by omega) ?_
        try simp only [show (b1M M i) 15 = M 15 from rfl, show (b2M M i) 16 = M 16 from rfl, mset_s, mset_n, mset_mset, fset_s, ne_eq, Nat.reduceEqDiff, not_false_eq_true]
        refine r_ias iX8_back_115 rfl (by omega) ?_
        refine r_aldn iX8_back_116 rfl ?_
        refine r_getr iX8_back_117 flX8_23 rfl rfl ?_
        refine r_ldn iX8_back_120 rfl ?_
        refine r_aldn iX8_back_121 rfl ?_
        refine r_getr iX8_back_122 flX8_56 rfl rfl ?_
        refine r_con iX8_back_125 ?_
        refine r_ldn iX8_back_126 rfl ?_
        refine r_mul iX8_back_127 ?_
        refine r_con iX8_back_128 ?_
        refine r_add iX8_back_129 ?_
        refine r_ial iX8_back_130 rfl (by omega) ?_
        try simp only [show (b1M M i) 15 = M 15 from rfl, show (b2M M i) 16 = M 16 from rfl, mset_s, mset_n, mset_mset, fset_s, ne_eq, Nat.reduceEqDiff, not_false_eq_true]
        refine r_ias iX8_back_131 rfl (by omega) ?_
        refine r_inc iX8_back_132 rfl (by decide) rfl ?_
        refine r_goto iX8_back_135 ?_
        refine R_mem ?_ (ih (i + 1) (by omega) (by omega) (by omega))
        rw [← b1M_1 h0]
        simp only [mset_s, mset_mset, mset_n, ne_eq, Nat.reduceEqDiff, not_false_eq_true]
  refine r_aldn iX8_back_0 rfl ?_
  refine r_geti 16 iX8_back_1 flX8_240 rfl rfl rfl rfl ?_
  refine r_ifne iX8_back_4 (by omega) (fun h4 => ?_) (fun h4 => ?_)
  · refine r_aldn iX8_back_10 rfl ?_
    refine r_aldn iX8_back_11 rfl ?_
    refine r_getr iX8_back_12 flX8_53 rfl rfl ?_
    refine r_con iX8_back_15 ?_
    refine r_ial iX8_back_16 rfl (by omega) ?_
    try simp only [mset_s, mset_n, mset_mset, fset_s, ne_eq, Nat.reduceEqDiff, not_false_eq_true]
    refine r_puti 0 iX8_back_17 fpX8_7 rfl rfl rfl ?_
    refine r_aldn iX8_back_20 rfl ?_
    refine r_aldn iX8_back_21 rfl ?_
    refine r_getr iX8_back_22 flX8_53 rfl rfl ?_
    refine r_con iX8_back_25 ?_
    refine r_ial iX8_back_26 rfl (by omega) ?_
    try simp only [mset_s, mset_n, mset_mset, fset_s, ne_eq, Nat.reduceEqDiff, not_false_eq_true]
    refine r_puti 1 iX8_back_27 fpX8_97 rfl rfl rfl ?_
    refine r_aldn iX8_back_30 rfl ?_
    refine r_aldn iX8_back_31 rfl ?_
    refine r_getr iX8_back_32 flX8_53 rfl rfl ?_
    refine r_con iX8_back_35 ?_
    refine r_ial iX8_back_36 rfl (by omega) ?_
    try simp only [mset_s, mset_n, mset_mset, fset_s, ne_eq, Nat.reduceEqDiff, not_false_eq_true]
    refine r_puti 6 iX8_back_37 fpX8_100 rfl rfl rfl ?_
    refine r_con iX8_back_40 ?_
    refine r_stn iX8_back_41 (by decide) rfl ?_
    try simp only [mset_s, mset_n, mset_mset, fset_s, ne_eq, Nat.reduceEqDiff, not_false_eq_true]
    have L0 := L1 21 0 (by omega) (by omega) (by omega)
    rw [b1M_0] at L0
    exact L0
  · exfalso; omega
end RF
