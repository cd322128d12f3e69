/-! the reference: what a road leaves, one round -/
theorem m0_k2 (M : Mem) (a b : Int) : m0 M a b 2 = M 2 := rfl
theorem m0_k3 (M : Mem) (a b : Int) : m0 M a b 3 = M 3 := rfl
theorem m0_k5 (M : Mem) (a b : Int) : m0 M a b 5 = M 5 := rfl
theorem m0_k8 (M : Mem) (a b : Int) : m0 M a b 8 = M 8 := rfl
theorem m0_k9 (M : Mem) (a b : Int) : m0 M a b 9 = M 9 := rfl
theorem m0_k10 (M : Mem) (a b : Int) : m0 M a b 10 = M 10 := rfl
theorem m0_k11 (M : Mem) (a b : Int) : m0 M a b 11 = M 11 := rfl
theorem m0_k12 (M : Mem) (a b : Int) : m0 M a b 12 = M 12 := rfl
theorem m0_k13 (M : Mem) (a b : Int) : m0 M a b 13 = M 13 := rfl
theorem m0_k24 (M : Mem) (a b : Int) : m0 M a b 24 = M 24 := rfl
theorem m0_k25 (M : Mem) (a b : Int) : m0 M a b 25 = M 25 := rfl
theorem m0_k26 (M : Mem) (a b : Int) : m0 M a b 26 = M 26 := rfl
theorem m0_k27 (M : Mem) (a b : Int) : m0 M a b 27 = M 27 := rfl
theorem tp_60 (a : Int) : tp (a * 60) = a ∧ lw (a * 60) = 1 := by
  have h := fr_red (T := a) (L := 1) (z := a * 60) (by omega) (by omega)
  have e : Int.gcd a 1 = 1 := by simp
  rw [e] at h
  exact ⟨by rw [← h.1]; simp, by rw [← h.2]; rfl⟩
theorem ri_up {ri mk : Int → Int} {n r : Int} (hn : 0 ≤ n) : riC ri mk n r ≤ n := by
  have h1 := sg_bd (f := fun l => if ri l = 0 then 0 else if bt (mk l) r = 0 then 0 else 1) (lo := 0) (hi := 1) (n := n) hn (fun i h0 h1 => by split <;> (try split) <;> omega)
  unfold riC
  omega
section RM
variable {g : Gt} {M : Mem} {x mk : Int → Int}
theorem sX8_leaves (d : Nat) (r : Int) (hr0 : 0 ≤ r ∧ r < M 0 1) (S : SR M x mk) (hf : soC x (M 24) mk (M 0 6) r ≤ M 2 r * 60) (hW : WBm M) (hN : NBm M) : Ex LyM g (d + 1) mX8_leaves [vr 0, vi r] M (PI (if 0 < riC (M 24) mk (M 0 6) r then 1 else 0) (m0 M (tp (M 2 r * 60 - soC x (M 24) mk (M 0 6) r)) (lw (M 2 r * 60 - soC x (M 24) mk (M 0 6) r) * riC (M 24) mk (M 0 6) r))) := by
  refine Ex.in [some (vr 0), some (vi r), none, none, none, none] (by decide +kernel) rfl (Nat.le_of_ble_eq_true rfl) ?_ rfl
  obtain ⟨hp0, hr, hl, hR, hL⟩ := id hN
  have hri := hR r hr0.1 hr0.2
  have L : ∀ (n9 : Nat) (l : Int) (w4 : Option MV), (0 ≤ l) → (l ≤ M 0 6) → M 0 6 - l < n9 → R LyM g mX8_leaves (d + 1) 20 [some (vr 0), some (vi r), some (vi (riC (M 24) mk l r)), some (vi l), w4, none] [] (m0 M (tp (M 2 r * 60 - soC x (M 24) mk l r)) (lw (M 2 r * 60 - soC x (M 24) mk l r))) (PI (if 0 < riC (M 24) mk (M 0 6) r then 1 else 0) (m0 M (tp (M 2 r * 60 - soC x (M 24) mk (M 0 6) r)) (lw (M 2 r * 60 - soC x (M 24) mk (M 0 6) r) * riC (M 24) mk (M 0 6) r))) := by
    intro n9
    induction n9 with
    | zero =>
      intro l w4 h0 h1 hm9
      omega
    | succ n9 ih =>
      intro l w4 h0 h1 hm9
      refine r_ldn iX8_leaves_20 rfl ?_
      refine r_aldn iX8_leaves_21 rfl ?_
      refine r_geti 6 iX8_leaves_22 flX8_100 rfl rfl rfl rfl ?_
      try simp only [m0_31, m0_32, m0_0, m0_1, m0_6, m0_k2, m0_k3, m0_k5, m0_k8, m0_k9, m0_k10, m0_k11, m0_k12, m0_k13, m0_k24, m0_k25, m0_k26, m0_k27, m0_p31, m0_p32, m0_i]
      refine r_cge iX8_leaves_25 (by omega) (fun h25 => ?_) (fun h25 => ?_)
      · have el : l = M 0 6 := by omega
        rw [el]
        have hrb := ri_up (ri := M 24) (mk := mk) (r := r) hl.1
        have hrn := riC_nn (ri := M 24) (mk := mk) (r := r) hl.1
        refine r_aldn iX8_leaves_161 rfl ?_
        refine r_dup iX8_leaves_162 rfl ?_
        refine r_getl 32 iX8_leaves_163 flX8_219 rfl rfl rfl ?_
        refine r_ldn iX8_leaves_166 rfl ?_
        refine r_i2l iX8_leaves_167 (by omega) ?_
        refine r_lmul iX8_leaves_168 ?_
        refine r_putl 32 iX8_leaves_169 fpX8_219 rfl rfl rfl ?_
        try simp only [m0_31, m0_32, m0_0, m0_1, m0_6, m0_k2, m0_k3, m0_k5, m0_k8, m0_k9, m0_k10, m0_k11, m0_k12, m0_k13, m0_k24, m0_k25, m0_k26, m0_k27, m0_p31, m0_p32, m0_i]
        refine r_ldn iX8_leaves_172 rfl ?_
        refine r_ifle iX8_leaves_173 (by omega) (fun h173 => ?_) (fun h173 => ?_)
        · refine r_con iX8_leaves_180 ?_
          refine r_zret iX8_leaves_181 rfl (by omega) ?_
          try simp only [m0_31, m0_32, m0_0, m0_1, m0_6, m0_k2, m0_k3, m0_k5, m0_k8, m0_k9, m0_k10, m0_k11, m0_k12, m0_k13, m0_k24, m0_k25, m0_k26, m0_k27, m0_p31, m0_p32, m0_i]
          exact ⟨by rw [if_neg (by omega)], rfl⟩
        · refine r_con iX8_leaves_176 ?_
          refine r_goto iX8_leaves_177 ?_
          refine r_zret iX8_leaves_181 rfl (by omega) ?_
          try simp only [m0_31, m0_32, m0_0, m0_1, m0_6, m0_k2, m0_k3, m0_k5, m0_k8, m0_k9, m0_k10, m0_k11, m0_k12, m0_k13, m0_k24, m0_k25, m0_k26, m0_k27, m0_p31, m0_p32, m0_i]
          exact ⟨by rw [if_pos h173], rfl⟩
      · have hz := S.z l h0 h25
        have ht := S.t l h0 h25
        have hw := S.w l h0 h25
        have hb := S.b l h0 h25
        have ha := S.a l h0 h25
        have ho := S.o l h0 h25 r hr0.1 hr0.2
        have hwl := hW l h0 h25
        have hv := hwl.2 (M 25 l)
        have e_ri : riC (M 24) mk (l + 1) r = riC (M 24) mk l r + (if M 24 l = 0 then 0 else if bt (mk l) r = 0 then 0 else 1) := sg_1 h0
        have e_so : soC x (M 24) mk (l + 1) r = soC x (M 24) mk l r + (if M 24 l = 0 then (if bt (mk l) r = 0 then 0 else x l) else 0) := sg_1 h0
        have m1 := so_mono (x := x) (ri := M 24) (mk := mk) (r := r) (n := M 0 6) (i := l) h0 (by omega) (fun j j0 j1 => (S.b j j0 j1).1)
        have m2 := so_mono (x := x) (ri := M 24) (mk := mk) (r := r) (n := M 0 6) (i := l + 1) (by omega) (by omega) (fun j j0 j1 => (S.b j j0 j1).1)
        have hz2 := hsM_z (M 12) (M 13) (8 * l + M 25 l) r
        refine r_aldn iX8_leaves_28 rfl ?_
        refine r_getr iX8_leaves_29 flX8_87 rfl rfl ?_
        refine r_ldn iX8_leaves_32 rfl ?_
        refine r_ial iX8_leaves_33 rfl (by omega) ?_
        try simp only [m0_31, m0_32, m0_0, m0_1, m0_6, m0_k2, m0_k3, m0_k5, m0_k8, m0_k9, m0_k10, m0_k11, m0_k12, m0_k13, m0_k24, m0_k25, m0_k26, m0_k27, m0_p31, m0_p32, m0_i]
        refine r_iflt iX8_leaves_34 (by omega) (fun h34 => ?_) (fun h34 => ?_)
        · try simp only [m0_31, m0_32, m0_0, m0_1, m0_6, m0_k2, m0_k3, m0_k5, m0_k8, m0_k9, m0_k10, m0_k11, m0_k12, m0_k13, m0_k24, m0_k25, m0_k26, m0_k27, m0_p31, m0_p32, m0_i]
          refine r_inc iX8_leaves_155 rfl (by decide) rfl ?_
          refine r_goto iX8_leaves_158 ?_
          try simp only [m0_31, m0_32, m0_0, m0_1, m0_6, m0_k2, m0_k3, m0_k5, m0_k8, m0_k9, m0_k10, m0_k11, m0_k12, m0_k13, m0_k24, m0_k25, m0_k26, m0_k27, m0_p31, m0_p32, m0_i]
          have b0 : bt (mk l) r = 0 := Decidable.byContradiction (fun q => by have := ho.mpr q; omega)
          have e1 : riC (M 24) mk (l + 1) r = riC (M 24) mk l r := by rw [e_ri, if_pos b0]; split <;> omega
          have e2 : (M 2 r * 60 - soC x (M 24) mk (l + 1) r) = (M 2 r * 60 - soC x (M 24) mk l r) := by rw [e_so, if_pos b0, show (if M 24 l = 0 then (0 : Int) else 0) = 0 by split <;> rfl]; omega
          have L0 := fun w4 => ih (l + 1) w4 (by omega) (by omega) (by omega)
          rw [e1, e2] at L0
          exact L0 _
        · refine r_aldn iX8_leaves_37 rfl ?_
          refine r_ldn iX8_leaves_38 rfl ?_
          refine r_aldn iX8_leaves_39 rfl ?_
          refine r_getr iX8_leaves_40 flX8_87 rfl rfl ?_
          refine r_ldn iX8_leaves_43 rfl ?_
          refine r_ial iX8_leaves_44 rfl (by omega) ?_
          refine r_ldn iX8_leaves_45 rfl ?_
          try simp only [m0_31, m0_32, m0_0, m0_1, m0_6, m0_k2, m0_k3, m0_k5, m0_k8, m0_k9, m0_k10, m0_k11, m0_k12, m0_k13, m0_k24, m0_k25, m0_k26, m0_k27, m0_p31, m0_p32, m0_i]
          refine call_V3i iX8_leaves_46 clX8_118 myX8_has rfl rfl rfl rfl (sX8_has (M := m0 M _ _) _ _ _ _ (by omega) (hv h34 ha.2) (by omega) hr.2) ?_
          try simp only [m0_31, m0_32, m0_0, m0_1, m0_6, m0_k2, m0_k3, m0_k5, m0_k8, m0_k9, m0_k10, m0_k11, m0_k12, m0_k13, m0_k24, m0_k25, m0_k26, m0_k27, m0_p31, m0_p32, m0_i]
          try simp only [m0_31, m0_32, m0_0, m0_1, m0_6, m0_k2, m0_k3, m0_k5, m0_k8, m0_k9, m0_k10, m0_k11, m0_k12, m0_k13, m0_k24, m0_k25, m0_k26, m0_k27, m0_p31, m0_p32, m0_i]
          refine r_ifeq iX8_leaves_49 (by omega) (fun h49 => ?_) (fun h49 => ?_)
          · try simp only [m0_31, m0_32, m0_0, m0_1, m0_6, m0_k2, m0_k3, m0_k5, m0_k8, m0_k9, m0_k10, m0_k11, m0_k12, m0_k13, m0_k24, m0_k25, m0_k26, m0_k27, m0_p31, m0_p32, m0_i]
            refine r_inc iX8_leaves_155 rfl (by decide) rfl ?_
            refine r_goto iX8_leaves_158 ?_
            try simp only [m0_31, m0_32, m0_0, m0_1, m0_6, m0_k2, m0_k3, m0_k5, m0_k8, m0_k9, m0_k10, m0_k11, m0_k12, m0_k13, m0_k24, m0_k25, m0_k26, m0_k27, m0_p31, m0_p32, m0_i]
            have b0 : bt (mk l) r = 0 := Decidable.byContradiction (fun q => by have := ho.mpr q; omega)
            have e1 : riC (M 24) mk (l + 1) r = riC (M 24) mk l r := by rw [e_ri, if_pos b0]; split <;> omega
            have e2 : (M 2 r * 60 - soC x (M 24) mk (l + 1) r) = (M 2 r * 60 - soC x (M 24) mk l r) := by rw [e_so, if_pos b0, show (if M 24 l = 0 then (0 : Int) else 0) = 0 by split <;> rfl]; omega
            have L0 := fun w4 => ih (l + 1) w4 (by omega) (by omega) (by omega)
            rw [e1, e2] at L0
            exact L0 _
          · refine r_ldn iX8_leaves_52 rfl ?_
            refine r_aldn iX8_leaves_53 rfl ?_
            refine r_getr iX8_leaves_54 flX8_83 rfl rfl ?_
            refine r_ldn iX8_leaves_57 rfl ?_
            refine r_zal iX8_leaves_58 rfl (by omega) ?_
            try simp only [m0_31, m0_32, m0_0, m0_1, m0_6, m0_k2, m0_k3, m0_k5, m0_k8, m0_k9, m0_k10, m0_k11, m0_k12, m0_k13, m0_k24, m0_k25, m0_k26, m0_k27, m0_p31, m0_p32, m0_i]
            refine r_ifeq iX8_leaves_59 (by omega) (fun h59 => ?_) (fun h59 => ?_)
            · refine r_con iX8_leaves_66 ?_
              refine r_add iX8_leaves_67 ?_
              refine r_stn iX8_leaves_68 (by decide) rfl ?_
              refine r_aldn iX8_leaves_69 rfl ?_
              refine r_getr iX8_leaves_70 flX8_83 rfl rfl ?_
              refine r_ldn iX8_leaves_73 rfl ?_
              refine r_zal iX8_leaves_74 rfl (by omega) ?_
              try simp only [m0_31, m0_32, m0_0, m0_1, m0_6, m0_k2, m0_k3, m0_k5, m0_k8, m0_k9, m0_k10, m0_k11, m0_k12, m0_k13, m0_k24, m0_k25, m0_k26, m0_k27, m0_p31, m0_p32, m0_i]
              refine r_ifne iX8_leaves_75 (by omega) (fun h75 => ?_) (fun h75 => ?_)
              · try simp only [m0_31, m0_32, m0_0, m0_1, m0_6, m0_k2, m0_k3, m0_k5, m0_k8, m0_k9, m0_k10, m0_k11, m0_k12, m0_k13, m0_k24, m0_k25, m0_k26, m0_k27, m0_p31, m0_p32, m0_i]
                refine r_inc iX8_leaves_155 rfl (by decide) rfl ?_
                refine r_goto iX8_leaves_158 ?_
                try simp only [m0_31, m0_32, m0_0, m0_1, m0_6, m0_k2, m0_k3, m0_k5, m0_k8, m0_k9, m0_k10, m0_k11, m0_k12, m0_k13, m0_k24, m0_k25, m0_k26, m0_k27, m0_p31, m0_p32, m0_i]
                exact absurd h59 h75
              · have b1 : bt (mk l) r ≠ 0 := ho.mp ⟨h34, h49⟩
                have e2 : (M 2 r * 60 - soC x (M 24) mk (l + 1) r) = (M 2 r * 60 - soC x (M 24) mk l r) - x l := by rw [e_so, if_pos h59, if_neg b1]; omega
                have hst := sh_step (y := (M 2 r * 60 - soC x (M 24) mk l r)) (x := x l) (by omega) (by omega)
                have hg1 : 0 < (Int.gcd (tp (M 2 r * 60 - soC x (M 24) mk l r) * lw (x l) - tp (x l) * lw (M 2 r * 60 - soC x (M 24) mk l r)) (lw (M 2 r * 60 - soC x (M 24) mk l r) * lw (x l)) : Int) := by have := Int.gcd_pos_of_ne_zero_right (tp (M 2 r * 60 - soC x (M 24) mk l r) * lw (x l) - tp (x l) * lw (M 2 r * 60 - soC x (M 24) mk l r)) (show lw (M 2 r * 60 - soC x (M 24) mk l r) * lw (x l) ≠ 0 by omega); omega
                have hg2 : (Int.gcd (tp (M 2 r * 60 - soC x (M 24) mk l r) * lw (x l) - tp (x l) * lw (M 2 r * 60 - soC x (M 24) mk l r)) (lw (M 2 r * 60 - soC x (M 24) mk l r) * lw (x l)) : Int) ≤ lw (M 2 r * 60 - soC x (M 24) mk l r) * lw (x l) := Int.le_of_dvd hst.2.1 (Int.gcd_dvd_right ..)
                refine r_aldn iX8_leaves_78 rfl ?_
                refine r_aldn iX8_leaves_79 rfl ?_
                refine r_getl 31 iX8_leaves_80 flX8_215 rfl rfl rfl ?_
                refine r_aldn iX8_leaves_83 rfl ?_
                refine r_getr iX8_leaves_84 flX8_94 rfl rfl ?_
                refine r_ldn iX8_leaves_87 rfl ?_
                refine r_lal iX8_leaves_88 rfl (by omega) ?_
                refine r_lmul iX8_leaves_89 ?_
                refine r_aldn iX8_leaves_90 rfl ?_
                refine r_getr iX8_leaves_91 flX8_90 rfl rfl ?_
                refine r_ldn iX8_leaves_94 rfl ?_
                refine r_lal iX8_leaves_95 rfl (by omega) ?_
                refine r_aldn iX8_leaves_96 rfl ?_
                refine r_getl 32 iX8_leaves_97 flX8_219 rfl rfl rfl ?_
                refine r_lmul iX8_leaves_100 ?_
                refine r_lsub iX8_leaves_101 ?_
                refine r_putl 31 iX8_leaves_102 fpX8_215 rfl rfl rfl ?_
                try simp only [m0_31, m0_32, m0_0, m0_1, m0_6, m0_k2, m0_k3, m0_k5, m0_k8, m0_k9, m0_k10, m0_k11, m0_k12, m0_k13, m0_k24, m0_k25, m0_k26, m0_k27, m0_p31, m0_p32, m0_i]
                rw [ht, hw]
                refine r_aldn iX8_leaves_105 rfl ?_
                refine r_dup iX8_leaves_106 rfl ?_
                refine r_getl 32 iX8_leaves_107 flX8_219 rfl rfl rfl ?_
                refine r_aldn iX8_leaves_110 rfl ?_
                refine r_getr iX8_leaves_111 flX8_94 rfl rfl ?_
                refine r_ldn iX8_leaves_114 rfl ?_
                refine r_lal iX8_leaves_115 rfl (by omega) ?_
                refine r_lmul iX8_leaves_116 ?_
                refine r_putl 32 iX8_leaves_117 fpX8_219 rfl rfl rfl ?_
                try simp only [m0_31, m0_32, m0_0, m0_1, m0_6, m0_k2, m0_k3, m0_k5, m0_k8, m0_k9, m0_k10, m0_k11, m0_k12, m0_k13, m0_k24, m0_k25, m0_k26, m0_k27, m0_p31, m0_p32, m0_i]
                rw [hw]
                refine r_aldn iX8_leaves_120 rfl ?_
                refine r_getl 31 iX8_leaves_121 flX8_215 rfl rfl rfl ?_
                refine r_aldn iX8_leaves_124 rfl ?_
                refine r_getl 32 iX8_leaves_125 flX8_219 rfl rfl rfl ?_
                try simp only [m0_31, m0_32, m0_0, m0_1, m0_6, m0_k2, m0_k3, m0_k5, m0_k8, m0_k9, m0_k10, m0_k11, m0_k12, m0_k13, m0_k24, m0_k25, m0_k26, m0_k27, m0_p31, m0_p32, m0_i]
                refine call_S2l iX8_leaves_128 clX8_222 myX8_common rfl (sX8_common _ _ _ (by omega) (by omega)) ?_
                refine r_lst iX8_leaves_131 (by decide) rfl ?_
                try simp only [m0_31, m0_32, m0_0, m0_1, m0_6, m0_k2, m0_k3, m0_k5, m0_k8, m0_k9, m0_k10, m0_k11, m0_k12, m0_k13, m0_k24, m0_k25, m0_k26, m0_k27, m0_p31, m0_p32, m0_i]
                refine r_aldn iX8_leaves_133 rfl ?_
                refine r_dup iX8_leaves_134 rfl ?_
                refine r_getl 31 iX8_leaves_135 flX8_215 rfl rfl rfl ?_
                refine r_lld iX8_leaves_138 rfl ?_
                try simp only [m0_31, m0_32, m0_0, m0_1, m0_6, m0_k2, m0_k3, m0_k5, m0_k8, m0_k9, m0_k10, m0_k11, m0_k12, m0_k13, m0_k24, m0_k25, m0_k26, m0_k27, m0_p31, m0_p32, m0_i]
                refine r_ldiv iX8_leaves_140 (by omega) (by omega) ?_
                refine r_putl 31 iX8_leaves_141 fpX8_215 rfl rfl rfl ?_
                try simp only [m0_31, m0_32, m0_0, m0_1, m0_6, m0_k2, m0_k3, m0_k5, m0_k8, m0_k9, m0_k10, m0_k11, m0_k12, m0_k13, m0_k24, m0_k25, m0_k26, m0_k27, m0_p31, m0_p32, m0_i]
                refine r_aldn iX8_leaves_144 rfl ?_
                refine r_dup iX8_leaves_145 rfl ?_
                refine r_getl 32 iX8_leaves_146 flX8_219 rfl rfl rfl ?_
                refine r_lld iX8_leaves_149 rfl ?_
                try simp only [m0_31, m0_32, m0_0, m0_1, m0_6, m0_k2, m0_k3, m0_k5, m0_k8, m0_k9, m0_k10, m0_k11, m0_k12, m0_k13, m0_k24, m0_k25, m0_k26, m0_k27, m0_p31, m0_p32, m0_i]
                refine r_ldiv iX8_leaves_151 (by omega) (by omega) ?_
                refine r_putl 32 iX8_leaves_152 fpX8_219 rfl rfl rfl ?_
                try simp only [m0_31, m0_32, m0_0, m0_1, m0_6, m0_k2, m0_k3, m0_k5, m0_k8, m0_k9, m0_k10, m0_k11, m0_k12, m0_k13, m0_k24, m0_k25, m0_k26, m0_k27, m0_p31, m0_p32, m0_i]
                refine r_inc iX8_leaves_155 rfl (by decide) rfl ?_
                refine r_goto iX8_leaves_158 ?_
                try simp only [m0_31, m0_32, m0_0, m0_1, m0_6, m0_k2, m0_k3, m0_k5, m0_k8, m0_k9, m0_k10, m0_k11, m0_k12, m0_k13, m0_k24, m0_k25, m0_k26, m0_k27, m0_p31, m0_p32, m0_i]
                have e1 : riC (M 24) mk (l + 1) r = riC (M 24) mk l r + 0 := by rw [e_ri, if_pos h59]
                rw [(fr_red hst.2.1 hst.1).1, (fr_red hst.2.1 hst.1).2, ← e2]
                have L0 := fun w4 => ih (l + 1) w4 (by omega) (by omega) (by omega)
                rw [e1] at L0
                exact L0 _
            · refine r_con iX8_leaves_62 ?_
              refine r_goto iX8_leaves_63 ?_
              refine r_add iX8_leaves_67 ?_
              refine r_stn iX8_leaves_68 (by decide) rfl ?_
              refine r_aldn iX8_leaves_69 rfl ?_
              refine r_getr iX8_leaves_70 flX8_83 rfl rfl ?_
              refine r_ldn iX8_leaves_73 rfl ?_
              refine r_zal iX8_leaves_74 rfl (by omega) ?_
              try simp only [m0_31, m0_32, m0_0, m0_1, m0_6, m0_k2, m0_k3, m0_k5, m0_k8, m0_k9, m0_k10, m0_k11, m0_k12, m0_k13, m0_k24, m0_k25, m0_k26, m0_k27, m0_p31, m0_p32, m0_i]
              refine r_ifne iX8_leaves_75 (by omega) (fun h75 => ?_) (fun h75 => ?_)
              · try simp only [m0_31, m0_32, m0_0, m0_1, m0_6, m0_k2, m0_k3, m0_k5, m0_k8, m0_k9, m0_k10, m0_k11, m0_k12, m0_k13, m0_k24, m0_k25, m0_k26, m0_k27, m0_p31, m0_p32, m0_i]
                refine r_inc iX8_leaves_155 rfl (by decide) rfl ?_
                refine r_goto iX8_leaves_158 ?_
                try simp only [m0_31, m0_32, m0_0, m0_1, m0_6, m0_k2, m0_k3, m0_k5, m0_k8, m0_k9, m0_k10, m0_k11, m0_k12, m0_k13, m0_k24, m0_k25, m0_k26, m0_k27, m0_p31, m0_p32, m0_i]
                have b1 : bt (mk l) r ≠ 0 := ho.mp ⟨h34, h49⟩
                have e1 : riC (M 24) mk (l + 1) r = riC (M 24) mk l r + 1 := by rw [e_ri, if_neg h59, if_neg b1]
                have e2 : (M 2 r * 60 - soC x (M 24) mk (l + 1) r) = (M 2 r * 60 - soC x (M 24) mk l r) := by rw [e_so, if_neg h59]; omega
                have L0 := fun w4 => ih (l + 1) w4 (by omega) (by omega) (by omega)
                rw [e1, e2] at L0
                exact L0 _
              · refine r_aldn iX8_leaves_78 rfl ?_
                refine r_aldn iX8_leaves_79 rfl ?_
                refine r_getl 31 iX8_leaves_80 flX8_215 rfl rfl rfl ?_
                refine r_aldn iX8_leaves_83 rfl ?_
                refine r_getr iX8_leaves_84 flX8_94 rfl rfl ?_
                refine r_ldn iX8_leaves_87 rfl ?_
                refine r_lal iX8_leaves_88 rfl (by omega) ?_
                refine r_lmul iX8_leaves_89 ?_
                refine r_aldn iX8_leaves_90 rfl ?_
                refine r_getr iX8_leaves_91 flX8_90 rfl rfl ?_
                refine r_ldn iX8_leaves_94 rfl ?_
                refine r_lal iX8_leaves_95 rfl (by omega) ?_
                refine r_aldn iX8_leaves_96 rfl ?_
                refine r_getl 32 iX8_leaves_97 flX8_219 rfl rfl rfl ?_
                refine r_lmul iX8_leaves_100 ?_
                refine r_lsub iX8_leaves_101 ?_
                refine r_putl 31 iX8_leaves_102 fpX8_215 rfl rfl rfl ?_
                try simp only [m0_31, m0_32, m0_0, m0_1, m0_6, m0_k2, m0_k3, m0_k5, m0_k8, m0_k9, m0_k10, m0_k11, m0_k12, m0_k13, m0_k24, m0_k25, m0_k26, m0_k27, m0_p31, m0_p32, m0_i]
                rw [ht, hw]
                refine r_aldn iX8_leaves_105 rfl ?_
                refine r_dup iX8_leaves_106 rfl ?_
                refine r_getl 32 iX8_leaves_107 flX8_219 rfl rfl rfl ?_
                refine r_aldn iX8_leaves_110 rfl ?_
                refine r_getr iX8_leaves_111 flX8_94 rfl rfl ?_
                refine r_ldn iX8_leaves_114 rfl ?_
                refine r_lal iX8_leaves_115 rfl (by omega) ?_
                refine r_lmul iX8_leaves_116 ?_
                refine r_putl 32 iX8_leaves_117 fpX8_219 rfl rfl rfl ?_
                try simp only [m0_31, m0_32, m0_0, m0_1, m0_6, m0_k2, m0_k3, m0_k5, m0_k8, m0_k9, m0_k10, m0_k11, m0_k12, m0_k13, m0_k24, m0_k25, m0_k26, m0_k27, m0_p31, m0_p32, m0_i]
                rw [hw]
                refine r_aldn iX8_leaves_120 rfl ?_
                refine r_getl 31 iX8_leaves_121 flX8_215 rfl rfl rfl ?_
                refine r_aldn iX8_leaves_124 rfl ?_
                refine r_getl 32 iX8_leaves_125 flX8_219 rfl rfl rfl ?_
                try simp only [m0_31, m0_32, m0_0, m0_1, m0_6, m0_k2, m0_k3, m0_k5, m0_k8, m0_k9, m0_k10, m0_k11, m0_k12, m0_k13, m0_k24, m0_k25, m0_k26, m0_k27, m0_p31, m0_p32, m0_i]
                refine call_S2l iX8_leaves_128 clX8_222 myX8_common rfl (sX8_common _ _ _ (by omega) (by omega)) ?_
                refine r_lst iX8_leaves_131 (by decide) rfl ?_
                try simp only [m0_31, m0_32, m0_0, m0_1, m0_6, m0_k2, m0_k3, m0_k5, m0_k8, m0_k9, m0_k10, m0_k11, m0_k12, m0_k13, m0_k24, m0_k25, m0_k26, m0_k27, m0_p31, m0_p32, m0_i]
                refine r_aldn iX8_leaves_133 rfl ?_
                refine r_dup iX8_leaves_134 rfl ?_
                refine r_getl 31 iX8_leaves_135 flX8_215 rfl rfl rfl ?_
                refine r_lld iX8_leaves_138 rfl ?_
                try simp only [m0_31, m0_32, m0_0, m0_1, m0_6, m0_k2, m0_k3, m0_k5, m0_k8, m0_k9, m0_k10, m0_k11, m0_k12, m0_k13, m0_k24, m0_k25, m0_k26, m0_k27, m0_p31, m0_p32, m0_i]
                refine r_ldiv iX8_leaves_140 (by omega) (by omega) ?_
                refine r_putl 31 iX8_leaves_141 fpX8_215 rfl rfl rfl ?_
                try simp only [m0_31, m0_32, m0_0, m0_1, m0_6, m0_k2, m0_k3, m0_k5, m0_k8, m0_k9, m0_k10, m0_k11, m0_k12, m0_k13, m0_k24, m0_k25, m0_k26, m0_k27, m0_p31, m0_p32, m0_i]
                refine r_aldn iX8_leaves_144 rfl ?_
                refine r_dup iX8_leaves_145 rfl ?_
                refine r_getl 32 iX8_leaves_146 flX8_219 rfl rfl rfl ?_
                refine r_lld iX8_leaves_149 rfl ?_
                try simp only [m0_31, m0_32, m0_0, m0_1, m0_6, m0_k2, m0_k3, m0_k5, m0_k8, m0_k9, m0_k10, m0_k11, m0_k12, m0_k13, m0_k24, m0_k25, m0_k26, m0_k27, m0_p31, m0_p32, m0_i]
                refine r_ldiv iX8_leaves_151 (by omega) (by omega) ?_
                refine r_putl 32 iX8_leaves_152 fpX8_219 rfl rfl rfl ?_
                try simp only [m0_31, m0_32, m0_0, m0_1, m0_6, m0_k2, m0_k3, m0_k5, m0_k8, m0_k9, m0_k10, m0_k11, m0_k12, m0_k13, m0_k24, m0_k25, m0_k26, m0_k27, m0_p31, m0_p32, m0_i]
                refine r_inc iX8_leaves_155 rfl (by decide) rfl ?_
                refine r_goto iX8_leaves_158 ?_
                try simp only [m0_31, m0_32, m0_0, m0_1, m0_6, m0_k2, m0_k3, m0_k5, m0_k8, m0_k9, m0_k10, m0_k11, m0_k12, m0_k13, m0_k24, m0_k25, m0_k26, m0_k27, m0_p31, m0_p32, m0_i]
                exact absurd h75 h59
  refine r_aldn iX8_leaves_0 rfl ?_
  refine r_aldn iX8_leaves_1 rfl ?_
  refine r_getr iX8_leaves_2 flX8_17 rfl rfl ?_
  refine r_ldn iX8_leaves_5 rfl ?_
  refine r_ial iX8_leaves_6 rfl (by omega) ?_
  refine r_i2l iX8_leaves_7 (by omega) ?_
  refine r_putl 31 iX8_leaves_8 fpX8_215 rfl rfl rfl ?_
  refine r_aldn iX8_leaves_11 rfl ?_
  refine r_lcon (z := 1) iX8_leaves_12 rfl ?_
  refine r_putl 32 iX8_leaves_13 fpX8_219 rfl rfl rfl ?_
  try simp only [m0_31, m0_32, m0_0, m0_1, m0_6, m0_k2, m0_k3, m0_k5, m0_k8, m0_k9, m0_k10, m0_k11, m0_k12, m0_k13, m0_k24, m0_k25, m0_k26, m0_k27, m0_p31, m0_p32, m0_i]
  refine r_con iX8_leaves_16 ?_
  refine r_stn iX8_leaves_17 (by decide) rfl ?_
  refine r_con iX8_leaves_18 ?_
  refine r_stn iX8_leaves_19 (by decide) rfl ?_
  have L0 := fun w4 => L 6 0 w4 (by omega) (by omega) (by omega)
  have e0 : (M 2 r * 60 - soC x (M 24) mk 0 r) = M 2 r * 60 := by show M 2 r * 60 - 0 = _; omega
  rw [e0, (tp_60 (M 2 r)).1, (tp_60 (M 2 r)).2] at L0
  exact L0 _
end RM
