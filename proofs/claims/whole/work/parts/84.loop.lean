section LP
variable {p : Program} {e : Env} {s : State} {m : MethodId} {below : List Frame} {meth : Method} {c : Code} {b L : Nat} {xs : Nat → Int32} {g g' : Gt}
theorem dL_18 : decode code 18 = .ok (.iload_n 3, 1) := by decide +kernel
theorem dL_19 : decode code 19 = .ok (.aload_n 0, 1) := by decide +kernel
theorem dL_20 : decode code 20 = .ok (.arraylength, 1) := by decide +kernel
theorem dL_21 : decode code 21 = .ok (.iconst 5, 1) := by decide +kernel
theorem dL_22 : decode code 22 = .ok (.isub, 1) := by decide +kernel
theorem dL_23 : decode code 23 = .ok (.if_icmp .gt 1015, 3) := by decide +kernel
theorem dL_26 : decode code 26 = .ok (.aload_n 0, 1) := by decide +kernel
theorem dL_27 : decode code 27 = .ok (.iload_n 3, 1) := by decide +kernel
theorem dL_28 : decode code 28 = .ok (.iaload, 1) := by decide +kernel
theorem dL_29 : decode code 29 = .ok (.bipush 31, 2) := by decide +kernel
theorem dL_31 : decode code 31 = .ok (.iand, 1) := by decide +kernel
theorem dL_32 : decode code 32 = .ok (.tableswitch 1000 0 31 #[144, 167, 220, 253, 286, 339, 372, 405, 438, 471, 504, 547, 580, 603, 646, 679, 702, 725, 748, 761, 774, 797, 820, 833, 846, 869, 902, 915, 948, 961, 974, 987], 144) := by decide +kernel
theorem dL_1032 : decode code 1032 = .ok (.iinc 3 5, 3) := by decide +kernel
theorem dL_1035 : decode code 1035 = .ok (.goto (-1017), 3) := by decide +kernel
theorem dL_1038 : decode code 1038 = .ok (.iconst 1, 1) := by decide +kernel
theorem dL_1039 : decode code 1039 = .ok (.ireturn, 1) := by decide +kernel
theorem dL_0 : decode code 0 = .ok (.new 7, 3) := by decide +kernel
theorem dL_3 : decode code 3 = .ok (.dup, 1) := by decide +kernel
theorem dL_4 : decode code 4 = .ok (.invokespecial 9, 3) := by decide +kernel
theorem dL_7 : decode code 7 = .ok (.astore_n 1, 1) := by decide +kernel
theorem dL_8 : decode code 8 = .ok (.new 10, 3) := by decide +kernel
theorem dL_11 : decode code 11 = .ok (.dup, 1) := by decide +kernel
theorem dL_12 : decode code 12 = .ok (.invokespecial 12, 3) := by decide +kernel
theorem dL_15 : decode code 15 = .ok (.astore_n 2, 1) := by decide +kernel
theorem dL_16 : decode code 16 = .ok (.iconst 0, 1) := by decide +kernel
theorem dL_17 : decode code 17 = .ok (.istore_n 3, 1) := by decide +kernel
theorem law_loop (C : CL p s m meth c b L xs g g') (hL : L ≤ 2560) : ∀ (n i : Nat) (M N : Mem), i ≤ L → L < i + 5 * n → Inv M N → LJ p e s m below meth c b g g' 18 [] i M N := by
  intro n
  induction n with
  | zero =>
    intro i M N h1 h2
    exact absurd h2 (by omega)
  | succ n ih =>
    intro i M N h1 h2 I H locs ls hl hP hP2 hS
    obtain ⟨hx, hb, hr, hml, hown, hts, hX, hbl, hlocks, hK, _⟩ := id C
    have hbA : ¬ (fun q : Nat => s.heap.size ≤ q) b := Nat.not_le.mpr hbl
    refine lv_iload_n hx hb dL_18 rfl (lv_at hl 3 rfl) ?_
    refine lv_aload_n hx hb dL_19 rfl (lv_at hl 0 rfl) ?_
    refine va_slen hx hb hX hbl hbA hS dL_20 ?_
    refine lv_iconst (v := 5) hx hb dL_21 (by decide) ?_
    refine lv_isub hx hb dL_22 ?_
    refine lv_icmp_gt (tgt := 1038) hx hb dL_23 (by decide) (fun c1 => ?_) (fun c1 => ?_)
    · refine lv_iconst (v := 1) hx hb dL_1038 (by decide) ?_
      refine va_forget (fun q hq => hS.2.2 q hq) ?_
      refine W.widen (k := 600000) (n := 7302250) (by decide) (by decide) ?_
      exact lw_ret hx hb hr hlocks dL_1039
    · have hlt : i + 5 ≤ L := by
        rw [Int32.lt_iff_toInt_lt, sub5 hL, nI_toInt (by omega)] at c1
        omega
      refine lv_aload_n hx hb dL_26 rfl (lv_at hl 0 rfl) ?_
      refine lv_iload_n hx hb dL_27 rfl (lv_at hl 3 rfl) ?_
      refine va_sld hx hb hX hbl hbA hS (vp_in_nI (by omega) (by omega)) dL_28 ?_
      refine lv_bipush (v := 31) hx hb dL_29 (by decide) ?_
      refine lv_iand hx hb dL_31 ?_
      have r31 := and31 (xs (nI i).toNatClampNeg)
      generalize xs (nI i).toNatClampNeg &&& 31 = v at r31 ⊢
      have kk : ∀ M' N', Inv M' N' → LJ p e s m below meth c b g g' 1032 [] i M' N' := fun M' N' J H locs ls hl hP hP2 hS => by
        refine lv_iinc (v := nI (i + 5)) (lv' := [(3, .int (nI (i + 5))), (0, .ref b), (1, .ref (g.2.2.1 0)), (2, .ref (g'.2.2.1 0))]) hx hb dL_1032 hl (k := 3) rfl (nI_add i 5) (by decide) rfl (fun ls hl => ?_)
        refine lv_goto (tgt := 18) hx hb dL_1035 (by decide) ?_
        exact ih (i + 5) M' N' (by omega) (by omega) J H locs ls (lv_sub hl [1, 2, 3, 0] rfl) hP hP2 hS
      by_cases q0 : v.toInt = 0
      · exact lv_tableIn (off := 144) (tgt := 176) hx hb dL_32 (by omega) (by omega) (by rw [q0]; rfl) (by decide) (lc_0 C hL (by omega) I kk H locs ls hl hP hP2 hS)
      by_cases q1 : v.toInt = 1
      · exact lv_tableIn (off := 167) (tgt := 199) hx hb dL_32 (by omega) (by omega) (by rw [q1]; rfl) (by decide) (lc_1 C hL (by omega) I kk H locs ls hl hP hP2 hS)
      by_cases q2 : v.toInt = 2
      · exact lv_tableIn (off := 220) (tgt := 252) hx hb dL_32 (by omega) (by omega) (by rw [q2]; rfl) (by decide) (lc_2 C hL (by omega) I kk H locs ls hl hP hP2 hS)
      by_cases q3 : v.toInt = 3
      · exact lv_tableIn (off := 253) (tgt := 285) hx hb dL_32 (by omega) (by omega) (by rw [q3]; rfl) (by decide) (lc_3 C hL (by omega) I kk H locs ls hl hP hP2 hS)
      by_cases q4 : v.toInt = 4
      · exact lv_tableIn (off := 286) (tgt := 318) hx hb dL_32 (by omega) (by omega) (by rw [q4]; rfl) (by decide) (lc_4 C hL (by omega) I kk H locs ls hl hP hP2 hS)
      by_cases q5 : v.toInt = 5
      · exact lv_tableIn (off := 339) (tgt := 371) hx hb dL_32 (by omega) (by omega) (by rw [q5]; rfl) (by decide) (lc_5 C hL (by omega) I kk H locs ls hl hP hP2 hS)
      by_cases q6 : v.toInt = 6
      · exact lv_tableIn (off := 372) (tgt := 404) hx hb dL_32 (by omega) (by omega) (by rw [q6]; rfl) (by decide) (lc_6 C hL (by omega) I kk H locs ls hl hP hP2 hS)
      by_cases q7 : v.toInt = 7
      · exact lv_tableIn (off := 405) (tgt := 437) hx hb dL_32 (by omega) (by omega) (by rw [q7]; rfl) (by decide) (lc_7 C hL (by omega) I kk H locs ls hl hP hP2 hS)
      by_cases q8 : v.toInt = 8
      · exact lv_tableIn (off := 438) (tgt := 470) hx hb dL_32 (by omega) (by omega) (by rw [q8]; rfl) (by decide) (lc_8 C hL (by omega) I kk H locs ls hl hP hP2 hS)
      by_cases q9 : v.toInt = 9
      · exact lv_tableIn (off := 471) (tgt := 503) hx hb dL_32 (by omega) (by omega) (by rw [q9]; rfl) (by decide) (lc_9 C hL (by omega) I kk H locs ls hl hP hP2 hS)
      by_cases q10 : v.toInt = 10
      · exact lv_tableIn (off := 504) (tgt := 536) hx hb dL_32 (by omega) (by omega) (by rw [q10]; rfl) (by decide) (lc_10 C hL (by omega) I kk H locs ls hl hP hP2 hS)
      by_cases q11 : v.toInt = 11
      · exact lv_tableIn (off := 547) (tgt := 579) hx hb dL_32 (by omega) (by omega) (by rw [q11]; rfl) (by decide) (lc_11 C hL (by omega) I kk H locs ls hl hP hP2 hS)
      by_cases q12 : v.toInt = 12
      · exact lv_tableIn (off := 580) (tgt := 612) hx hb dL_32 (by omega) (by omega) (by rw [q12]; rfl) (by decide) (lc_12 C hL (by omega) I kk H locs ls hl hP hP2 hS)
      by_cases q13 : v.toInt = 13
      · exact lv_tableIn (off := 603) (tgt := 635) hx hb dL_32 (by omega) (by omega) (by rw [q13]; rfl) (by decide) (lc_13 C hL (by omega) I kk H locs ls hl hP hP2 hS)
      by_cases q14 : v.toInt = 14
      · exact lv_tableIn (off := 646) (tgt := 678) hx hb dL_32 (by omega) (by omega) (by rw [q14]; rfl) (by decide) (lc_14 C hL (by omega) I kk H locs ls hl hP hP2 hS)
      by_cases q15 : v.toInt = 15
      · exact lv_tableIn (off := 679) (tgt := 711) hx hb dL_32 (by omega) (by omega) (by rw [q15]; rfl) (by decide) (lc_15 C hL (by omega) I kk H locs ls hl hP hP2 hS)
      by_cases q16 : v.toInt = 16
      · exact lv_tableIn (off := 702) (tgt := 734) hx hb dL_32 (by omega) (by omega) (by rw [q16]; rfl) (by decide) (lc_16 C hL (by omega) I kk H locs ls hl hP hP2 hS)
      by_cases q17 : v.toInt = 17
      · exact lv_tableIn (off := 725) (tgt := 757) hx hb dL_32 (by omega) (by omega) (by rw [q17]; rfl) (by decide) (lc_17 C hL (by omega) I kk H locs ls hl hP hP2 hS)
      by_cases q18 : v.toInt = 18
      · exact lv_tableIn (off := 748) (tgt := 780) hx hb dL_32 (by omega) (by omega) (by rw [q18]; rfl) (by decide) (lc_18 C hL (by omega) I kk H locs ls hl hP hP2 hS)
      by_cases q19 : v.toInt = 19
      · exact lv_tableIn (off := 761) (tgt := 793) hx hb dL_32 (by omega) (by omega) (by rw [q19]; rfl) (by decide) (lc_19 C hL (by omega) I kk H locs ls hl hP hP2 hS)
      by_cases q20 : v.toInt = 20
      · exact lv_tableIn (off := 774) (tgt := 806) hx hb dL_32 (by omega) (by omega) (by rw [q20]; rfl) (by decide) (lc_20 C hL (by omega) I kk H locs ls hl hP hP2 hS)
      by_cases q21 : v.toInt = 21
      · exact lv_tableIn (off := 797) (tgt := 829) hx hb dL_32 (by omega) (by omega) (by rw [q21]; rfl) (by decide) (lc_21 C hL (by omega) I kk H locs ls hl hP hP2 hS)
      by_cases q22 : v.toInt = 22
      · exact lv_tableIn (off := 820) (tgt := 852) hx hb dL_32 (by omega) (by omega) (by rw [q22]; rfl) (by decide) (lc_22 C hL (by omega) I kk H locs ls hl hP hP2 hS)
      by_cases q23 : v.toInt = 23
      · exact lv_tableIn (off := 833) (tgt := 865) hx hb dL_32 (by omega) (by omega) (by rw [q23]; rfl) (by decide) (lc_23 C hL (by omega) I kk H locs ls hl hP hP2 hS)
      by_cases q24 : v.toInt = 24
      · exact lv_tableIn (off := 846) (tgt := 878) hx hb dL_32 (by omega) (by omega) (by rw [q24]; rfl) (by decide) (lc_24 C hL (by omega) I kk H locs ls hl hP hP2 hS)
      by_cases q25 : v.toInt = 25
      · exact lv_tableIn (off := 869) (tgt := 901) hx hb dL_32 (by omega) (by omega) (by rw [q25]; rfl) (by decide) (lc_25 C hL (by omega) I kk H locs ls hl hP hP2 hS)
      by_cases q26 : v.toInt = 26
      · exact lv_tableIn (off := 902) (tgt := 934) hx hb dL_32 (by omega) (by omega) (by rw [q26]; rfl) (by decide) (lc_26 C hL (by omega) I kk H locs ls hl hP hP2 hS)
      by_cases q27 : v.toInt = 27
      · exact lv_tableIn (off := 915) (tgt := 947) hx hb dL_32 (by omega) (by omega) (by rw [q27]; rfl) (by decide) (lc_27 C hL (by omega) I kk H locs ls hl hP hP2 hS)
      by_cases q28 : v.toInt = 28
      · exact lv_tableIn (off := 948) (tgt := 980) hx hb dL_32 (by omega) (by omega) (by rw [q28]; rfl) (by decide) (lc_28 C hL (by omega) I kk H locs ls hl hP hP2 hS)
      by_cases q29 : v.toInt = 29
      · exact lv_tableIn (off := 961) (tgt := 993) hx hb dL_32 (by omega) (by omega) (by rw [q29]; rfl) (by decide) (lc_29 C hL (by omega) I kk H locs ls hl hP hP2 hS)
      by_cases q30 : v.toInt = 30
      · exact lv_tableIn (off := 974) (tgt := 1006) hx hb dL_32 (by omega) (by omega) (by rw [q30]; rfl) (by decide) (lc_30 C hL (by omega) I kk H locs ls hl hP hP2 hS)
      by_cases q31 : v.toInt = 31
      · exact lv_tableIn (off := 987) (tgt := 1019) hx hb dL_32 (by omega) (by omega) (by rw [q31]; rfl) (by decide) (lc_31 C hL (by omega) I kk H locs ls hl hP hP2 hS)
      exfalso
      omega
end LP
