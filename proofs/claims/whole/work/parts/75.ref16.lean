theorem c_X9_quarters {l : Launch} {E : En} {σ : Sg} {p0 : Int32} (hG : GV (σ 74)) (hQ : inP (σ 74 0) 0 9999) (hz : σ 73 5 = 0) : MN l yX9_quarters cX9_quarters 3 (some .int) rmX9_quarters E [.ref (ad E 73), .int p0] σ (PQ σ (S_quarters (σ 74) p0) (us σ 74 (passN (hk p0) (σ 74)))) := by
  refine MN_of (by decide +kernel) rfl fun x C hE hT hcan => ?_
  have C : CX x cX9_quarters RX9 rmX9_quarters := C
  refine V_L (L' := [some (.ref (ad E 73)), some (.int p0), none]) rfl ?_
  refine V_iload_n C dX9_quarters_0 rfl ?_
  refine V_i2l C dX9_quarters_1 ?_
  refine V_lconst C 1 dX9_quarters_2 (by decide) ?_
  refine V_ldc2 C dX9_quarters_3 q1081 ?_
  refine V_cs C hE dX9_quarters_6 (c_X9_in (a := p0) (lo := 1) (hi := 96) (by decide +kernel) (by decide +kernel)) kyX9_in q991 rfl rfl rfl ?_
  try simp (disch := omega) only [us_us, us_s, us_n, sv_74, sv_76, sv_n, sv_bk]
  refine V_ifne_b C dX9_quarters_9 (fun c9 => ?_) (fun c9 => ?_)
  · refine V_aload_n C dX9_quarters_19 rfl ?_
    refine V_iload_n C dX9_quarters_20 rfl ?_
    refine V_cv C hE dX9_quarters_21 (c_X9_isTooLate hQ ⟨Int32.le_trans (by decide) c9.1, Int32.le_trans c9.2 (by decide)⟩) kyX9_isTooLate q1082 (isoO 73 rfl rfl rfl rfl) rfl rfl rfl ?_
    try simp (disch := omega) only [us_us, us_s, us_n, sv_74, sv_76, sv_n, sv_bk]
    refine V_ifeq_b C dX9_quarters_24 (fun c24 => ?_) (fun c24 => ?_)
    · obtain ⟨q, rfl, hq⟩ := i32_le (m := 96) (by omega) (Int32.le_trans (by decide) c9.1) c9.2
      refine V_aload_n C dX9_quarters_34 rfl ?_
      refine V_iconst C 5 dX9_quarters_35 (by decide) ?_
      refine V_cv C hE dX9_quarters_36 (c_X9_sumOf (j := 5) rfl (by omega)) kyX9_sumOf q1086 (isoO 73 rfl rfl rfl rfl) rfl rfl rfl ?_
      try simp (disch := omega) only [us_us, us_s, us_n, sv_74, sv_76, sv_n, sv_bk]
      refine V_istore_n C dX9_quarters_39 rfl ?_
      refine V_aload_n C dX9_quarters_40 rfl ?_
      refine V_iload_n C dX9_quarters_41 rfl ?_
      refine V_cv0 C hE dX9_quarters_42 (c_X9_quartersGo (n := q) hG.1 hz (by omega)) kyX9_quartersGo q1090 (isoO 73 rfl rfl rfl rfl) rfl rfl rfl ?_
      try simp (disch := omega) only [us_us, us_s, us_n, sv_74, sv_76, sv_n, sv_bk]
      refine V_aload_n C dX9_quarters_45 rfl ?_
      refine V_iconst C 5 dX9_quarters_46 (by decide) ?_
      refine V_cv C hE dX9_quarters_47 (c_X9_sumOf (j := 5) rfl (by omega)) kyX9_sumOf q1086 (isoO 73 rfl rfl rfl rfl) rfl rfl rfl ?_
      try simp (disch := omega) only [us_us, us_s, us_n, sv_74, sv_76, sv_n, sv_bk]
      refine V_iload_n C dX9_quarters_50 rfl ?_
      refine V_isub C dX9_quarters_51 ?_
      exact V_iretN C dX9_quarters_52 hT (PQ_ok (by unfold S_quarters; rw [if_pos c9, if_neg c24, hk_n (show q < 2 ^ 31 by omega)]) rfl (by rw [hk_n (show q < 2 ^ 31 by omega)]; exact EqY.rf _))
    · refine V_aload_n C dX9_quarters_27 rfl ?_
      refine V_ldc C dX9_quarters_28 q1056 ?_
      refine V_cv C hE dX9_quarters_30 (c_X9_finds (j := 4) (by decide +kernel) (by omega)) kyX9_finds q995 (isoO 73 rfl rfl rfl rfl) rfl rfl rfl ?_
      try simp (disch := omega) only [us_us, us_s, us_n, sv_74, sv_76, sv_n, sv_bk]
      exact V_iretN C dX9_quarters_33 hT (PQ_fail (by decide +kernel) (by unfold S_quarters; all_goals (first | rw [if_pos c9] | rw [if_neg c9]); all_goals (first | rw [if_pos c24] | rw [if_neg c24])) (EqY.rf σ))
  · refine V_aload_n C dX9_quarters_12 rfl ?_
    refine V_ldc C dX9_quarters_13 q994 ?_
    refine V_cv C hE dX9_quarters_15 (c_X9_finds (j := 0) (by decide +kernel) (by omega)) kyX9_finds q995 (isoO 73 rfl rfl rfl rfl) rfl rfl rfl ?_
    try simp (disch := omega) only [us_us, us_s, us_n, sv_74, sv_76, sv_n, sv_bk]
    exact V_iretN C dX9_quarters_18 hT (PQ_fail (by decide +kernel) (by unfold S_quarters; all_goals (first | rw [if_pos c9] | rw [if_neg c9])) (EqY.rf σ))

