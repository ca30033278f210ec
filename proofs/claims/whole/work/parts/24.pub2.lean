theorem c_X8_lend {l : Launch} {E : En} {σ : Sg} {p0 p1 p2 : Int32}  : MN l yX8_lend cX8_lend 6 (some .int) rmX8_lend E [.ref (ad E 60), .int p0, .int p1, .int p2] σ (PX σ (S_lend (σ 0) p0 p1 p2) (N_lend (σ 0) (hk p0) (hk p1) p2)) := by
  refine MN_of (by decide +kernel) rfl fun x C hE hT hcan => ?_
  have C : CX x cX8_lend RX8 rmX8_lend := C
  refine V_L (L' := [some (.ref (ad E 60)), some (.int p0), some (.int p1), some (.int p2), none, none]) rfl ?_
  refine V_aload_n C dX8_lend_0 rfl ?_
  refine V_get C dX8_lend_1 (rdX8_live) in_X8 (by decide) q232 rfl ?_
  refine V_iload_n C dX8_lend_4 rfl ?_
  by_cases hh : isH (σ 0) p0
  · obtain ⟨i, hi, rfl, hi8⟩ := isH_of (hcan.1 0 (by omega)) hh
    refine V_cv C hE dX8_lend_5 (c_X5_get (v := 0) (i := i) (by omega) hi) kyX5_get q294 (isoV (by first | assumption | omega)) rfl rfl rfl ?_
    try simp (disch := omega) only [us_us, us_s, hf_uh_n, hf_uh_s]
    refine V_astore C dX8_lend_8 rfl ?_
    refine V_aload_n C dX8_lend_10 rfl ?_
    refine V_get C dX8_lend_11 (rdX8_live) in_X8 (by decide) q232 rfl ?_
    refine V_iload_n C dX8_lend_14 rfl ?_
    by_cases hb : isH (σ 0) p1
    · obtain ⟨j, hj, rfl, hj8⟩ := isH_of (hcan.1 0 (by omega)) hb
      refine V_cv C hE dX8_lend_15 (c_X5_get (v := 0) (i := j) (by omega) hj) kyX5_get q294 (isoV (by first | assumption | omega)) rfl rfl rfl ?_
      try simp (disch := omega) only [us_us, us_s, hf_uh_n, hf_uh_s]
      refine V_astore C dX8_lend_18 rfl ?_
      refine V_aload C dX8_lend_20 rfl ?_
      refine V_ifnull C dX8_lend_22 ?_
      refine V_aload C dX8_lend_25 rfl ?_
      refine V_ifnull C dX8_lend_27 ?_
      refine V_iload_n C dX8_lend_30 rfl ?_
      refine V_iload_n C dX8_lend_31 rfl ?_
      refine V_icmp_eq C dX8_lend_32 (fun c32 => ?_) (fun c32 => ?_)
      · refine V_aload_n C dX8_lend_45 rfl ?_
        refine V_iconst C 0 dX8_lend_46 (by decide) ?_
        refine V_cv C hE dX8_lend_47 (c_X8_fail (j := 0) (by omega)) kyX8_fail q273 (isoO 60 rfl rfl rfl rfl) rfl rfl rfl ?_
        try simp (disch := omega) only [us_us, us_s, hf_uh_n, hf_uh_s]
        exact V_iretN C dX8_lend_50 hT (PX_fail (by unfold S_lend; (try rw [hk_nI hi8]); (try rw [hk_nI hj8]); all_goals (first | rw [if_pos hh] | rw [if_neg hh]); all_goals (first | rw [if_pos hb] | rw [if_neg hb]); all_goals (first | rw [if_pos c32] | rw [if_neg c32])) (EqX.rf σ))
      · have hij : i ≠ j := fun e => c32 (by rw [e])
        refine V_iload_n C dX8_lend_35 rfl ?_
        refine V_iconst C 1 dX8_lend_36 (by decide) ?_
        refine V_bipush C 99 dX8_lend_37 (by decide) ?_
        refine V_cs C hE dX8_lend_39 (c_X8_within) kyX8_within q270 rfl rfl rfl ?_
        try simp (disch := omega) only [us_us, us_s, hf_uh_n, hf_uh_s]
        refine V_ifne_b C dX8_lend_42 (fun c42 => ?_) (fun c42 => ?_)
        · refine V_aload C dX8_lend_51 rfl ?_
          refine V_getN C hE.nw dX8_lend_53 (rdH (by first | assumption | omega) (by first | assumption | (simp only [us_s, nh_uh]; assumption)) 3 rfl) in_X1 (by decide) q108 rfl ?_
          refine V_iload_n C dX8_lend_56 rfl ?_
          refine V_icmp_lt C dX8_lend_57 (fun c57 => ?_) (fun c57 => ?_)
          · refine V_aload_n C dX8_lend_72 rfl ?_
            refine V_iconst C 4 dX8_lend_73 (by decide) ?_
            refine V_cv C hE dX8_lend_74 (c_X8_fail (j := 4) (by omega)) kyX8_fail q273 (isoO 60 rfl rfl rfl rfl) rfl rfl rfl ?_
            try simp (disch := omega) only [us_us, us_s, hf_uh_n, hf_uh_s]
            exact V_iretN C dX8_lend_77 hT (PX_fail (by unfold S_lend; (try rw [hk_nI hi8]); (try rw [hk_nI hj8]); all_goals (first | rw [if_pos hh] | rw [if_neg hh]); all_goals (first | rw [if_pos hb] | rw [if_neg hb]); all_goals (first | rw [if_pos c32] | rw [if_neg c32]); all_goals (first | rw [if_pos c42] | rw [if_neg c42]); all_goals (first | rw [if_pos c57] | rw [if_neg c57])) (EqX.rf σ))
          · refine V_aload C dX8_lend_60 rfl ?_
            refine V_getN C hE.nw dX8_lend_62 (rdH (by first | assumption | omega) (by first | assumption | (simp only [us_s, nh_uh]; assumption)) 3 rfl) in_X1 (by decide) q108 rfl ?_
            refine V_iload_n C dX8_lend_65 rfl ?_
            refine V_iadd C dX8_lend_66 ?_
            refine V_bipush C 99 dX8_lend_67 (by decide) ?_
            refine V_icmp_le C dX8_lend_69 (fun c69 => ?_) (fun c69 => ?_)
            · refine V_aload C dX8_lend_78 rfl ?_
              refine V_dup C dX8_lend_80 rfl ?_
              refine V_getN C hE.nw dX8_lend_81 (rdH (by first | assumption | omega) (by first | assumption | (simp only [us_s, nh_uh]; assumption)) 3 rfl) in_X1 (by decide) q108 rfl ?_
              refine V_iload_n C dX8_lend_84 rfl ?_
              refine V_isub C dX8_lend_85 ?_
              refine V_putN C hE.nw dX8_lend_86 (wrH (by first | assumption | omega) (by first | assumption | (simp only [us_s, nh_uh]; assumption)) 3 rfl) ft_X1 (by decide) q108 rfl rfl rfl rfl ?_
              try simp (disch := omega) only [us_us, us_s, hf_uh_n, hf_uh_s]
              refine V_aload C dX8_lend_89 rfl ?_
              refine V_dup C dX8_lend_91 rfl ?_
              refine V_getN C hE.nw dX8_lend_92 (rdH (by first | assumption | omega) (by first | assumption | (simp only [us_s, nh_uh]; assumption)) 3 rfl) in_X1 (by decide) q108 rfl ?_
              refine V_iload_n C dX8_lend_95 rfl ?_
              refine V_iadd C dX8_lend_96 ?_
              refine V_putN C hE.nw dX8_lend_97 (wrH (by first | assumption | omega) (by first | assumption | (simp only [us_s, nh_uh]; assumption)) 3 rfl) ft_X1 (by decide) q108 rfl rfl rfl rfl ?_
              try simp (disch := omega) only [us_us, us_s, hf_uh_n, hf_uh_s]
              refine V_aload C dX8_lend_100 rfl ?_
              refine V_getN C hE.nw dX8_lend_102 (rdH (by first | assumption | omega) (by first | assumption | (simp only [us_s, nh_uh]; assumption)) 3 rfl) in_X1 (by decide) q108 rfl ?_
              simp (disch := omega) only [us_us, us_s, hf_uh_n, hf_uh_s]
              exact V_iretN C dX8_lend_105 hT (PX_ok (by unfold S_lend; (try rw [hk_nI hi8]); (try rw [hk_nI hj8]); all_goals (first | rw [if_pos hh] | rw [if_neg hh]); all_goals (first | rw [if_pos hb] | rw [if_neg hb]); all_goals (first | rw [if_pos c32] | rw [if_neg c32]); all_goals (first | rw [if_pos c42] | rw [if_neg c42]); all_goals (first | rw [if_pos c57] | rw [if_neg c57]); all_goals (first | rw [if_pos c69] | rw [if_neg c69])) (by rw [hk_nI hi8, hk_nI hj8]; exact EqX.rf _))
            · refine V_aload_n C dX8_lend_72 rfl ?_
              refine V_iconst C 4 dX8_lend_73 (by decide) ?_
              refine V_cv C hE dX8_lend_74 (c_X8_fail (j := 4) (by omega)) kyX8_fail q273 (isoO 60 rfl rfl rfl rfl) rfl rfl rfl ?_
              try simp (disch := omega) only [us_us, us_s, hf_uh_n, hf_uh_s]
              exact V_iretN C dX8_lend_77 hT (PX_fail (by unfold S_lend; (try rw [hk_nI hi8]); (try rw [hk_nI hj8]); all_goals (first | rw [if_pos hh] | rw [if_neg hh]); all_goals (first | rw [if_pos hb] | rw [if_neg hb]); all_goals (first | rw [if_pos c32] | rw [if_neg c32]); all_goals (first | rw [if_pos c42] | rw [if_neg c42]); all_goals (first | rw [if_pos c57] | rw [if_neg c57]); all_goals (first | rw [if_pos c69] | rw [if_neg c69])) (EqX.rf σ))
        · refine V_aload_n C dX8_lend_45 rfl ?_
          refine V_iconst C 0 dX8_lend_46 (by decide) ?_
          refine V_cv C hE dX8_lend_47 (c_X8_fail (j := 0) (by omega)) kyX8_fail q273 (isoO 60 rfl rfl rfl rfl) rfl rfl rfl ?_
          try simp (disch := omega) only [us_us, us_s, hf_uh_n, hf_uh_s]
          exact V_iretN C dX8_lend_50 hT (PX_fail (by unfold S_lend; (try rw [hk_nI hi8]); (try rw [hk_nI hj8]); all_goals (first | rw [if_pos hh] | rw [if_neg hh]); all_goals (first | rw [if_pos hb] | rw [if_neg hb]); all_goals (first | rw [if_pos c32] | rw [if_neg c32]); all_goals (first | rw [if_pos c42] | rw [if_neg c42])) (EqX.rf σ))
    · refine V_cv C hE dX8_lend_15 (c_X5_getN (v := 0) (by omega) hb) kyX5_get q294 (isoV (by first | assumption | omega)) rfl rfl rfl ?_
      try simp (disch := omega) only [us_us, us_s, hf_uh_n, hf_uh_s]
      refine V_astoreN C dX8_lend_18 rfl ?_
      refine V_aload C dX8_lend_20 rfl ?_
      refine V_ifnull C dX8_lend_22 ?_
      refine V_aloadN C dX8_lend_25 rfl ?_
      refine V_ifnullN C dX8_lend_27 ?_
      refine V_aload_n C dX8_lend_45 rfl ?_
      refine V_iconst C 0 dX8_lend_46 (by decide) ?_
      refine V_cv C hE dX8_lend_47 (c_X8_fail (j := 0) (by omega)) kyX8_fail q273 (isoO 60 rfl rfl rfl rfl) rfl rfl rfl ?_
      try simp (disch := omega) only [us_us, us_s, hf_uh_n, hf_uh_s]
      exact V_iretN C dX8_lend_50 hT (PX_fail (by unfold S_lend; (try rw [hk_nI hi8]); (try rw [hk_nI hj8]); all_goals (first | rw [if_pos hh] | rw [if_neg hh]); all_goals (first | rw [if_pos hb] | rw [if_neg hb])) (EqX.rf σ))
  · refine V_cv C hE dX8_lend_5 (c_X5_getN (v := 0) (by omega) hh) kyX5_get q294 (isoV (by first | assumption | omega)) rfl rfl rfl ?_
    try simp (disch := omega) only [us_us, us_s, hf_uh_n, hf_uh_s]
    refine V_astoreN C dX8_lend_8 rfl ?_
    refine V_aload_n C dX8_lend_10 rfl ?_
    refine V_get C dX8_lend_11 (rdX8_live) in_X8 (by decide) q232 rfl ?_
    refine V_iload_n C dX8_lend_14 rfl ?_
    by_cases hb : isH (σ 0) p1
    · obtain ⟨j, hj, rfl, hj8⟩ := isH_of (hcan.1 0 (by omega)) hb
      refine V_cv C hE dX8_lend_15 (c_X5_get (v := 0) (i := j) (by omega) hj) kyX5_get q294 (isoV (by first | assumption | omega)) rfl rfl rfl ?_
      try simp (disch := omega) only [us_us, us_s, hf_uh_n, hf_uh_s]
      refine V_astore C dX8_lend_18 rfl ?_
      refine V_aloadN C dX8_lend_20 rfl ?_
      refine V_ifnullN C dX8_lend_22 ?_
      refine V_aload_n C dX8_lend_45 rfl ?_
      refine V_iconst C 0 dX8_lend_46 (by decide) ?_
      refine V_cv C hE dX8_lend_47 (c_X8_fail (j := 0) (by omega)) kyX8_fail q273 (isoO 60 rfl rfl rfl rfl) rfl rfl rfl ?_
      try simp (disch := omega) only [us_us, us_s, hf_uh_n, hf_uh_s]
      exact V_iretN C dX8_lend_50 hT (PX_fail (by unfold S_lend; (try rw [hk_nI hi8]); (try rw [hk_nI hj8]); all_goals (first | rw [if_pos hh] | rw [if_neg hh]); all_goals (first | rw [if_pos hb] | rw [if_neg hb])) (EqX.rf σ))
    · refine V_cv C hE dX8_lend_15 (c_X5_getN (v := 0) (by omega) hb) kyX5_get q294 (isoV (by first | assumption | omega)) rfl rfl rfl ?_
      try simp (disch := omega) only [us_us, us_s, hf_uh_n, hf_uh_s]
      refine V_astoreN C dX8_lend_18 rfl ?_
      refine V_aloadN C dX8_lend_20 rfl ?_
      refine V_ifnullN C dX8_lend_22 ?_
      refine V_aload_n C dX8_lend_45 rfl ?_
      refine V_iconst C 0 dX8_lend_46 (by decide) ?_
      refine V_cv C hE dX8_lend_47 (c_X8_fail (j := 0) (by omega)) kyX8_fail q273 (isoO 60 rfl rfl rfl rfl) rfl rfl rfl ?_
      try simp (disch := omega) only [us_us, us_s, hf_uh_n, hf_uh_s]
      exact V_iretN C dX8_lend_50 hT (PX_fail (by unfold S_lend; (try rw [hk_nI hi8]); (try rw [hk_nI hj8]); all_goals (first | rw [if_pos hh] | rw [if_neg hh]); all_goals (first | rw [if_pos hb] | rw [if_neg hb])) (EqX.rf σ))

theorem c_X8_way {l : Launch} {E : En} {σ : Sg} {p0 p1 : Int32}  : MN l yX8_way cX8_way 3 (some .int) rmX8_way E [.ref (ad E 60), .int p0, .int p1] σ (PX σ (S_way (σ 0) p0 p1) (σ 0)) := by
  refine MN_of (by decide +kernel) rfl fun x C hE hT hcan => ?_
  have C : CX x cX8_way RX8 rmX8_way := C
  refine V_L (L' := [some (.ref (ad E 60)), some (.int p0), some (.int p1)]) rfl ?_
  refine V_aload_n C dX8_way_0 rfl ?_
  refine V_get C dX8_way_1 (rdX8_live) in_X8 (by decide) q232 rfl ?_
  refine V_iload_n C dX8_way_4 rfl ?_
  by_cases hh : isH (σ 0) p0
  · obtain ⟨i, hi, rfl, hi8⟩ := isH_of (hcan.1 0 (by omega)) hh
    refine V_cv C hE dX8_way_5 (c_X5_get (v := 0) (i := i) (by omega) hi) kyX5_get q294 (isoV (by first | assumption | omega)) rfl rfl rfl ?_
    refine V_ifnull C dX8_way_8 ?_
    refine V_aload_n C dX8_way_11 rfl ?_
    refine V_get C dX8_way_12 (rdX8_live) in_X8 (by decide) q232 rfl ?_
    refine V_iload_n C dX8_way_15 rfl ?_
    by_cases hb : isH (σ 0) p1
    · obtain ⟨j, hj, rfl, hj8⟩ := isH_of (hcan.1 0 (by omega)) hb
      refine V_cv C hE dX8_way_16 (c_X5_get (v := 0) (i := j) (by omega) hj) kyX5_get q294 (isoV (by first | assumption | omega)) rfl rfl rfl ?_
      refine V_ifnonnull C dX8_way_19 ?_
      refine V_aload_n C dX8_way_28 rfl ?_
      refine V_get C dX8_way_29 (rdX8_live) in_X8 (by decide) q232 rfl ?_
      refine V_iload_n C dX8_way_32 rfl ?_
      refine V_iload_n C dX8_way_33 rfl ?_
      refine V_cv C hE dX8_way_34 (c_X5_between (v := 0) (a := i) (b := j) (by omega) (by omega) (by omega)) kyX5_between q353 (isoV (by first | assumption | omega)) rfl rfl rfl ?_
      exact V_iretN C dX8_way_37 hT (PX_rd (by unfold S_way; (try rw [hk_nI hi8]); (try rw [hk_nI hj8]); all_goals (first | rw [if_pos hh] | rw [if_neg hh]); all_goals (first | rw [if_pos hb] | rw [if_neg hb])) (EqX.rf σ))
    · refine V_cv C hE dX8_way_16 (c_X5_getN (v := 0) (by omega) hb) kyX5_get q294 (isoV (by first | assumption | omega)) rfl rfl rfl ?_
      refine V_ifnonnullN C dX8_way_19 ?_
      refine V_aload_n C dX8_way_22 rfl ?_
      refine V_iconst C 0 dX8_way_23 (by decide) ?_
      refine V_cv C hE dX8_way_24 (c_X8_fail (j := 0) (by omega)) kyX8_fail q273 (isoO 60 rfl rfl rfl rfl) rfl rfl rfl ?_
      exact V_iretN C dX8_way_27 hT (PX_fail (by unfold S_way; (try rw [hk_nI hi8]); (try rw [hk_nI hj8]); all_goals (first | rw [if_pos hh] | rw [if_neg hh]); all_goals (first | rw [if_pos hb] | rw [if_neg hb])) (EqX.rf σ))
  · refine V_cv C hE dX8_way_5 (c_X5_getN (v := 0) (by omega) hh) kyX5_get q294 (isoV (by first | assumption | omega)) rfl rfl rfl ?_
    refine V_ifnullN C dX8_way_8 ?_
    refine V_aload_n C dX8_way_22 rfl ?_
    refine V_iconst C 0 dX8_way_23 (by decide) ?_
    refine V_cv C hE dX8_way_24 (c_X8_fail (j := 0) (by omega)) kyX8_fail q273 (isoO 60 rfl rfl rfl rfl) rfl rfl rfl ?_
    exact V_iretN C dX8_way_27 hT (PX_fail (by unfold S_way; (try rw [hk_nI hi8]); (try rw [hk_nI hj8]); all_goals (first | rw [if_pos hh] | rw [if_neg hh])) (EqX.rf σ))

theorem c_X8_send {l : Launch} {E : En} {σ : Sg} {p0 : Int32}  (hG : GV (σ 0)) : MN l yX8_send cX8_send 2 (some .int) rmX8_send E [.ref (ad E 60), .int p0] σ (PX σ (S_send (σ 0) p0) (goF (σ 0) (hk p0))) := by
  refine MN_of (by decide +kernel) rfl fun x C hE hT hcan => ?_
  have C : CX x cX8_send RX8 rmX8_send := C
  refine V_L (L' := [some (.ref (ad E 60)), some (.int p0)]) rfl ?_
  refine V_aload_n C dX8_send_0 rfl ?_
  refine V_get C dX8_send_1 (rdX8_live) in_X8 (by decide) q232 rfl ?_
  refine V_iload_n C dX8_send_4 rfl ?_
  by_cases hh : isH (σ 0) p0
  · obtain ⟨i, hi, rfl, hi8⟩ := isH_of (hcan.1 0 (by omega)) hh
    refine V_cv C hE dX8_send_5 (c_X5_get (v := 0) (i := i) (by omega) hi) kyX5_get q294 (isoV (by first | assumption | omega)) rfl rfl rfl ?_
    refine V_ifnonnull C dX8_send_8 ?_
    refine V_aload_n C dX8_send_17 rfl ?_
    refine V_get C dX8_send_18 (rdX8_live) in_X8 (by decide) q232 rfl ?_
    refine V_getN C hE.nw dX8_send_21 (rdV (by first | assumption | omega) 7 3 rfl rfl rfl) in_X5 (by decide) q144 rfl ?_
    refine V_if_le C dX8_send_24 (fun c24 => ?_) (fun c24 => ?_)
    · have q24 := Int32.not_lt.mpr c24
      refine V_aload_n C dX8_send_33 rfl ?_
      refine V_get C dX8_send_34 (rdX8_live) in_X8 (by decide) q232 rfl ?_
      refine V_iload_n C dX8_send_37 rfl ?_
      refine V_cv C hE dX8_send_38 (c_X5_go (v := 0) (b := i) (by omega) hG.2.2.1 hG.2.2.2 (by omega)) kyX5_go q368 (isoV (by first | assumption | omega)) rfl rfl rfl ?_
      exact V_iretN C dX8_send_41 hT (PX_ok (by unfold S_send; (try rw [hk_nI hi8]); (try rw [hk_nI hj8]); all_goals (first | rw [if_pos hh] | rw [if_neg hh]); all_goals (first | rw [if_pos q24] | rw [if_neg q24])) (by rw [hk_nI hi8]; exact EqX.rf _))
    · have q24 := Int32.not_le.mp c24
      refine V_aload_n C dX8_send_27 rfl ?_
      refine V_iconst C 4 dX8_send_28 (by decide) ?_
      refine V_cv C hE dX8_send_29 (c_X8_fail (j := 4) (by omega)) kyX8_fail q273 (isoO 60 rfl rfl rfl rfl) rfl rfl rfl ?_
      exact V_iretN C dX8_send_32 hT (PX_fail (by unfold S_send; (try rw [hk_nI hi8]); (try rw [hk_nI hj8]); all_goals (first | rw [if_pos hh] | rw [if_neg hh]); all_goals (first | rw [if_pos q24] | rw [if_neg q24])) (EqX.rf σ))
  · refine V_cv C hE dX8_send_5 (c_X5_getN (v := 0) (by omega) hh) kyX5_get q294 (isoV (by first | assumption | omega)) rfl rfl rfl ?_
    refine V_ifnonnullN C dX8_send_8 ?_
    refine V_aload_n C dX8_send_11 rfl ?_
    refine V_iconst C 0 dX8_send_12 (by decide) ?_
    refine V_cv C hE dX8_send_13 (c_X8_fail (j := 0) (by omega)) kyX8_fail q273 (isoO 60 rfl rfl rfl rfl) rfl rfl rfl ?_
    exact V_iretN C dX8_send_16 hT (PX_fail (by unfold S_send; (try rw [hk_nI hi8]); (try rw [hk_nI hj8]); all_goals (first | rw [if_pos hh] | rw [if_neg hh])) (EqX.rf σ))

theorem c_X8_quarters {l : Launch} {E : En} {σ : Sg} {p0 : Int32}  (hG : GV (σ 0)) : MN l yX8_quarters cX8_quarters 3 (some .int) rmX8_quarters E [.ref (ad E 60), .int p0] σ (PX σ (S_quarters (σ 0) p0) (passN (hk p0) (σ 0))) := by
  refine MN_of (by decide +kernel) rfl fun x C hE hT hcan => ?_
  have C : CX x cX8_quarters RX8 rmX8_quarters := C
  refine V_L (L' := [some (.ref (ad E 60)), some (.int p0), none]) rfl ?_
  refine V_iload_n C dX8_quarters_0 rfl ?_
  refine V_iconst C 1 dX8_quarters_1 (by decide) ?_
  refine V_bipush C 96 dX8_quarters_2 (by decide) ?_
  refine V_cs C hE dX8_quarters_4 (c_X8_within) kyX8_within q270 rfl rfl rfl ?_
  refine V_ifne_b C dX8_quarters_7 (fun c7 => ?_) (fun c7 => ?_)
  · refine V_aload_n C dX8_quarters_16 rfl ?_
    refine V_iload_n C dX8_quarters_17 rfl ?_
    refine V_cv C hE dX8_quarters_18 (c_X8_endsTooLate) kyX8_endsTooLate q377 (isoO 60 rfl rfl rfl rfl) rfl rfl rfl ?_
    refine V_ifeq_b C dX8_quarters_21 (fun c21 => ?_) (fun c21 => ?_)
    · obtain ⟨q, rfl, hq⟩ := i32_le (m := 96) (by omega) (Int32.le_trans (by decide) c7.1) c7.2
      refine V_aload_n C dX8_quarters_30 rfl ?_
      refine V_get C dX8_quarters_31 (rdX8_live) in_X8 (by decide) q232 rfl ?_
      refine V_iconst C 5 dX8_quarters_34 (by decide) ?_
      refine V_cv C hE dX8_quarters_35 (c_X5_sum (v := 0) (j := 5) (by omega) (by omega)) kyX5_sum q381 (isoV (by first | assumption | omega)) rfl rfl rfl ?_
      refine V_istore_n C dX8_quarters_38 rfl ?_
      refine V_aload_n C dX8_quarters_39 rfl ?_
      refine V_get C dX8_quarters_40 (rdX8_live) in_X8 (by decide) q232 rfl ?_
      refine V_iload_n C dX8_quarters_43 rfl ?_
      refine V_cv0 C hE dX8_quarters_44 (c_X5_pass (v := 0) (n := q) (by omega) (by omega) hG.1) kyX5_pass q386 (isoV (by first | assumption | omega)) rfl rfl rfl ?_
      refine V_aload_n C dX8_quarters_47 rfl ?_
      refine V_get C dX8_quarters_48 (rdX8_live) in_X8 (by decide) q232 rfl ?_
      refine V_iconst C 5 dX8_quarters_51 (by decide) ?_
      refine V_cv C hE dX8_quarters_52 (c_X5_sum (v := 0) (j := 5) (by omega) (by omega)) kyX5_sum q381 (isoV (by first | assumption | omega)) rfl rfl rfl ?_
      refine V_iload_n C dX8_quarters_55 rfl ?_
      rw [us_s]
      refine V_isub C dX8_quarters_56 ?_
      exact V_iretN C dX8_quarters_57 hT (PX_ok (by unfold S_quarters; rw [if_pos c7, if_neg c21, hk_n (by omega)]) (by rw [hk_n (by omega)]; exact EqX.rf _))
    · refine V_aload_n C dX8_quarters_24 rfl ?_
      refine V_iconst C 4 dX8_quarters_25 (by decide) ?_
      refine V_cv C hE dX8_quarters_26 (c_X8_fail (j := 4) (by omega)) kyX8_fail q273 (isoO 60 rfl rfl rfl rfl) rfl rfl rfl ?_
      exact V_iretN C dX8_quarters_29 hT (PX_fail (by unfold S_quarters; all_goals (first | rw [if_pos c7] | rw [if_neg c7]); all_goals (first | rw [if_pos c21] | rw [if_neg c21])) (EqX.rf σ))
  · refine V_aload_n C dX8_quarters_10 rfl ?_
    refine V_iconst C 0 dX8_quarters_11 (by decide) ?_
    refine V_cv C hE dX8_quarters_12 (c_X8_fail (j := 0) (by omega)) kyX8_fail q273 (isoO 60 rfl rfl rfl rfl) rfl rfl rfl ?_
    exact V_iretN C dX8_quarters_15 hT (PX_fail (by unfold S_quarters; all_goals (first | rw [if_pos c7] | rw [if_neg c7])) (EqX.rf σ))

theorem sw6 (a : Int32) : a = 0 ∨ a = 1 ∨ a = 2 ∨ a = 3 ∨ a = 4 ∨ a = 5 ∨ a = 6 ∨ (a.toInt < 0 ∨ 6 < a.toInt) := by
  rcases sw_x 6 (by omega) a with ⟨j, hj, rfl⟩ | h
  · rcases (show j = 0 ∨ j = 1 ∨ j = 2 ∨ j = 3 ∨ j = 4 ∨ j = 5 ∨ j = 6 by omega) with rfl | rfl | rfl | rfl | rfl | rfl | rfl <;> simp [nI]
  · exact Or.inr (Or.inr (Or.inr (Or.inr (Or.inr (Or.inr (Or.inr h))))))
theorem sw6n {a : Int32} (h : a.toInt < 0 ∨ 6 < a.toInt) : ¬ a = 0 ∧ ¬ a = 1 ∧ ¬ a = 2 ∧ ¬ a = 3 ∧ ¬ a = 4 ∧ ¬ a = 5 ∧ ¬ a = 6 := by
  refine ⟨?_, ?_, ?_, ?_, ?_, ?_, ?_⟩ <;> (rintro rfl; revert h; decide)
theorem trS_2 (σ : Sg) : trS σ 2 = σ 0 := by unfold trS; rw [us_n (by omega), us_s]
theorem trS_0 (σ : Sg) : trS σ 0 = σ 0 := by unfold trS; rw [us_n (by omega), us_n (by omega)]
theorem EqX_tr (σ : Sg) : EqX σ (trS σ) := ((EqX.rf σ).put (by omega)).put (by omega)

theorem c_X8_now {l : Launch} {E : En} {σ : Sg} {p0 : Int32}  : MN l yX8_now cX8_now 2 (some .int) rmX8_now E [.ref (ad E 60), .int p0] σ (PX σ (S_now (σ 0) p0) (σ 0)) := by
  refine MN_of (by decide +kernel) rfl fun x C hE hT hcan => ?_
  have C : CX x cX8_now RX8 rmX8_now := C
  refine V_L (L' := [some (.ref (ad E 60)), some (.int p0)]) rfl ?_
  refine V_iload_n C dX8_now_0 rfl ?_
  rcases sw6 p0 with rfl | rfl | rfl | rfl | rfl | rfl | rfl | hsw
  · refine V_tableIn (tgt := 44) C dX8_now_1 (by decide) (by decide) rfl (by decide) ?_
    refine V_aload_n C dX8_now_44 rfl ?_
    refine V_get C dX8_now_45 (rdX8_live) in_X8 (by decide) q232 rfl ?_
    refine V_getN C hE.nw dX8_now_48 (rdV (by first | assumption | omega) 8 0 rfl rfl rfl) in_X5 (by decide) q146 rfl ?_
    exact V_iretN C dX8_now_51 hT (PX_rd (by rfl) (EqX.rf σ))
  · refine V_tableIn (tgt := 52) C dX8_now_1 (by decide) (by decide) rfl (by decide) ?_
    refine V_aload_n C dX8_now_52 rfl ?_
    refine V_get C dX8_now_53 (rdX8_live) in_X8 (by decide) q232 rfl ?_
    refine V_getN C hE.nw dX8_now_56 (rdV (by first | assumption | omega) 6 2 rfl rfl rfl) in_X5 (by decide) q142 rfl ?_
    exact V_iretN C dX8_now_59 hT (PX_rd (by rfl) (EqX.rf σ))
  · refine V_tableIn (tgt := 60) C dX8_now_1 (by decide) (by decide) rfl (by decide) ?_
    refine V_aload_n C dX8_now_60 rfl ?_
    refine V_get C dX8_now_61 (rdX8_live) in_X8 (by decide) q232 rfl ?_
    refine V_getN C hE.nw dX8_now_64 (rdV (by first | assumption | omega) 7 3 rfl rfl rfl) in_X5 (by decide) q144 rfl ?_
    exact V_iretN C dX8_now_67 hT (PX_rd (by rfl) (EqX.rf σ))
  · refine V_tableIn (tgt := 68) C dX8_now_1 (by decide) (by decide) rfl (by decide) ?_
    refine V_aload_n C dX8_now_68 rfl ?_
    refine V_get C dX8_now_69 (rdX8_live) in_X8 (by decide) q232 rfl ?_
    refine V_cv C hE dX8_now_72 (c_X5_coldSet (v := 0) (by omega)) kyX5_coldSet q423 (isoV (by first | assumption | omega)) rfl rfl rfl ?_
    exact V_iretN C dX8_now_75 hT (PX_rd (by rfl) (EqX.rf σ))
  · refine V_tableIn (tgt := 76) C dX8_now_1 (by decide) (by decide) rfl (by decide) ?_
    refine V_aload_n C dX8_now_76 rfl ?_
    refine V_get C dX8_now_77 (rdX8_live) in_X8 (by decide) q232 rfl ?_
    refine V_getN C hE.nw dX8_now_80 (rdV (by first | assumption | omega) 9 4 rfl rfl rfl) in_X5 (by decide) q149 rfl ?_
    exact V_iretN C dX8_now_83 hT (PX_rd (by rfl) (EqX.rf σ))
  · refine V_tableIn (tgt := 84) C dX8_now_1 (by decide) (by decide) rfl (by decide) ?_
    refine V_aload_n C dX8_now_84 rfl ?_
    refine V_get C dX8_now_85 (rdX8_live) in_X8 (by decide) q232 rfl ?_
    refine V_getN C hE.nw dX8_now_88 (rdV (by first | assumption | omega) 4 5 rfl rfl rfl) in_X5 (by decide) q137 rfl ?_
    exact V_iretN C dX8_now_91 hT (PX_rd (by rfl) (EqX.rf σ))
  · refine V_tableIn (tgt := 92) C dX8_now_1 (by decide) (by decide) rfl (by decide) ?_
    refine V_aload_n C dX8_now_92 rfl ?_
    refine V_get C dX8_now_93 (rdX8_live) in_X8 (by decide) q232 rfl ?_
    refine V_getN C hE.nw dX8_now_96 (rdV (by first | assumption | omega) 5 6 rfl rfl rfl) in_X5 (by decide) q139 rfl ?_
    exact V_iretN C dX8_now_99 hT (PX_rd (by rfl) (EqX.rf σ))
  · refine V_tableOut (tgt := 100) C dX8_now_1 (hsw) (by decide) ?_
    refine V_aload_n C dX8_now_100 rfl ?_
    refine V_iconst C 0 dX8_now_101 (by decide) ?_
    refine V_cv C hE dX8_now_102 (c_X8_fail (j := 0) (by omega)) kyX8_fail q273 (isoO 60 rfl rfl rfl rfl) rfl rfl rfl ?_
    exact V_iretN C dX8_now_105 hT (PX_fail (by obtain ⟨a0, a1, a2, a3, a4, a5, a6⟩ := sw6n hsw; unfold S_now; rw [if_neg a0, if_neg a1, if_neg a2, if_neg a3, if_neg a4, if_neg a5, if_neg a6]) (EqX.rf σ))

theorem ahead_hi {f g : Nat → Int32} {w : Nat} (h : w < 12) (h4 : 4 ≤ w) : (Sum.inr (aheadV f g (nI w)) : Rs) = .inr (hf g (w - 4) 1) := by
  obtain ⟨k, rfl⟩ : ∃ k, w = k + 4 := ⟨w - 4, by omega⟩
  rcases (show k = 0 ∨ k = 1 ∨ k = 2 ∨ k = 3 ∨ k = 4 ∨ k = 5 ∨ k = 6 ∨ k = 7 by omega) with rfl | rfl | rfl | rfl | rfl | rfl | rfl | rfl <;> rfl

theorem c_X8_ahead {l : Launch} {E : En} {σ : Sg} {p0 p1 : Int32}  (hG : GV (σ 0)) : MN l yX8_ahead cX8_ahead 5 (some .int) rmX8_ahead E [.ref (ad E 60), .int p0, .int p1] σ (PX σ (S_ahead (σ 0) p0 p1) (σ 0)) := by
  refine MN_of (by decide +kernel) rfl fun x C hE hT hcan => ?_
  have C : CX x cX8_ahead RX8 rmX8_ahead := C
  refine V_L (L' := [some (.ref (ad E 60)), some (.int p0), some (.int p1), none, none]) rfl ?_
  refine V_iload_n C dX8_ahead_0 rfl ?_
  refine V_iconst C 0 dX8_ahead_1 (by decide) ?_
  refine V_bipush C 96 dX8_ahead_2 (by decide) ?_
  refine V_cs C hE dX8_ahead_4 (c_X8_within) kyX8_within q270 rfl rfl rfl ?_
  refine V_ifeq_b C dX8_ahead_7 (fun c7 => ?_) (fun c7 => ?_)
  · refine V_aload_n C dX8_ahead_32 rfl ?_
    refine V_iconst C 0 dX8_ahead_33 (by decide) ?_
    refine V_cv C hE dX8_ahead_34 (c_X8_fail (j := 0) (by omega)) kyX8_fail q273 (isoO 60 rfl rfl rfl rfl) rfl rfl rfl ?_
    exact V_iretN C dX8_ahead_37 hT (PX_fail (by unfold S_ahead; all_goals (first | rw [if_pos c7] | rw [if_neg c7])) (EqX.rf σ))
  · by_cases hw : inP p1 0 (3 + σ 0 1)
    · have hn := (hcan.1 0 (by omega)).1
      have h8 := (hcan.1 0 (by omega)).2.1
      obtain ⟨w, rfl, hw11⟩ := i32_le (m := 11) (by omega) hw.1 (Int32.le_trans hw.2 (by rw [hn, show (3 : Int32) = nI 3 from rfl, nI_add]; exact nI_le (by omega) (by omega)))
      have hwn : w ≤ 3 + nh (σ 0) := by
        have h2 := hw.2
        rw [hn, show (3 : Int32) = nI 3 from rfl, nI_add] at h2
        exact (nI_leI (by omega) (by omega)).mp h2
      refine V_iload_n C dX8_ahead_10 rfl ?_
      refine V_if_lt C dX8_ahead_11 (fun c11 => absurd c11 (nI_pos (by omega))) (fun c11 => ?_)
      rcases Nat.lt_or_ge w 4 with hw4 | hw4
      · refine V_iload_n C dX8_ahead_14 rfl ?_
        refine V_iconst C 4 dX8_ahead_15 (by decide) ?_
        refine V_icmp_lt C dX8_ahead_16 (fun c16 => ?_) (fun c16 => absurd (nI_lt (b := 4) hw4 (by decide)) c16)
        refine V_aload_n C dX8_ahead_38 rfl ?_
        refine V_iload_n C dX8_ahead_39 rfl ?_
        refine V_cv C hE dX8_ahead_40 (c_X8_endsTooLate) kyX8_endsTooLate q377 (isoO 60 rfl rfl rfl rfl) rfl rfl rfl ?_
        refine V_ifeq_b C dX8_ahead_43 (fun c43 => ?_) (fun c43 => ?_)
        · obtain ⟨q, rfl, hq⟩ := i32_le (m := 96) (by omega) c7.1 c7.2
          refine V_aload_n C dX8_ahead_52 rfl ?_
          refine V_cv C hE dX8_ahead_53 (c_X8_trial) kyX8_trial q443 (isoO 60 rfl rfl rfl rfl) rfl rfl rfl ?_
          refine V_astore_n C dX8_ahead_56 rfl ?_
          refine V_aload_n C dX8_ahead_57 rfl ?_
          refine V_iload_n C dX8_ahead_58 rfl ?_
          refine V_cv0 C hE dX8_ahead_59 (c_X5_pass (v := 2) (n := q) (by omega) (by omega) (by rw [trS_2]; exact hG.1)) kyX5_pass q386 (isoV (by first | assumption | omega)) rfl rfl rfl ?_
          refine V_iload_n C dX8_ahead_62 rfl ?_
          rcases (show w = 0 ∨ w = 1 ∨ w = 2 ∨ w = 3 by omega) with rfl | rfl | rfl | rfl
          · refine V_tableIn (tgt := 92) C dX8_ahead_63 (by decide) (by decide) rfl (by decide) ?_
            refine V_aload_n C dX8_ahead_92 rfl ?_
            refine V_cv C hE dX8_ahead_93 (c_X5_coldSet (v := 2) (by omega)) kyX5_coldSet q423 (isoV (by first | assumption | omega)) rfl rfl rfl ?_
            exact V_iretN C dX8_ahead_96 hT (PX_rd (by unfold S_ahead; rw [if_pos c7, if_pos hw, if_neg c43, hk_n (by omega)]; simp only [us_s, trS_2, us_n (show (0:Nat) ≠ 2 by omega), trS_0]; rfl) ((EqX_tr σ).put (by omega)))
          · refine V_tableIn (tgt := 97) C dX8_ahead_63 (by decide) (by decide) rfl (by decide) ?_
            refine V_aload_n C dX8_ahead_97 rfl ?_
            refine V_cv C hE dX8_ahead_98 (c_X5_leastWarmth (v := 2) (by omega)) kyX5_leastWarmth q458 (isoV (by first | assumption | omega)) rfl rfl rfl ?_
            exact V_iretN C dX8_ahead_101 hT (PX_rd (by unfold S_ahead; rw [if_pos c7, if_pos hw, if_neg c43, hk_n (by omega)]; simp only [us_s, trS_2, us_n (show (0:Nat) ≠ 2 by omega), trS_0]; rfl) ((EqX_tr σ).put (by omega)))
          · refine V_tableIn (tgt := 102) C dX8_ahead_63 (by decide) (by decide) rfl (by decide) ?_
            refine V_aload_n C dX8_ahead_102 rfl ?_
            refine V_getN C hE.nw dX8_ahead_103 (rdV (by first | assumption | omega) 9 4 rfl rfl rfl) in_X5 (by decide) q149 rfl ?_
            refine V_aload_n C dX8_ahead_106 rfl ?_
            refine V_get C dX8_ahead_107 (rdX8_live) in_X8 (by decide) q232 rfl ?_
            refine V_getN C hE.nw dX8_ahead_110 (rdV (by first | assumption | omega) 9 4 rfl rfl rfl) in_X5 (by decide) q149 rfl ?_
            refine V_isub C dX8_ahead_113 ?_
            exact V_iretN C dX8_ahead_114 hT (PX_rd (by unfold S_ahead; rw [if_pos c7, if_pos hw, if_neg c43, hk_n (by omega)]; simp only [us_s, trS_2, us_n (show (0:Nat) ≠ 2 by omega), trS_0]; rfl) ((EqX_tr σ).put (by omega)))
          · refine V_tableIn (tgt := 115) C dX8_ahead_63 (by decide) (by decide) rfl (by decide) ?_
            refine V_aload_n C dX8_ahead_115 rfl ?_
            refine V_iconst C 5 dX8_ahead_116 (by decide) ?_
            refine V_cv C hE dX8_ahead_117 (c_X5_sum (v := 2) (j := 5) (by omega) (by omega)) kyX5_sum q381 (isoV (by first | assumption | omega)) rfl rfl rfl ?_
            refine V_aload_n C dX8_ahead_120 rfl ?_
            refine V_get C dX8_ahead_121 (rdX8_live) in_X8 (by decide) q232 rfl ?_
            refine V_iconst C 5 dX8_ahead_124 (by decide) ?_
            refine V_cv C hE dX8_ahead_125 (c_X5_sum (v := 0) (j := 5) (by omega) (by omega)) kyX5_sum q381 (isoV (by first | assumption | omega)) rfl rfl rfl ?_
            refine V_isub C dX8_ahead_128 ?_
            exact V_iretN C dX8_ahead_129 hT (PX_rd (by unfold S_ahead; rw [if_pos c7, if_pos hw, if_neg c43, hk_n (by omega)]; simp only [us_s, trS_2, us_n (show (0:Nat) ≠ 2 by omega), trS_0]; rfl) ((EqX_tr σ).put (by omega)))
        · refine V_aload_n C dX8_ahead_46 rfl ?_
          refine V_iconst C 4 dX8_ahead_47 (by decide) ?_
          refine V_cv C hE dX8_ahead_48 (c_X8_fail (j := 4) (by omega)) kyX8_fail q273 (isoO 60 rfl rfl rfl rfl) rfl rfl rfl ?_
          exact V_iretN C dX8_ahead_51 hT (PX_fail (by unfold S_ahead; all_goals (first | rw [if_pos c7] | rw [if_neg c7]); all_goals (first | rw [if_pos hw] | rw [if_neg hw]); all_goals (first | rw [if_pos c43] | rw [if_neg c43])) (EqX.rf σ))
      · refine V_iload_n C dX8_ahead_14 rfl ?_
        refine V_iconst C 4 dX8_ahead_15 (by decide) ?_
        refine V_icmp_lt C dX8_ahead_16 (fun c16 => absurd c16 (nI_nlt (b := 4) hw4 (by omega))) (fun c16 => ?_)
        refine V_aload_n C dX8_ahead_19 rfl ?_
        refine V_get C dX8_ahead_20 (rdX8_live) in_X8 (by decide) q232 rfl ?_
        refine V_iload_n C dX8_ahead_23 rfl ?_
        refine V_iconst C 4 dX8_ahead_24 (by decide) ?_
        refine V_isub C dX8_ahead_25 ?_
        refine V_st (st' := [.int (nI (w - 4)), .ref (ad E (vb 0))]) (by rw [show (4 : Int32) = nI 4 from rfl, pk_sub hw4]) ?_
        refine V_cv C hE dX8_ahead_26 (c_X5_get (v := 0) (i := w - 4) (by omega) (by omega)) kyX5_get q294 (isoV (by first | assumption | omega)) rfl rfl rfl ?_
        refine V_ifnonnull C dX8_ahead_29 ?_
        refine V_aload_n C dX8_ahead_38 rfl ?_
        refine V_iload_n C dX8_ahead_39 rfl ?_
        refine V_cv C hE dX8_ahead_40 (c_X8_endsTooLate) kyX8_endsTooLate q377 (isoO 60 rfl rfl rfl rfl) rfl rfl rfl ?_
        refine V_ifeq_b C dX8_ahead_43 (fun c43 => ?_) (fun c43 => ?_)
        · obtain ⟨q, rfl, hq⟩ := i32_le (m := 96) (by omega) c7.1 c7.2
          refine V_aload_n C dX8_ahead_52 rfl ?_
          refine V_cv C hE dX8_ahead_53 (c_X8_trial) kyX8_trial q443 (isoO 60 rfl rfl rfl rfl) rfl rfl rfl ?_
          refine V_astore_n C dX8_ahead_56 rfl ?_
          refine V_aload_n C dX8_ahead_57 rfl ?_
          refine V_iload_n C dX8_ahead_58 rfl ?_
          refine V_cv0 C hE dX8_ahead_59 (c_X5_pass (v := 2) (n := q) (by omega) (by omega) (by rw [trS_2]; exact hG.1)) kyX5_pass q386 (isoV (by first | assumption | omega)) rfl rfl rfl ?_
          refine V_iload_n C dX8_ahead_62 rfl ?_
          skip
          · refine V_tableOut (tgt := 130) C dX8_ahead_63 (Or.inr (by rw [nI_toInt (by omega)]; omega)) (by decide) ?_
            refine V_aload_n C dX8_ahead_130 rfl ?_
            refine V_iload_n C dX8_ahead_131 rfl ?_
            refine V_iconst C 4 dX8_ahead_132 (by decide) ?_
            refine V_isub C dX8_ahead_133 ?_
            refine V_st (st' := [.int (nI (w - 4)), .ref (ad E (vb 2))]) (by rw [show (4 : Int32) = nI 4 from rfl, pk_sub hw4]) ?_
            refine V_cv C hE dX8_ahead_134 (c_X5_get (v := 2) (i := w - 4) (by omega) (by rw [us_s, trS_2, nh_passN]; omega)) kyX5_get q294 (isoV (by first | assumption | omega)) rfl rfl rfl ?_
            refine V_astore C dX8_ahead_137 rfl ?_
            refine V_aload C dX8_ahead_139 rfl ?_
            refine V_ifnonnull C dX8_ahead_141 ?_
            refine V_aload C dX8_ahead_148 rfl ?_
            refine V_getN C hE.nw dX8_ahead_150 (rdH (by first | assumption | omega) (by first | assumption | (rw [us_s, trS_2, nh_passN]; omega)) 1 rfl) in_X1 (by decide) q103 rfl ?_
            exact V_iretN C dX8_ahead_153 hT (PX_rd (by unfold S_ahead; rw [if_pos c7, if_pos hw, if_neg c43, hk_n (by omega)]; simp only [us_s, trS_2, us_n (show (0:Nat) ≠ 2 by omega), trS_0]; exact ahead_hi (by omega) hw4) ((EqX_tr σ).put (by omega)))
        · refine V_aload_n C dX8_ahead_46 rfl ?_
          refine V_iconst C 4 dX8_ahead_47 (by decide) ?_
          refine V_cv C hE dX8_ahead_48 (c_X8_fail (j := 4) (by omega)) kyX8_fail q273 (isoO 60 rfl rfl rfl rfl) rfl rfl rfl ?_
          exact V_iretN C dX8_ahead_51 hT (PX_fail (by unfold S_ahead; all_goals (first | rw [if_pos c7] | rw [if_neg c7]); all_goals (first | rw [if_pos hw] | rw [if_neg hw]); all_goals (first | rw [if_pos c43] | rw [if_neg c43])) (EqX.rf σ))
    · have hn := (hcan.1 0 (by omega)).1
      have h8 := (hcan.1 0 (by omega)).2.1
      have g8 : 0 ≤ σ 0 1 ∧ σ 0 1 ≤ 8 := by rw [hn]; exact ⟨nI_pos' (by omega), nI_le (b := 8) h8 (by decide)⟩
      refine V_iload_n C dX8_ahead_10 rfl ?_
      refine V_if_lt C dX8_ahead_11 (fun c11 => ?_) (fun c11 => ?_)
      · refine V_aload_n C dX8_ahead_32 rfl ?_
        refine V_iconst C 0 dX8_ahead_33 (by decide) ?_
        refine V_cv C hE dX8_ahead_34 (c_X8_fail (j := 0) (by omega)) kyX8_fail q273 (isoO 60 rfl rfl rfl rfl) rfl rfl rfl ?_
        exact V_iretN C dX8_ahead_37 hT (PX_fail (by unfold S_ahead; all_goals (first | rw [if_pos c7] | rw [if_neg c7]); all_goals (first | rw [if_pos hw] | rw [if_neg hw])) (EqX.rf σ))
      · refine V_iload_n C dX8_ahead_14 rfl ?_
        refine V_iconst C 4 dX8_ahead_15 (by decide) ?_
        refine V_icmp_lt C dX8_ahead_16 (fun c16 => absurd c16 (fun c => hw ⟨Int32.not_lt.mp c11, by grind⟩)) (fun c16 => ?_)
        refine V_aload_n C dX8_ahead_19 rfl ?_
        refine V_get C dX8_ahead_20 (rdX8_live) in_X8 (by decide) q232 rfl ?_
        refine V_iload_n C dX8_ahead_23 rfl ?_
        refine V_iconst C 4 dX8_ahead_24 (by decide) ?_
        refine V_isub C dX8_ahead_25 ?_
        refine V_cv C hE dX8_ahead_26 (c_X5_getN (v := 0) (by omega) (fun q => hw ⟨Int32.not_lt.mp c11, by grind⟩)) kyX5_get q294 (isoV (by first | assumption | omega)) rfl rfl rfl ?_
        refine V_ifnonnullN C dX8_ahead_29 ?_
        refine V_aload_n C dX8_ahead_32 rfl ?_
        refine V_iconst C 0 dX8_ahead_33 (by decide) ?_
        refine V_cv C hE dX8_ahead_34 (c_X8_fail (j := 0) (by omega)) kyX8_fail q273 (isoO 60 rfl rfl rfl rfl) rfl rfl rfl ?_
        exact V_iretN C dX8_ahead_37 hT (PX_fail (by unfold S_ahead; all_goals (first | rw [if_pos c7] | rw [if_neg c7]); all_goals (first | rw [if_pos hw] | rw [if_neg hw])) (EqX.rf σ))

