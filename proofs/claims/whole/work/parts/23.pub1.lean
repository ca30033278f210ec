theorem newF_1 (f : Nat → Int32) (k : Int32) : newF f k 1 = nI (nh f + 1) := by unfold newF; rw [begF_off (by omega), upd_s]
theorem ofV_lt {f : Nat → Int32} {i w : Nat} (h : w < 6) : ofV f i (nI w) = hf f i w := by
  rcases (show w = 0 ∨ w = 1 ∨ w = 2 ∨ w = 3 ∨ w = 4 ∨ w = 5 by omega) with rfl | rfl | rfl | rfl | rfl | rfl <;> rfl
theorem hk_n {i : Nat} (h : i < 2 ^ 31) : hk (nI i) = i := nI_clamp h

theorem c_X8_house {l : Launch} {E : En} {σ : Sg} {p0 : Int32}  : MN l yX8_house cX8_house 2 (some .int) rmX8_house E [.ref (ad E 60), .int p0] σ (PX σ (S_house (σ 0) p0) (newF (σ 0) p0)) := by
  refine MN_of (by decide +kernel) rfl fun x C hE hT hcan => ?_
  have C : CX x cX8_house RX8 rmX8_house := C
  refine V_L (L' := [some (.ref (ad E 60)), some (.int p0)]) rfl ?_
  refine V_iload_n C dX8_house_0 rfl ?_
  refine V_iconst C 0 dX8_house_1 (by decide) ?_
  refine V_bipush C 6 dX8_house_2 (by decide) ?_
  refine V_cs C hE dX8_house_4 (c_X8_within) kyX8_within q270 rfl rfl rfl ?_
  refine V_ifne_b C dX8_house_7 (fun c7 => ?_) (fun c7 => ?_)
  · by_cases hlt8 : nh (σ 0) < 8
    · refine V_aload_n C dX8_house_16 rfl ?_
      refine V_get C dX8_house_17 (rdX8_live) in_X8 (by decide) q232 rfl ?_
      refine V_getN C hE.nw dX8_house_20 (rdV (by first | assumption | omega) 3 1 rfl rfl rfl) in_X5 (by decide) q133 rfl ?_
      refine V_bipush C 8 dX8_house_23 (by decide) ?_
      refine V_icmp_lt C dX8_house_25 (fun c25 => ?_) (fun c25 => absurd (by rw [(hcan.1 0 (by omega)).1]; exact nI_lt hlt8 (by decide)) c25)
      refine V_aload_n C dX8_house_34 rfl ?_
      refine V_get C dX8_house_35 (rdX8_live) in_X8 (by decide) q232 rfl ?_
      refine V_iload_n C dX8_house_38 rfl ?_
      refine V_cv C hE dX8_house_39 (c_X5_build (v := 0) (by omega) hlt8) kyX5_build q278 (isoV (by first | assumption | omega)) rfl rfl rfl ?_
      refine V_pop C dX8_house_42 rfl ?_
      refine V_aload_n C dX8_house_43 rfl ?_
      refine V_get C dX8_house_44 (rdX8_live) in_X8 (by decide) q232 rfl ?_
      refine V_getN C hE.nw dX8_house_47 (rdV (by first | assumption | omega) 3 1 rfl rfl rfl) in_X5 (by decide) q133 rfl ?_
      refine V_iconst C 1 dX8_house_50 (by decide) ?_
      refine V_isub C dX8_house_51 ?_
      refine V_st (st' := [.int (nI (nh (σ 0)))]) (by rw [us_s, newF_1, nI_pred]) ?_
      exact V_iretN C dX8_house_52 hT (PX_ok (by unfold S_house; all_goals (first | rw [if_pos c7] | rw [if_neg c7]); all_goals (first | rw [if_pos hlt8] | rw [if_neg hlt8])) (EqX.rf _))
    · refine V_aload_n C dX8_house_16 rfl ?_
      refine V_get C dX8_house_17 (rdX8_live) in_X8 (by decide) q232 rfl ?_
      refine V_getN C hE.nw dX8_house_20 (rdV (by first | assumption | omega) 3 1 rfl rfl rfl) in_X5 (by decide) q133 rfl ?_
      refine V_bipush C 8 dX8_house_23 (by decide) ?_
      refine V_icmp_lt C dX8_house_25 (fun c25 => absurd c25 (by rw [(hcan.1 0 (by omega)).1]; exact nI_nlt (b := 8) (by omega) (by have := (hcan.1 0 (by omega)).2.1; omega))) (fun c25 => ?_)
      refine V_aload_n C dX8_house_28 rfl ?_
      refine V_iconst C 1 dX8_house_29 (by decide) ?_
      refine V_cv C hE dX8_house_30 (c_X8_fail (j := 1) (by omega)) kyX8_fail q273 (isoO 60 rfl rfl rfl rfl) rfl rfl rfl ?_
      exact V_iretN C dX8_house_33 hT (PX_fail (by unfold S_house; all_goals (first | rw [if_pos c7] | rw [if_neg c7]); all_goals (first | rw [if_pos hlt8] | rw [if_neg hlt8])) (EqX.rf σ))
  · refine V_aload_n C dX8_house_10 rfl ?_
    refine V_iconst C 0 dX8_house_11 (by decide) ?_
    refine V_cv C hE dX8_house_12 (c_X8_fail (j := 0) (by omega)) kyX8_fail q273 (isoO 60 rfl rfl rfl rfl) rfl rfl rfl ?_
    exact V_iretN C dX8_house_15 hT (PX_fail (by unfold S_house; all_goals (first | rw [if_pos c7] | rw [if_neg c7])) (EqX.rf σ))

theorem c_X8_of {l : Launch} {E : En} {σ : Sg} {p0 p1 : Int32}  (hG : GV (σ 0)) : MN l yX8_of cX8_of 4 (some .int) rmX8_of E [.ref (ad E 60), .int p0, .int p1] σ (PX σ (S_of (σ 0) p0 p1) (σ 0)) := by
  refine MN_of (by decide +kernel) rfl fun x C hE hT hcan => ?_
  have C : CX x cX8_of RX8 rmX8_of := C
  refine V_L (L' := [some (.ref (ad E 60)), some (.int p0), some (.int p1), none]) rfl ?_
  refine V_aload_n C dX8_of_0 rfl ?_
  refine V_get C dX8_of_1 (rdX8_live) in_X8 (by decide) q232 rfl ?_
  refine V_iload_n C dX8_of_4 rfl ?_
  by_cases hh : isH (σ 0) p0
  · obtain ⟨i, hi, rfl, hi8⟩ := isH_of (hcan.1 0 (by omega)) hh
    refine V_cv C hE dX8_of_5 (c_X5_get (v := 0) (i := i) (by omega) hi) kyX5_get q294 (isoV (by first | assumption | omega)) rfl rfl rfl ?_
    refine V_astore_n C dX8_of_8 rfl ?_
    refine V_aload_n C dX8_of_9 rfl ?_
    refine V_ifnull C dX8_of_10 ?_
    refine V_iload_n C dX8_of_13 rfl ?_
    refine V_iconst C 0 dX8_of_14 (by decide) ?_
    refine V_bipush C 8 dX8_of_15 (by decide) ?_
    refine V_cs C hE dX8_of_17 (c_X8_within) kyX8_within q270 rfl rfl rfl ?_
    refine V_ifne_b C dX8_of_20 (fun c20 => ?_) (fun c20 => ?_)
    · refine V_iload_n C dX8_of_29 rfl ?_
      obtain ⟨w, rfl, hw⟩ := i32_le (m := 8) (by omega) c20.1 c20.2
      rcases (show w = 5 ∨ w = 6 ∨ w = 7 ∨ w = 8 ∨ w < 5 by omega) with rfl | rfl | rfl | rfl | hw5
      · refine V_tableIn (tgt := 60) C dX8_of_30 (by decide) (by decide) rfl (by decide) ?_
        refine V_aload_n C dX8_of_60 rfl ?_
        refine V_getN C hE.nw dX8_of_61 (rdH (by first | assumption | omega) (by first | assumption | omega) 5 rfl) in_X1 (by decide) q113 rfl ?_
        exact V_iretN C dX8_of_64 hT (PX_rd (by unfold S_of; rw [if_pos hh, if_pos c20, hk_nI hi8]; rfl) (EqX.rf σ))
      · refine V_tableIn (tgt := 65) C dX8_of_30 (by decide) (by decide) rfl (by decide) ?_
        refine V_aload_n C dX8_of_65 rfl ?_
        refine V_cv C hE dX8_of_66 (c_X1_heats (v := 0) (i := i) (by omega) hi) kyX1_heats q295 (isoH (by first | assumption | omega) (by first | assumption | omega)) rfl rfl rfl ?_
        exact V_iretN C dX8_of_69 hT (PX_rd (by unfold S_of; rw [if_pos hh, if_pos c20, hk_nI hi8]; rfl) (EqX.rf σ))
      · refine V_tableIn (tgt := 70) C dX8_of_30 (by decide) (by decide) rfl (by decide) ?_
        refine V_aload_n C dX8_of_70 rfl ?_
        refine V_aload_n C dX8_of_71 rfl ?_
        refine V_get C dX8_of_72 (rdX8_live) in_X8 (by decide) q232 rfl ?_
        refine V_getN C hE.nw dX8_of_75 (rdV (by first | assumption | omega) 5 6 rfl rfl rfl) in_X5 (by decide) q139 rfl ?_
        refine V_cv C hE dX8_of_78 (c_X1_loses (v := 0) (i := i) (by omega) hi (by have := (hG.1.2.1 i hi).2.1.1; grind)) kyX1_loses q303 (isoH (by first | assumption | omega) (by first | assumption | omega)) rfl rfl rfl ?_
        exact V_iretN C dX8_of_81 hT (PX_rd (by unfold S_of; rw [if_pos hh, if_pos c20, hk_nI hi8]; rfl) (EqX.rf σ))
      · refine V_tableIn (tgt := 82) C dX8_of_30 (by decide) (by decide) rfl (by decide) ?_
        refine V_aload_n C dX8_of_82 rfl ?_
        refine V_cv C hE dX8_of_83 (c_X1_burns (v := 0) (i := i) (by omega) hi) kyX1_burns q307 (isoH (by first | assumption | omega) (by first | assumption | omega)) rfl rfl rfl ?_
        exact V_iretN C dX8_of_86 hT (PX_rd (by unfold S_of; rw [if_pos hh, if_pos c20, hk_nI hi8]; rfl) (EqX.rf σ))
      · refine V_tableOut (tgt := 87) C dX8_of_30 (Or.inl (by rw [nI_toInt (by omega)]; omega)) (by decide) ?_
        refine V_aload_n C dX8_of_87 rfl ?_
        refine V_iload_n C dX8_of_88 rfl ?_
        refine V_cv C hE dX8_of_89 (c_X1_told (v := 0) (i := i) (j := w) (by omega) hi (by omega)) kyX1_told q311 (isoH (by first | assumption | omega) (by first | assumption | omega)) rfl rfl rfl ?_
        exact V_iretN C dX8_of_92 hT (PX_rd (by unfold S_of; rw [if_pos hh, if_pos c20, hk_nI hi8]; rw [ofV_lt (by omega)]) (EqX.rf σ))
    · refine V_aload_n C dX8_of_23 rfl ?_
      refine V_iconst C 0 dX8_of_24 (by decide) ?_
      refine V_cv C hE dX8_of_25 (c_X8_fail (j := 0) (by omega)) kyX8_fail q273 (isoO 60 rfl rfl rfl rfl) rfl rfl rfl ?_
      exact V_iretN C dX8_of_28 hT (PX_fail (by unfold S_of; all_goals (first | rw [if_pos hh] | rw [if_neg hh]); all_goals (first | rw [if_pos c20] | rw [if_neg c20])) (EqX.rf σ))
  · refine V_cv C hE dX8_of_5 (c_X5_getN (v := 0) (by omega) hh) kyX5_get q294 (isoV (by first | assumption | omega)) rfl rfl rfl ?_
    refine V_astore_nN C dX8_of_8 rfl ?_
    refine V_aload_nN C dX8_of_9 rfl ?_
    refine V_ifnullN C dX8_of_10 ?_
    refine V_aload_n C dX8_of_23 rfl ?_
    refine V_iconst C 0 dX8_of_24 (by decide) ?_
    refine V_cv C hE dX8_of_25 (c_X8_fail (j := 0) (by omega)) kyX8_fail q273 (isoO 60 rfl rfl rfl rfl) rfl rfl rfl ?_
    exact V_iretN C dX8_of_28 hT (PX_fail (by unfold S_of; all_goals (first | rw [if_pos hh] | rw [if_neg hh])) (EqX.rf σ))

theorem c_X8_change {l : Launch} {E : En} {σ : Sg} {p0 p1 p2 : Int32}  : MN l yX8_change cX8_change 6 (some .int) rmX8_change E [.ref (ad E 60), .int p0, .int p1, .int p2] σ (PX σ (S_change (σ 0) p0 p1 p2) (uh (σ 0) (hk p0) (hk p1) p2)) := by
  refine MN_of (by decide +kernel) rfl fun x C hE hT hcan => ?_
  have C : CX x cX8_change RX8 rmX8_change := C
  refine V_L (L' := [some (.ref (ad E 60)), some (.int p0), some (.int p1), some (.int p2), none, none]) rfl ?_
  refine V_aload_n C dX8_change_0 rfl ?_
  refine V_get C dX8_change_1 (rdX8_live) in_X8 (by decide) q232 rfl ?_
  refine V_iload_n C dX8_change_4 rfl ?_
  by_cases hh : isH (σ 0) p0
  · obtain ⟨i, hi, rfl, hi8⟩ := isH_of (hcan.1 0 (by omega)) hh
    refine V_cv C hE dX8_change_5 (c_X5_get (v := 0) (i := i) (by omega) hi) kyX5_get q294 (isoV (by first | assumption | omega)) rfl rfl rfl ?_
    refine V_astore C dX8_change_8 rfl ?_
    refine V_aload C dX8_change_10 rfl ?_
    refine V_ifnull C dX8_change_12 ?_
    refine V_iload_n C dX8_change_15 rfl ?_
    refine V_iconst C 0 dX8_change_16 (by decide) ?_
    refine V_iconst C 4 dX8_change_17 (by decide) ?_
    refine V_cs C hE dX8_change_18 (c_X8_within) kyX8_within q270 rfl rfl rfl ?_
    refine V_ifeq_b C dX8_change_21 (fun c21 => ?_) (fun c21 => ?_)
    · refine V_aload_n C dX8_change_39 rfl ?_
      refine V_iconst C 0 dX8_change_40 (by decide) ?_
      refine V_cv C hE dX8_change_41 (c_X8_fail (j := 0) (by omega)) kyX8_fail q273 (isoO 60 rfl rfl rfl rfl) rfl rfl rfl ?_
      exact V_iretN C dX8_change_44 hT (PX_fail (by unfold S_change; all_goals (first | rw [if_pos hh] | rw [if_neg hh]); all_goals (first | rw [if_pos c21] | rw [if_neg c21])) (EqX.rf σ))
    · refine V_iload_n C dX8_change_24 rfl ?_
      refine V_iload_n C dX8_change_25 rfl ?_
      refine V_cs C hE dX8_change_26 (c_X8_lowest) kyX8_lowest q319 rfl rfl rfl ?_
      refine V_iload_n C dX8_change_29 rfl ?_
      refine V_cs C hE dX8_change_30 (c_X8_highest) kyX8_highest q322 rfl rfl rfl ?_
      refine V_cs C hE dX8_change_33 (c_X8_within) kyX8_within q270 rfl rfl rfl ?_
      refine V_ifne_b C dX8_change_36 (fun c36 => ?_) (fun c36 => ?_)
      · obtain ⟨w, rfl, hw⟩ := i32_le (m := 4) (by omega) c21.1 c21.2
        refine V_aload C dX8_change_45 rfl ?_
        refine V_iload_n C dX8_change_47 rfl ?_
        refine V_cv C hE dX8_change_48 (c_X1_told (v := 0) (i := i) (j := w) (by omega) hi (by omega)) kyX1_told q311 (isoH (by first | assumption | omega) (by first | assumption | omega)) rfl rfl rfl ?_
        refine V_istore C dX8_change_51 rfl ?_
        refine V_aload C dX8_change_53 rfl ?_
        refine V_iload_n C dX8_change_55 rfl ?_
        refine V_iload_n C dX8_change_56 rfl ?_
        refine V_cv0 C hE dX8_change_57 (c_X1_put (v := 0) (i := i) (j := w) (by omega) hi (by omega)) kyX1_put q325 (isoH (by first | assumption | omega) (by first | assumption | omega)) rfl rfl rfl ?_
        refine V_iload C dX8_change_60 rfl ?_
        exact V_iretN C dX8_change_62 hT (PX_ok (by unfold S_change; rw [if_pos hh, if_pos c21, if_pos c36, hk_nI hi8, hk_n (by omega)]) (by rw [hk_nI hi8, hk_n (by omega)]; exact EqX.rf _))
      · refine V_aload_n C dX8_change_39 rfl ?_
        refine V_iconst C 0 dX8_change_40 (by decide) ?_
        refine V_cv C hE dX8_change_41 (c_X8_fail (j := 0) (by omega)) kyX8_fail q273 (isoO 60 rfl rfl rfl rfl) rfl rfl rfl ?_
        exact V_iretN C dX8_change_44 hT (PX_fail (by unfold S_change; all_goals (first | rw [if_pos hh] | rw [if_neg hh]); all_goals (first | rw [if_pos c21] | rw [if_neg c21]); all_goals (first | rw [if_pos c36] | rw [if_neg c36])) (EqX.rf σ))
  · refine V_cv C hE dX8_change_5 (c_X5_getN (v := 0) (by omega) hh) kyX5_get q294 (isoV (by first | assumption | omega)) rfl rfl rfl ?_
    refine V_astoreN C dX8_change_8 rfl ?_
    refine V_aloadN C dX8_change_10 rfl ?_
    refine V_ifnullN C dX8_change_12 ?_
    refine V_aload_n C dX8_change_39 rfl ?_
    refine V_iconst C 0 dX8_change_40 (by decide) ?_
    refine V_cv C hE dX8_change_41 (c_X8_fail (j := 0) (by omega)) kyX8_fail q273 (isoO 60 rfl rfl rfl rfl) rfl rfl rfl ?_
    exact V_iretN C dX8_change_44 hT (PX_fail (by unfold S_change; all_goals (first | rw [if_pos hh] | rw [if_neg hh])) (EqX.rf σ))

theorem c_X8_steep {l : Launch} {E : En} {σ : Sg} {p0 p1 : Int32}  : MN l yX8_steep cX8_steep 4 (some .int) rmX8_steep E [.ref (ad E 60), .int p0, .int p1] σ (PX σ (S_steep (σ 0) p0 p1) (upd (σ 0) (8 + hk p0) p1)) := by
  refine MN_of (by decide +kernel) rfl fun x C hE hT hcan => ?_
  have C : CX x cX8_steep RX8 rmX8_steep := C
  refine V_L (L' := [some (.ref (ad E 60)), some (.int p0), some (.int p1), none]) rfl ?_
  refine V_iload_n C dX8_steep_0 rfl ?_
  refine V_iconst C 0 dX8_steep_1 (by decide) ?_
  refine V_bipush C 6 dX8_steep_2 (by decide) ?_
  refine V_cs C hE dX8_steep_4 (c_X8_within) kyX8_within q270 rfl rfl rfl ?_
  refine V_ifeq_b C dX8_steep_7 (fun c7 => ?_) (fun c7 => ?_)
  · refine V_aload_n C dX8_steep_20 rfl ?_
    refine V_iconst C 0 dX8_steep_21 (by decide) ?_
    refine V_cv C hE dX8_steep_22 (c_X8_fail (j := 0) (by omega)) kyX8_fail q273 (isoO 60 rfl rfl rfl rfl) rfl rfl rfl ?_
    exact V_iretN C dX8_steep_25 hT (PX_fail (by unfold S_steep; all_goals (first | rw [if_pos c7] | rw [if_neg c7])) (EqX.rf σ))
  · refine V_iload_n C dX8_steep_10 rfl ?_
    refine V_iconst C 0 dX8_steep_11 (by decide) ?_
    refine V_bipush C 9 dX8_steep_12 (by decide) ?_
    refine V_cs C hE dX8_steep_14 (c_X8_within) kyX8_within q270 rfl rfl rfl ?_
    refine V_ifne_b C dX8_steep_17 (fun c17 => ?_) (fun c17 => ?_)
    · obtain ⟨w, rfl, hw⟩ := i32_le (m := 6) (by omega) c7.1 c7.2
      refine V_aload_n C dX8_steep_26 rfl ?_
      refine V_get C dX8_steep_27 (rdX8_live) in_X8 (by decide) q232 rfl ?_
      refine V_iload_n C dX8_steep_30 rfl ?_
      refine V_cv C hE dX8_steep_31 (c_X5_steepAt (v := 0) (i := w) (by omega) (by omega)) kyX5_steepAt q333 (isoV (by first | assumption | omega)) rfl rfl rfl ?_
      refine V_istore_n C dX8_steep_34 rfl ?_
      refine V_aload_n C dX8_steep_35 rfl ?_
      refine V_get C dX8_steep_36 (rdX8_live) in_X8 (by decide) q232 rfl ?_
      refine V_iload_n C dX8_steep_39 rfl ?_
      refine V_iload_n C dX8_steep_40 rfl ?_
      refine V_cv0 C hE dX8_steep_41 (c_X5_putSteep (v := 0) (i := w) (by omega) (by omega)) kyX5_putSteep q337 (isoV (by first | assumption | omega)) rfl rfl rfl ?_
      refine V_iload_n C dX8_steep_44 rfl ?_
      exact V_iretN C dX8_steep_45 hT (PX_ok (by unfold S_steep; rw [if_pos c7, if_pos c17, hk_n (by omega)]) (by rw [hk_n (by omega)]; exact EqX.rf _))
    · refine V_aload_n C dX8_steep_20 rfl ?_
      refine V_iconst C 0 dX8_steep_21 (by decide) ?_
      refine V_cv C hE dX8_steep_22 (c_X8_fail (j := 0) (by omega)) kyX8_fail q273 (isoO 60 rfl rfl rfl rfl) rfl rfl rfl ?_
      exact V_iretN C dX8_steep_25 hT (PX_fail (by unfold S_steep; all_goals (first | rw [if_pos c7] | rw [if_neg c7]); all_goals (first | rw [if_pos c17] | rw [if_neg c17])) (EqX.rf σ))

theorem c_X8_weather {l : Launch} {E : En} {σ : Sg} {p0 p1 : Int32}  : MN l yX8_weather cX8_weather 4 (some .int) rmX8_weather E [.ref (ad E 60), .int p0, .int p1] σ (PX σ (S_weather (σ 0) p0 p1) (N_weather (σ 0) p0 p1)) := by
  refine MN_of (by decide +kernel) rfl fun x C hE hT hcan => ?_
  have C : CX x cX8_weather RX8 rmX8_weather := C
  refine V_L (L' := [some (.ref (ad E 60)), some (.int p0), some (.int p1), none]) rfl ?_
  refine V_iload_n C dX8_weather_0 rfl ?_
  refine V_if_ne C dX8_weather_1 (fun c1 => ?_) (fun c1 => ?_)
  · refine V_iload_n C dX8_weather_31 rfl ?_
    refine V_iconst C 1 dX8_weather_32 (by decide) ?_
    refine V_icmp_ne C dX8_weather_33 (fun c33 => ?_) (fun c33 => ?_)
    · refine V_aload_n C dX8_weather_64 rfl ?_
      refine V_iconst C 0 dX8_weather_65 (by decide) ?_
      refine V_cv C hE dX8_weather_66 (c_X8_fail (j := 0) (by omega)) kyX8_fail q273 (isoO 60 rfl rfl rfl rfl) rfl rfl rfl ?_
      exact V_iretN C dX8_weather_69 hT (PX_fail (by unfold S_weather; all_goals (first | rw [if_pos c1] | rw [if_neg c1]); all_goals (first | rw [if_pos c33] | rw [if_neg c33])) (EqX.rf σ))
    · refine V_iload_n C dX8_weather_36 rfl ?_
      refine V_iconst C 0 dX8_weather_37 (by decide) ?_
      refine V_bipush C 100 dX8_weather_38 (by decide) ?_
      refine V_cs C hE dX8_weather_40 (c_X8_within) kyX8_within q270 rfl rfl rfl ?_
      refine V_ifeq_b C dX8_weather_43 (fun c43 => ?_) (fun c43 => ?_)
      · refine V_aload_n C dX8_weather_64 rfl ?_
        refine V_iconst C 0 dX8_weather_65 (by decide) ?_
        refine V_cv C hE dX8_weather_66 (c_X8_fail (j := 0) (by omega)) kyX8_fail q273 (isoO 60 rfl rfl rfl rfl) rfl rfl rfl ?_
        exact V_iretN C dX8_weather_69 hT (PX_fail (by unfold S_weather; all_goals (first | rw [if_pos c1] | rw [if_neg c1]); all_goals (first | rw [if_pos c33] | rw [if_neg c33]); all_goals (first | rw [if_pos c43] | rw [if_neg c43])) (EqX.rf σ))
      · refine V_aload_n C dX8_weather_46 rfl ?_
        refine V_get C dX8_weather_47 (rdX8_live) in_X8 (by decide) q232 rfl ?_
        refine V_getN C hE.nw dX8_weather_50 (rdV (by first | assumption | omega) 5 6 rfl rfl rfl) in_X5 (by decide) q139 rfl ?_
        refine V_istore_n C dX8_weather_53 rfl ?_
        refine V_aload_n C dX8_weather_54 rfl ?_
        refine V_get C dX8_weather_55 (rdX8_live) in_X8 (by decide) q232 rfl ?_
        refine V_iload_n C dX8_weather_58 rfl ?_
        refine V_putN C hE.nw dX8_weather_59 (wrV (by first | assumption | omega) 5 6 rfl rfl rfl) ft_X5 (by decide) q139 rfl rfl rfl rfl ?_
        refine V_iload_n C dX8_weather_62 rfl ?_
        exact V_iretN C dX8_weather_63 hT (PX_ok (by unfold S_weather; all_goals (first | rw [if_pos c1] | rw [if_neg c1]); all_goals (first | rw [if_pos c33] | rw [if_neg c33]); all_goals (first | rw [if_pos c43] | rw [if_neg c43])) (by unfold N_weather; (first | rw [if_pos c1] | rw [if_neg c1]); exact EqX.rf _))
  · refine V_iload_n C dX8_weather_4 rfl ?_
    refine V_iconst C 0 dX8_weather_5 (by decide) ?_
    refine V_iconst C 1 dX8_weather_6 (by decide) ?_
    refine V_cs C hE dX8_weather_7 (c_X8_within) kyX8_within q270 rfl rfl rfl ?_
    refine V_ifeq_b C dX8_weather_10 (fun c10 => ?_) (fun c10 => ?_)
    · refine V_iload_n C dX8_weather_31 rfl ?_
      refine V_iconst C 1 dX8_weather_32 (by decide) ?_
      refine V_icmp_ne C dX8_weather_33 (fun c33 => ?_) (fun c33 => absurd c33 (by rw [c1]; decide))
      refine V_aload_n C dX8_weather_64 rfl ?_
      refine V_iconst C 0 dX8_weather_65 (by decide) ?_
      refine V_cv C hE dX8_weather_66 (c_X8_fail (j := 0) (by omega)) kyX8_fail q273 (isoO 60 rfl rfl rfl rfl) rfl rfl rfl ?_
      exact V_iretN C dX8_weather_69 hT (PX_fail (by unfold S_weather; all_goals (first | rw [if_pos c1] | rw [if_neg c1]); all_goals (first | rw [if_pos c10] | rw [if_neg c10])) (EqX.rf σ))
    · refine V_aload_n C dX8_weather_13 rfl ?_
      refine V_get C dX8_weather_14 (rdX8_live) in_X8 (by decide) q232 rfl ?_
      refine V_getN C hE.nw dX8_weather_17 (rdV (by first | assumption | omega) 4 5 rfl rfl rfl) in_X5 (by decide) q137 rfl ?_
      refine V_istore_n C dX8_weather_20 rfl ?_
      refine V_aload_n C dX8_weather_21 rfl ?_
      refine V_get C dX8_weather_22 (rdX8_live) in_X8 (by decide) q232 rfl ?_
      refine V_iload_n C dX8_weather_25 rfl ?_
      refine V_putN C hE.nw dX8_weather_26 (wrV (by first | assumption | omega) 4 5 rfl rfl rfl) ft_X5 (by decide) q137 rfl rfl rfl rfl ?_
      refine V_iload_n C dX8_weather_29 rfl ?_
      exact V_iretN C dX8_weather_30 hT (PX_ok (by unfold S_weather; all_goals (first | rw [if_pos c1] | rw [if_neg c1]); all_goals (first | rw [if_pos c10] | rw [if_neg c10])) (by unfold N_weather; (first | rw [if_pos c1] | rw [if_neg c1]); exact EqX.rf _))

