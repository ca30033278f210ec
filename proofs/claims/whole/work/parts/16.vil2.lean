theorem c_X5_stoveHouse {l : Launch} {E : En} {σ : Sg} {v : Nat} (hv : v < 5) (hb : canB (σ v)) (h3 : 0 ≤ σ v 3) : MD l yX5_stoveHouse cX5_stoveHouse 2 (some (.object "SledgeStove$House")) rmX5_stoveHouse E [.ref (ad E (vb v))] σ (some (.ref (ad E (hc v (hx (σ v)))))) (σ) := by
  refine MD_of (by decide +kernel) rfl fun x C hE hT hcan => ?_
  have C : CX x cX5_stoveHouse RX5 rmX5_stoveHouse := C
  have h8 : nh (σ v) ≤ 8 := (hcan.1 v hv).2.1
  have hxp := hx_of (hcan.1 v hv) hb.1
  have hxp1 := hxp.1
  refine V_L (L' := [some (.ref (ad E (vb v))), none]) rfl ?_
  refine V_aload_n C dX5_stoveHouse_0 rfl ?_
  refine V_get C dX5_stoveHouse_1 (rdV (by first | assumption | omega) 7 3 rfl rfl rfl) in_X5 (by decide) q143 rfl ?_
  refine V_if_ne C dX5_stoveHouse_4 (fun c4 => absurd (Int32.le_antisymm (Int32.not_lt.mp hb.2.1) h3) c4) (fun c4 => ?_)
  refine V_aload_n C dX5_stoveHouse_7 rfl ?_
  refine V_aload_n C dX5_stoveHouse_8 rfl ?_
  refine V_get C dX5_stoveHouse_9 (rdV (by first | assumption | omega) 6 2 rfl rfl rfl) in_X5 (by decide) q141 rfl ?_
  refine V_st (st' := [.int (nI (hx (σ v))), .ref (ad E (vb v))]) (by rw [hxp.2]) ?_
  refine V_cv C hE dX5_stoveHouse_12 (c_X5_get hv hxp1) kyX5_get q282 (isoV (by first | assumption | omega)) rfl rfl rfl ?_
  refine V_goto C dX5_stoveHouse_15 ?_
  refine V_astore_n C dX5_stoveHouse_19 rfl ?_
  refine V_aload_n C dX5_stoveHouse_20 rfl ?_
  refine V_ifnull C dX5_stoveHouse_21 ?_
  refine V_aload_n C dX5_stoveHouse_24 rfl ?_
  refine V_getN C hE.nw dX5_stoveHouse_25 (rdH (by first | assumption | omega) (by first | assumption | omega) 3 rfl) in_X1 (by decide) q109 rfl ?_
  refine V_aload_n C dX5_stoveHouse_28 rfl ?_
  refine V_cv C hE dX5_stoveHouse_29 (c_X1_burns hv hxp1) kyX1_burns q398 (isoH (by first | assumption | omega) (by first | assumption | omega)) rfl rfl rfl ?_
  refine V_icmp_lt C dX5_stoveHouse_32 (fun c32 => absurd c32 (Int32.not_lt.mpr hb.2.2)) (fun c32 => ?_)
  refine V_aload_n C dX5_stoveHouse_35 rfl ?_
  refine V_goto C dX5_stoveHouse_36 ?_
  exact V_aretD C dX5_stoveHouse_40 hT rfl rfl

theorem c_X5_stoveHouseN {l : Launch} {E : En} {σ : Sg} {v : Nat} (hv : v < 5) (hb : ¬ canB (σ v)) (h3 : 0 ≤ σ v 3) : MD l yX5_stoveHouse cX5_stoveHouse 2 (some (.object "SledgeStove$House")) rmX5_stoveHouse E [.ref (ad E (vb v))] σ (some (.null)) (σ) := by
  refine MD_of (by decide +kernel) rfl fun x C hE hT hcan => ?_
  have C : CX x cX5_stoveHouse RX5 rmX5_stoveHouse := C
  refine V_L (L' := [some (.ref (ad E (vb v))), none]) rfl ?_
  refine V_aload_n C dX5_stoveHouse_0 rfl ?_
  refine V_get C dX5_stoveHouse_1 (rdV (by first | assumption | omega) 7 3 rfl rfl rfl) in_X5 (by decide) q143 rfl ?_
  refine V_if_ne C dX5_stoveHouse_4 (fun c4 => ?_) (fun c4 => ?_)
  · refine V_null C dX5_stoveHouse_18 ?_
    refine V_astore_nN C dX5_stoveHouse_19 rfl ?_
    refine V_aload_nN C dX5_stoveHouse_20 rfl ?_
    refine V_ifnullN C dX5_stoveHouse_21 ?_
    refine V_null C dX5_stoveHouse_39 ?_
    exact V_aretN C dX5_stoveHouse_40 hT rfl rfl
  · refine V_aload_n C dX5_stoveHouse_7 rfl ?_
    refine V_aload_n C dX5_stoveHouse_8 rfl ?_
    refine V_get C dX5_stoveHouse_9 (rdV (by first | assumption | omega) 6 2 rfl rfl rfl) in_X5 (by decide) q141 rfl ?_
    by_cases hh : isH (σ v) (σ v 2)
    · have h8 : nh (σ v) ≤ 8 := (hcan.1 v hv).2.1
      have hxp := hx_of (hcan.1 v hv) hh
      have hxp1 := hxp.1
      refine V_st (st' := [.int (nI (hx (σ v))), .ref (ad E (vb v))]) (by rw [hxp.2]) ?_
      refine V_cv C hE dX5_stoveHouse_12 (c_X5_get hv hxp1) kyX5_get q282 (isoV (by first | assumption | omega)) rfl rfl rfl ?_
      refine V_goto C dX5_stoveHouse_15 ?_
      refine V_astore_n C dX5_stoveHouse_19 rfl ?_
      refine V_aload_n C dX5_stoveHouse_20 rfl ?_
      refine V_ifnull C dX5_stoveHouse_21 ?_
      refine V_aload_n C dX5_stoveHouse_24 rfl ?_
      refine V_getN C hE.nw dX5_stoveHouse_25 (rdH (by first | assumption | omega) (by first | assumption | omega) 3 rfl) in_X1 (by decide) q109 rfl ?_
      refine V_aload_n C dX5_stoveHouse_28 rfl ?_
      refine V_cv C hE dX5_stoveHouse_29 (c_X1_burns hv hxp1) kyX1_burns q398 (isoH (by first | assumption | omega) (by first | assumption | omega)) rfl rfl rfl ?_
      refine V_icmp_lt C dX5_stoveHouse_32 (fun c32 => ?_) (fun c32 => absurd (Int32.not_le.mp (fun q => hb ⟨hh, fun h => by rw [c4] at h; exact absurd h (by decide), q⟩)) c32)
      refine V_null C dX5_stoveHouse_39 ?_
      exact V_aretN C dX5_stoveHouse_40 hT rfl rfl
    · refine V_cv C hE dX5_stoveHouse_12 (c_X5_getN hv hh) kyX5_get q282 (isoV (by first | assumption | omega)) rfl rfl rfl ?_
      refine V_goto C dX5_stoveHouse_15 ?_
      refine V_astore_nN C dX5_stoveHouse_19 rfl ?_
      refine V_aload_nN C dX5_stoveHouse_20 rfl ?_
      refine V_ifnullN C dX5_stoveHouse_21 ?_
      refine V_null C dX5_stoveHouse_39 ?_
      exact V_aretN C dX5_stoveHouse_40 hT rfl rfl

theorem c_X5_burnAt {l : Launch} {E : En} {σ : Sg} {v : Nat} {h : Nat} (hv : v < 5) (hi : h < nh (σ v)) (hat : σ v 2 = nI h) (hw : ∀ i, i < nh (σ v) → hf (σ v) i 1 ≤ 400) : MD l yX5_burnAt cX5_burnAt 5 none rmX5_burnAt E [.ref (ad E (vb v)), .ref (ad E (hc v h))] σ none (us σ v (burnF (σ v) h)) := by
  refine MD_of (by decide +kernel) rfl fun x C hE hT hcan => ?_
  have C : CX x cX5_burnAt RX5 rmX5_burnAt := C
  have h8 : nh (σ v) ≤ 8 := (hcan.1 v hv).2.1
  refine V_L (L' := [some (.ref (ad E (vb v))), some (.ref (ad E (hc v h))), none, none, none]) rfl ?_
  refine V_aload_n C dX5_burnAt_0 rfl ?_
  refine V_cv C hE dX5_burnAt_1 (c_X1_heats hv (by first | assumption | (simp (disch := omega) only [us_s, nh_getF, nh_uh, nh_upd]; omega))) kyX1_heats q403 (isoH (by first | assumption | omega) (by first | assumption | omega)) rfl rfl rfl ?_
  try simp only [us_us, us_s]
  refine V_istore_n C dX5_burnAt_4 rfl ?_
  refine V_aload_n C dX5_burnAt_5 rfl ?_
  refine V_dup C dX5_burnAt_6 rfl ?_
  refine V_getN C hE.nw dX5_burnAt_7 (rdH (by first | assumption | omega) (by first | assumption | (simp (disch := omega) only [us_s, nh_getF, nh_uh, nh_upd]; omega)) 3 rfl) in_X1 (by decide) q109 rfl ?_
  refine V_aload_n C dX5_burnAt_10 rfl ?_
  refine V_cv C hE dX5_burnAt_11 (c_X1_burns hv (by first | assumption | (simp (disch := omega) only [us_s, nh_getF, nh_uh, nh_upd]; omega))) kyX1_burns q398 (isoH (by first | assumption | omega) (by first | assumption | omega)) rfl rfl rfl ?_
  try simp only [us_us, us_s]
  refine V_isub C dX5_burnAt_14 ?_
  refine V_putN C hE.nw dX5_burnAt_15 (wrH (by first | assumption | omega) (by first | assumption | (simp (disch := omega) only [us_s, nh_getF, nh_uh, nh_upd]; omega)) 3 rfl) ft_X1 (by decide) q109 rfl rfl rfl rfl ?_
  try simp only [us_us, us_s]
  refine V_aload_n C dX5_burnAt_18 rfl ?_
  refine V_dup C dX5_burnAt_19 rfl ?_
  refine V_get C dX5_burnAt_20 (rdV (by first | assumption | omega) 9 4 rfl rfl rfl) in_X5 (by decide) q148 rfl ?_
  refine V_aload_n C dX5_burnAt_23 rfl ?_
  refine V_cv C hE dX5_burnAt_24 (c_X1_burns hv (by first | assumption | (simp (disch := omega) only [us_s, nh_getF, nh_uh, nh_upd]; omega))) kyX1_burns q398 (isoH (by first | assumption | omega) (by first | assumption | omega)) rfl rfl rfl ?_
  try simp only [us_us, us_s]
  simp (disch := omega) only [us_us, us_s, hf_uh_s, hf_uh_n, hf_upd, uh_lo, upd_n, upd_s]
  refine V_iadd C dX5_burnAt_27 ?_
  refine V_put C dX5_burnAt_28 (wrV (by first | assumption | omega) 9 4 rfl rfl rfl) ft_X5 (by decide) q148 rfl rfl rfl rfl ?_
  try simp only [us_us, us_s]
  refine V_aload_n C dX5_burnAt_31 rfl ?_
  refine V_iload_n C dX5_burnAt_32 rfl ?_
  refine V_cv0 C hE dX5_burnAt_33 (c_X1_warmBy (i := h) hv (by first | assumption | (simp (disch := omega) only [us_s, nh_getF, nh_uh, nh_upd]; omega))) kyX1_warmBy q404 (isoH (by first | assumption | omega) (by first | assumption | omega)) rfl rfl rfl ?_
  try simp only [us_us, us_s]
  simp (disch := omega) only [us_us, us_s, hf_uh_s, hf_uh_n, hf_upd, uh_lo, upd_n, upd_s]
  refine V_aload_n C dX5_burnAt_36 rfl ?_
  refine V_aload_n C dX5_burnAt_37 rfl ?_
  refine V_get C dX5_burnAt_38 (rdV (by first | assumption | omega) 6 2 rfl rfl rfl) in_X5 (by decide) q141 rfl ?_
  refine V_iconst C 1 dX5_burnAt_41 (by decide) ?_
  refine V_isub C dX5_burnAt_42 ?_
  by_cases h0 : 1 ≤ h
  · refine V_st (st' := [.int (nI (h - 1)), .ref (ad E (vb v))]) (by simp (disch := omega) only [us_s, getF_lo, uh_lo, upd_n]; rw [hat]; rw [nI_m1 h0]) ?_
    refine V_cv C hE dX5_burnAt_43 (c_X5_get hv (by first | assumption | (simp (disch := omega) only [us_s, nh_getF, nh_uh, nh_upd]; omega))) kyX5_get q282 (isoV (by first | assumption | omega)) rfl rfl rfl ?_
    try simp only [us_us, us_s]
    refine V_astore_n C dX5_burnAt_46 rfl ?_
    refine V_aload_n C dX5_burnAt_47 rfl ?_
    refine V_ifnull C dX5_burnAt_48 ?_
    refine V_aload_n C dX5_burnAt_51 rfl ?_
    refine V_aload_n C dX5_burnAt_52 rfl ?_
    refine V_iload_n C dX5_burnAt_53 rfl ?_
    refine V_cv C hE dX5_burnAt_54 (c_X1_gets (i := h - 1) hv (by first | assumption | (simp (disch := omega) only [us_s, nh_getF, nh_uh, nh_upd]; omega))) kyX1_gets q409 (isoH (by first | assumption | omega) (by first | assumption | omega)) rfl rfl rfl ?_
    try simp only [us_us, us_s]
    refine V_cv0 C hE dX5_burnAt_57 (c_X1_warmBy (i := h - 1) hv (by first | assumption | (simp (disch := omega) only [us_s, nh_getF, nh_uh, nh_upd]; omega))) kyX1_warmBy q404 (isoH (by first | assumption | omega) (by first | assumption | omega)) rfl rfl rfl ?_
    try simp only [us_us, us_s]
    rw [getF_eq (by simp (disch := omega) only [getF_hn, hf_uh_n, hf_upd]; exact hw _ (by omega))]
    refine V_aload_n C dX5_burnAt_60 rfl ?_
    refine V_aload_n C dX5_burnAt_61 rfl ?_
    refine V_get C dX5_burnAt_62 (rdV (by first | assumption | omega) 6 2 rfl rfl rfl) in_X5 (by decide) q141 rfl ?_
    refine V_iconst C 1 dX5_burnAt_65 (by decide) ?_
    refine V_iadd C dX5_burnAt_66 ?_
    by_cases h9 : h + 1 < nh (σ v)
    · refine V_st (st' := [.int (nI (h + 1)), .ref (ad E (vb v))]) (by simp (disch := omega) only [us_s, getF_lo, uh_lo, upd_n]; rw [hat]; rw [nI_1]) ?_
      refine V_cv C hE dX5_burnAt_67 (c_X5_get hv (by first | assumption | (simp (disch := omega) only [us_s, nh_getF, nh_uh, nh_upd]; omega))) kyX5_get q282 (isoV (by first | assumption | omega)) rfl rfl rfl ?_
      try simp only [us_us, us_s]
      refine V_astore C dX5_burnAt_70 rfl ?_
      refine V_aload C dX5_burnAt_72 rfl ?_
      refine V_ifnull C dX5_burnAt_74 ?_
      refine V_aload C dX5_burnAt_77 rfl ?_
      refine V_aload C dX5_burnAt_79 rfl ?_
      refine V_iload_n C dX5_burnAt_81 rfl ?_
      refine V_cv C hE dX5_burnAt_82 (c_X1_gets (i := h + 1) hv (by first | assumption | (simp (disch := omega) only [us_s, nh_getF, nh_uh, nh_upd]; omega))) kyX1_gets q409 (isoH (by first | assumption | omega) (by first | assumption | omega)) rfl rfl rfl ?_
      try simp only [us_us, us_s]
      refine V_cv0 C hE dX5_burnAt_85 (c_X1_warmBy (i := h + 1) hv (by first | assumption | (simp (disch := omega) only [us_s, nh_getF, nh_uh, nh_upd]; omega))) kyX1_warmBy q404 (isoH (by first | assumption | omega) (by first | assumption | omega)) rfl rfl rfl ?_
      try simp only [us_us, us_s]
      rw [getF_eq (by simp (disch := omega) only [getF_hn, hf_uh_n, hf_upd]; exact hw _ (by omega))]
      exact V_retD C dX5_burnAt_88 hT (by simp only [burnF, h0, h9, ↓reduceIte])
    · refine V_use (fun H0 hP0 => ?_)
      have hCn := (CA_of hP0).1 v hv
      refine V_st (st' := [.int (nI (h + 1)), .ref (ad E (vb v))]) (by simp (disch := omega) only [us_s, getF_lo, uh_lo, upd_n]; rw [hat]; rw [nI_1]) ?_
      refine V_cv C hE dX5_burnAt_67 (c_X5_getN hv (fun q => h9 (by have q2 := (isH_nI hCn (by omega)).mp q; simp (disch := omega) only [us_s, nh_getF, nh_uh, nh_upd] at q2; exact q2))) kyX5_get q282 (isoV (by first | assumption | omega)) rfl rfl rfl ?_
      try simp only [us_us, us_s]
      refine V_astoreN C dX5_burnAt_70 rfl ?_
      refine V_aloadN C dX5_burnAt_72 rfl ?_
      refine V_ifnullN C dX5_burnAt_74 ?_
      exact V_retD C dX5_burnAt_88 hT (by simp only [burnF, h0, h9, ↓reduceIte])
  · have h00 : h = 0 := by omega
    refine V_st (st' := [.int (-1), .ref (ad E (vb v))]) (by simp (disch := omega) only [us_s, getF_lo, uh_lo, upd_n]; rw [hat]; subst h00; rfl) ?_
    refine V_cv C hE dX5_burnAt_43 (c_X5_getN hv (fun q => absurd q.1 (by decide))) kyX5_get q282 (isoV (by first | assumption | omega)) rfl rfl rfl ?_
    try simp only [us_us, us_s]
    refine V_astore_nN C dX5_burnAt_46 rfl ?_
    refine V_aload_nN C dX5_burnAt_47 rfl ?_
    refine V_ifnullN C dX5_burnAt_48 ?_
    refine V_aload_n C dX5_burnAt_60 rfl ?_
    refine V_aload_n C dX5_burnAt_61 rfl ?_
    refine V_get C dX5_burnAt_62 (rdV (by first | assumption | omega) 6 2 rfl rfl rfl) in_X5 (by decide) q141 rfl ?_
    refine V_iconst C 1 dX5_burnAt_65 (by decide) ?_
    refine V_iadd C dX5_burnAt_66 ?_
    by_cases h9 : h + 1 < nh (σ v)
    · refine V_st (st' := [.int (nI (h + 1)), .ref (ad E (vb v))]) (by simp (disch := omega) only [us_s, getF_lo, uh_lo, upd_n]; rw [hat]; rw [nI_1]) ?_
      refine V_cv C hE dX5_burnAt_67 (c_X5_get hv (by first | assumption | (simp (disch := omega) only [us_s, nh_getF, nh_uh, nh_upd]; omega))) kyX5_get q282 (isoV (by first | assumption | omega)) rfl rfl rfl ?_
      try simp only [us_us, us_s]
      refine V_astore C dX5_burnAt_70 rfl ?_
      refine V_aload C dX5_burnAt_72 rfl ?_
      refine V_ifnull C dX5_burnAt_74 ?_
      refine V_aload C dX5_burnAt_77 rfl ?_
      refine V_aload C dX5_burnAt_79 rfl ?_
      refine V_iload_n C dX5_burnAt_81 rfl ?_
      refine V_cv C hE dX5_burnAt_82 (c_X1_gets (i := h + 1) hv (by first | assumption | (simp (disch := omega) only [us_s, nh_getF, nh_uh, nh_upd]; omega))) kyX1_gets q409 (isoH (by first | assumption | omega) (by first | assumption | omega)) rfl rfl rfl ?_
      try simp only [us_us, us_s]
      refine V_cv0 C hE dX5_burnAt_85 (c_X1_warmBy (i := h + 1) hv (by first | assumption | (simp (disch := omega) only [us_s, nh_getF, nh_uh, nh_upd]; omega))) kyX1_warmBy q404 (isoH (by first | assumption | omega) (by first | assumption | omega)) rfl rfl rfl ?_
      try simp only [us_us, us_s]
      rw [getF_eq (by simp (disch := omega) only [getF_hn, hf_uh_n, hf_upd]; exact hw _ (by omega))]
      exact V_retD C dX5_burnAt_88 hT (by simp only [burnF, h0, h9, ↓reduceIte])
    · refine V_use (fun H0 hP0 => ?_)
      have hCn := (CA_of hP0).1 v hv
      refine V_st (st' := [.int (nI (h + 1)), .ref (ad E (vb v))]) (by simp (disch := omega) only [us_s, getF_lo, uh_lo, upd_n]; rw [hat]; rw [nI_1]) ?_
      refine V_cv C hE dX5_burnAt_67 (c_X5_getN hv (fun q => h9 (by have q2 := (isH_nI hCn (by omega)).mp q; simp (disch := omega) only [us_s, nh_getF, nh_uh, nh_upd] at q2; exact q2))) kyX5_get q282 (isoV (by first | assumption | omega)) rfl rfl rfl ?_
      try simp only [us_us, us_s]
      refine V_astoreN C dX5_burnAt_70 rfl ?_
      refine V_aloadN C dX5_burnAt_72 rfl ?_
      refine V_ifnullN C dX5_burnAt_74 ?_
      exact V_retD C dX5_burnAt_88 hT (by simp only [burnF, h0, h9, ↓reduceIte])

