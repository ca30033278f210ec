theorem c_X8_straw {l : Launch} {E : En} {σ : Sg} {p0 : Int32}  (hG : GV (σ 0)) : MN l yX8_straw cX8_straw 8 (some .int) rmX8_straw E [.ref (ad E 60), .int p0] σ (PX σ (S_straw (σ 0) p0) (σ 0)) := by
  refine MN_of (by decide +kernel) rfl fun x C hE hT hcan => ?_
  have C : CX x cX8_straw RX8 rmX8_straw := C
  have hn1 := (hcan.1 0 (by omega)).1
  have h8 := (hcan.1 0 (by omega)).2.1
  refine V_L (L' := [some (.ref (ad E 60)), some (.int p0), none, none, none, none, none, none]) rfl ?_
  refine V_iload_n C dX8_straw_0 rfl ?_
  refine V_iconst C 1 dX8_straw_1 (by decide) ?_
  refine V_bipush C 96 dX8_straw_2 (by decide) ?_
  refine V_cs C hE dX8_straw_4 (c_X8_within) kyX8_within q270 rfl rfl rfl ?_
  refine V_ifne_b C dX8_straw_7 (fun c7 => ?_) (fun c7 => ?_)
  · refine V_aload_n C dX8_straw_16 rfl ?_
    refine V_get C dX8_straw_17 (rdX8_live) in_X8 (by decide) q232 rfl ?_
    refine V_getN C hE.nw dX8_straw_20 (rdV (by first | assumption | omega) 3 1 rfl rfl rfl) in_X5 (by decide) q133 rfl ?_
    refine V_if_eq C dX8_straw_23 (fun c23 => ?_) (fun c23 => ?_)
    · refine V_aload_n C dX8_straw_34 rfl ?_
      refine V_iconst C 4 dX8_straw_35 (by decide) ?_
      refine V_cv C hE dX8_straw_36 (c_X8_fail (j := 4) (by omega)) kyX8_fail q273 (isoO 60 rfl rfl rfl rfl) rfl rfl rfl ?_
      exact V_iretN C dX8_straw_39 hT (PX_fail (by unfold S_straw; all_goals (first | rw [if_pos c7] | rw [if_neg c7]); all_goals (first | rw [if_pos c23] | rw [if_neg c23])) (EqX.rf σ))
    · refine V_aload_n C dX8_straw_26 rfl ?_
      refine V_iload_n C dX8_straw_27 rfl ?_
      refine V_cv C hE dX8_straw_28 (c_X8_endsTooLate) kyX8_endsTooLate q377 (isoO 60 rfl rfl rfl rfl) rfl rfl rfl ?_
      refine V_ifeq_b C dX8_straw_31 (fun c31 => ?_) (fun c31 => ?_)
      · obtain ⟨q, rfl, hq⟩ := i32_le (m := 96) (by omega) (Int32.le_trans (by decide) c7.1) c7.2
        refine V_iconst C 0 dX8_straw_40 (by decide) ?_
        refine V_istore_n C dX8_straw_41 rfl ?_
        refine V_iconst C (-1) dX8_straw_42 (by decide) ?_
        refine V_istore_n C dX8_straw_43 rfl ?_
        refine V_iconst C 0 dX8_straw_44 (by decide) ?_
        refine V_istore C dX8_straw_45 rfl ?_
        have lp : ∀ (d i : Nat) (u : Sg), i + d = nh (σ 0) → (EqX σ u) → V x (eA E) (AP x E (u)) 0 0 47 [some (.ref (ad E 60)), some (.int (nI q)), some (.int (amax (fun i => lstF (passN q (uh (σ 0) i 2 (wal5 (hf (σ 0) i 2))))) i).1), some (.int (amax (fun i => lstF (passN q (uh (σ 0) i 2 (wal5 (hf (σ 0) i 2))))) i).2), some (.int (nI i)), none, none, none] [] := by
          intro d
          induction d with
          | zero =>
            intro i u hi' hu
            have hN : i = nh (σ 0) := by omega
            refine V_iload C dX8_straw_47 rfl ?_
            refine V_aload_n C dX8_straw_49 rfl ?_
            refine V_get C dX8_straw_50 (rdX8_live) in_X8 (by decide) q232 rfl ?_
            refine V_getN C hE.nw dX8_straw_53 (rdV (by first | assumption | omega) 3 1 rfl rfl rfl) in_X5 (by decide) q133 rfl ?_
            refine V_icmp_ge C dX8_straw_56 (fun c56 => ?_) (fun c56 => absurd (by rw [hu.z, hn1, hN]; exact nI_le (Nat.le_refl _) (by omega)) c56)
            refine V_iload_n C dX8_straw_127 rfl ?_
            exact V_iretN C dX8_straw_128 hT (PX_rd (by unfold S_straw; rw [if_pos c7, if_neg c23, if_neg c31, hk_n (by omega), hN]) hu)
          | succ d ih =>
            intro i u hi' hu
            have hi8 : i < 8 := by omega
            refine V_iload C dX8_straw_47 rfl ?_
            refine V_aload_n C dX8_straw_49 rfl ?_
            refine V_get C dX8_straw_50 (rdX8_live) in_X8 (by decide) q232 rfl ?_
            refine V_getN C hE.nw dX8_straw_53 (rdV (by first | assumption | omega) 3 1 rfl rfl rfl) in_X5 (by decide) q133 rfl ?_
            refine V_icmp_ge C dX8_straw_56 (fun c56 => absurd c56 (by rw [hu.z, hn1]; exact nI_ge (by omega) (by omega))) (fun c56 => ?_)
            refine V_aload_n C dX8_straw_59 rfl ?_
            refine V_cv C hE dX8_straw_60 (c_X8_trial) kyX8_trial q443 (isoO 60 rfl rfl rfl rfl) rfl rfl rfl ?_
            try simp only [us_us, us_s, trS_2]
            refine V_astore C dX8_straw_63 rfl ?_
            refine V_aload C dX8_straw_65 rfl ?_
            refine V_iload C dX8_straw_67 rfl ?_
            refine V_cv C hE dX8_straw_69 (c_X5_get (v := 2) (i := i) (by omega) (by rw [trS_2, hu.z]; omega)) kyX5_get q294 (isoV (by first | assumption | omega)) rfl rfl rfl ?_
            try simp only [us_us, us_s, trS_2]
            refine V_astore C dX8_straw_72 rfl ?_
            refine V_aload C dX8_straw_74 rfl ?_
            refine V_ifnull C dX8_straw_76 ?_
            refine V_aload C dX8_straw_79 rfl ?_
            refine V_bipush C 40 dX8_straw_81 (by decide) ?_
            refine V_aload C dX8_straw_83 rfl ?_
            refine V_getN C hE.nw dX8_straw_85 (rdH (by first | assumption | omega) (by first | assumption | (rw [trS_2, hu.z]; omega)) 2 rfl) in_X1 (by decide) q106 rfl ?_
            refine V_iconst C 5 dX8_straw_88 (by decide) ?_
            refine V_iadd C dX8_straw_89 ?_
            refine V_mmin C dX8_straw_90 q513 q361 q69 q362 rfl rfl (Nat.zero_le _) (Nat.zero_le _) ?_
            rw [trS_2, hu.z]
            refine V_st (st' := [.int (wal5 (hf (σ 0) i 2)), .ref (ad E (hc 2 i))]) rfl ?_
            refine V_putN C hE.nw dX8_straw_93 (wrH (by first | assumption | omega) (by first | assumption | (rw [trS_2, hu.z]; omega)) 2 rfl) ft_X1 (by decide) q106 rfl rfl rfl rfl ?_
            try simp only [us_us, us_s, trS_2]
            rw [hu.z]
            refine V_aload C dX8_straw_96 rfl ?_
            refine V_iload_n C dX8_straw_98 rfl ?_
            refine V_cv0 C hE dX8_straw_99 (c_X5_pass (v := 2) (n := q) (by omega) (by omega) (by rw [us_s]; exact Inv_uh2 hG.1 (by omega) (wal5_b (hG.1.2.1 i (by omega)).2.1))) kyX5_pass q386 (isoV (by first | assumption | omega)) rfl rfl rfl ?_
            try simp only [us_us, us_s, trS_2]
            refine V_aload C dX8_straw_102 rfl ?_
            refine V_cv C hE dX8_straw_104 (c_X5_leastWarmth (v := 2) (by omega)) kyX5_leastWarmth q458 (isoV (by first | assumption | omega)) rfl rfl rfl ?_
            try simp only [us_us, us_s, trS_2]
            refine V_istore C dX8_straw_107 rfl ?_
            refine V_iload C dX8_straw_109 rfl ?_
            refine V_iload_n C dX8_straw_111 rfl ?_
            refine V_icmp_le C dX8_straw_112 (fun c112 => ?_) (fun c112 => ?_)
            · refine V_forget 5 ?_
              refine V_forget 6 ?_
              refine V_forget 7 ?_
              refine V_iinc C 1 dX8_straw_121 rfl (by decide) rfl ?_
              refine V_goto C dX8_straw_124 ?_
              exact V_nx rfl (by first | (rw [amax_k (g := (fun i => lstF (passN q (uh (σ 0) i 2 (wal5 (hf (σ 0) i 2)))))) c112]; simp [← nI_1] <;> rfl) | (rw [amax_s (g := (fun i => lstF (passN q (uh (σ 0) i 2 (wal5 (hf (σ 0) i 2)))))) c112]; simp [← nI_1] <;> rfl)) (ih (i + 1) _ (by omega) (hu.tr ((EqX_tr u).put (by omega))))
            · refine V_iload C dX8_straw_115 rfl ?_
              refine V_istore_n C dX8_straw_117 rfl ?_
              refine V_iload C dX8_straw_118 rfl ?_
              refine V_istore_n C dX8_straw_120 rfl ?_
              refine V_forget 5 ?_
              refine V_forget 6 ?_
              refine V_forget 7 ?_
              refine V_iinc C 1 dX8_straw_121 rfl (by decide) rfl ?_
              refine V_goto C dX8_straw_124 ?_
              exact V_nx rfl (by first | (rw [amax_k (g := (fun i => lstF (passN q (uh (σ 0) i 2 (wal5 (hf (σ 0) i 2)))))) c112]; simp [← nI_1] <;> rfl) | (rw [amax_s (g := (fun i => lstF (passN q (uh (σ 0) i 2 (wal5 (hf (σ 0) i 2)))))) c112]; simp [← nI_1] <;> rfl)) (ih (i + 1) _ (by omega) (hu.tr ((EqX_tr u).put (by omega))))
        exact lp (nh (σ 0)) 0 σ (by omega) (EqX.rf σ)
      · refine V_aload_n C dX8_straw_34 rfl ?_
        refine V_iconst C 4 dX8_straw_35 (by decide) ?_
        refine V_cv C hE dX8_straw_36 (c_X8_fail (j := 4) (by omega)) kyX8_fail q273 (isoO 60 rfl rfl rfl rfl) rfl rfl rfl ?_
        exact V_iretN C dX8_straw_39 hT (PX_fail (by unfold S_straw; all_goals (first | rw [if_pos c7] | rw [if_neg c7]); all_goals (first | rw [if_pos c23] | rw [if_neg c23]); all_goals (first | rw [if_pos c31] | rw [if_neg c31])) (EqX.rf σ))
  · refine V_aload_n C dX8_straw_10 rfl ?_
    refine V_iconst C 0 dX8_straw_11 (by decide) ?_
    refine V_cv C hE dX8_straw_12 (c_X8_fail (j := 0) (by omega)) kyX8_fail q273 (isoO 60 rfl rfl rfl rfl) rfl rfl rfl ?_
    exact V_iretN C dX8_straw_15 hT (PX_fail (by unfold S_straw; all_goals (first | rw [if_pos c7] | rw [if_neg c7])) (EqX.rf σ))

theorem c_X8_kindFor {l : Launch} {E : En} {σ : Sg} {p0 p1 : Int32}  (hG : GV (σ 0)) : MN l yX8_kindFor cX8_kindFor 7 (some .int) rmX8_kindFor E [.ref (ad E 60), .int p0, .int p1] σ (PX σ (S_kindFor (σ 0) p0 p1) (σ 0)) := by
  refine MN_of (by decide +kernel) rfl fun x C hE hT hcan => ?_
  have C : CX x cX8_kindFor RX8 rmX8_kindFor := C
  refine V_L (L' := [some (.ref (ad E 60)), some (.int p0), some (.int p1), none, none, none, none]) rfl ?_
  refine V_aload_n C dX8_kindFor_0 rfl ?_
  refine V_get C dX8_kindFor_1 (rdX8_live) in_X8 (by decide) q232 rfl ?_
  refine V_iload_n C dX8_kindFor_4 rfl ?_
  by_cases hh : isH (σ 0) p0
  · obtain ⟨b, hb, rfl, hb8⟩ := isH_of (hcan.1 0 (by omega)) hh
    refine V_cv C hE dX8_kindFor_5 (c_X5_get (v := 0) (i := b) (by omega) hb) kyX5_get q294 (isoV (by first | assumption | omega)) rfl rfl rfl ?_
    refine V_ifnull C dX8_kindFor_8 ?_
    refine V_iload_n C dX8_kindFor_11 rfl ?_
    refine V_iconst C 1 dX8_kindFor_12 (by decide) ?_
    refine V_bipush C 96 dX8_kindFor_13 (by decide) ?_
    refine V_cs C hE dX8_kindFor_15 (c_X8_within) kyX8_within q270 rfl rfl rfl ?_
    refine V_ifne_b C dX8_kindFor_18 (fun c18 => ?_) (fun c18 => ?_)
    · refine V_aload_n C dX8_kindFor_27 rfl ?_
      refine V_iload_n C dX8_kindFor_28 rfl ?_
      refine V_cv C hE dX8_kindFor_29 (c_X8_endsTooLate) kyX8_endsTooLate q377 (isoO 60 rfl rfl rfl rfl) rfl rfl rfl ?_
      refine V_ifeq_b C dX8_kindFor_32 (fun c32 => ?_) (fun c32 => ?_)
      · obtain ⟨q, rfl, hq⟩ := i32_le (m := 96) (by omega) (Int32.le_trans (by decide) c18.1) c18.2
        refine V_iconst C 0 dX8_kindFor_41 (by decide) ?_
        refine V_istore_n C dX8_kindFor_42 rfl ?_
        refine V_iconst C (-1) dX8_kindFor_43 (by decide) ?_
        refine V_istore C dX8_kindFor_44 rfl ?_
        refine V_iconst C 0 dX8_kindFor_46 (by decide) ?_
        refine V_istore C dX8_kindFor_47 rfl ?_
        have lp : ∀ (d i : Nat) (u : Sg), i + d = 7 → (EqX σ u) → V x (eA E) (AP x E (u)) 0 0 49 [some (.ref (ad E 60)), some (.int (nI b)), some (.int (nI q)), some (.int (amax (fun k => hf (passN q (uh (σ 0) b 0 (nI k))) b 1) i).1), some (.int (amax (fun k => hf (passN q (uh (σ 0) b 0 (nI k))) b 1) i).2), some (.int (nI i)), none] [] := by
          intro d
          induction d with
          | zero =>
            intro i u hi' hu
            have hN : i = 7 := by omega
            refine V_iload C dX8_kindFor_49 rfl ?_
            refine V_bipush C 6 dX8_kindFor_51 (by decide) ?_
            refine V_icmp_gt C dX8_kindFor_53 (fun c53 => ?_) (fun c53 => absurd (nI_lt (a := 6) (by omega) (by omega)) c53)
            refine V_iload_n C dX8_kindFor_98 rfl ?_
            exact V_iretN C dX8_kindFor_99 hT (PX_rd (by unfold S_kindFor; rw [if_pos hh, if_pos c18, if_neg c32, hk_n (by omega), hk_nI hb8, hN]) hu)
          | succ d ih =>
            intro i u hi' hu
            refine V_iload C dX8_kindFor_49 rfl ?_
            refine V_bipush C 6 dX8_kindFor_51 (by decide) ?_
            refine V_icmp_gt C dX8_kindFor_53 (fun c53 => absurd c53 (nI_nlt (a := 6) (by omega) (by omega))) (fun c53 => ?_)
            refine V_aload_n C dX8_kindFor_56 rfl ?_
            refine V_iload_n C dX8_kindFor_57 rfl ?_
            refine V_iconst C 0 dX8_kindFor_58 (by decide) ?_
            refine V_iload C dX8_kindFor_59 rfl ?_
            refine V_iload_n C dX8_kindFor_61 rfl ?_
            refine V_cq C hE dX8_kindFor_62 (c_X8_changed (i := b) (j := 0) (q := q) (by rw [hu.z]; exact hb) (by omega) (by rw [hu.z]; exact Inv_uh hG.1 hb (by omega) (by omega) (by omega) (by omega) (by omega)) (by omega)) kyX8_changed q500 (isoO 60 rfl rfl rfl rfl) rfl rfl rfl ?_
            rintro u2 ⟨h2, hu2⟩
            rw [hu.z] at h2
            refine V_astore C dX8_kindFor_65 rfl ?_
            refine V_aload C dX8_kindFor_67 rfl ?_
            refine V_ifnull C dX8_kindFor_69 ?_
            refine V_aload C dX8_kindFor_72 rfl ?_
            refine V_getN C hE.nw dX8_kindFor_74 (rdH (by first | assumption | omega) (by first | assumption | (rw [h2, nh_passN, nh_uh]; exact hb)) 1 rfl) in_X1 (by decide) q103 rfl ?_
            refine V_iload C dX8_kindFor_77 rfl ?_
            rw [h2]
            refine V_icmp_le C dX8_kindFor_79 (fun c79 => ?_) (fun c79 => ?_)
            · refine V_forget 6 ?_
              refine V_iinc C 1 dX8_kindFor_92 rfl (by decide) rfl ?_
              refine V_goto C dX8_kindFor_95 ?_
              exact V_nx rfl (by first | (rw [amax_k (g := (fun k => hf (passN q (uh (σ 0) b 0 (nI k))) b 1)) c79]; simp [← nI_1] <;> rfl) | (rw [amax_s (g := (fun k => hf (passN q (uh (σ 0) b 0 (nI k))) b 1)) c79]; simp [← nI_1] <;> rfl)) (ih (i + 1) u2 (by omega) (hu.tr hu2))
            · refine V_aload C dX8_kindFor_82 rfl ?_
              refine V_getN C hE.nw dX8_kindFor_84 (rdH (by first | assumption | omega) (by first | assumption | (rw [h2, nh_passN, nh_uh]; exact hb)) 1 rfl) in_X1 (by decide) q103 rfl ?_
              rw [h2]
              refine V_istore C dX8_kindFor_87 rfl ?_
              refine V_iload C dX8_kindFor_89 rfl ?_
              refine V_istore_n C dX8_kindFor_91 rfl ?_
              refine V_forget 6 ?_
              refine V_iinc C 1 dX8_kindFor_92 rfl (by decide) rfl ?_
              refine V_goto C dX8_kindFor_95 ?_
              exact V_nx rfl (by first | (rw [amax_k (g := (fun k => hf (passN q (uh (σ 0) b 0 (nI k))) b 1)) c79]; simp [← nI_1] <;> rfl) | (rw [amax_s (g := (fun k => hf (passN q (uh (σ 0) b 0 (nI k))) b 1)) c79]; simp [← nI_1] <;> rfl)) (ih (i + 1) u2 (by omega) (hu.tr hu2))
        exact lp 7 0 σ (by omega) (EqX.rf σ)
      · refine V_aload_n C dX8_kindFor_35 rfl ?_
        refine V_iconst C 4 dX8_kindFor_36 (by decide) ?_
        refine V_cv C hE dX8_kindFor_37 (c_X8_fail (j := 4) (by omega)) kyX8_fail q273 (isoO 60 rfl rfl rfl rfl) rfl rfl rfl ?_
        exact V_iretN C dX8_kindFor_40 hT (PX_fail (by unfold S_kindFor; all_goals (first | rw [if_pos hh] | rw [if_neg hh]); all_goals (first | rw [if_pos c18] | rw [if_neg c18]); all_goals (first | rw [if_pos c32] | rw [if_neg c32])) (EqX.rf σ))
    · refine V_aload_n C dX8_kindFor_21 rfl ?_
      refine V_iconst C 0 dX8_kindFor_22 (by decide) ?_
      refine V_cv C hE dX8_kindFor_23 (c_X8_fail (j := 0) (by omega)) kyX8_fail q273 (isoO 60 rfl rfl rfl rfl) rfl rfl rfl ?_
      exact V_iretN C dX8_kindFor_26 hT (PX_fail (by unfold S_kindFor; all_goals (first | rw [if_pos hh] | rw [if_neg hh]); all_goals (first | rw [if_pos c18] | rw [if_neg c18])) (EqX.rf σ))
  · refine V_cv C hE dX8_kindFor_5 (c_X5_getN (v := 0) (by omega) hh) kyX5_get q294 (isoV (by first | assumption | omega)) rfl rfl rfl ?_
    refine V_ifnullN C dX8_kindFor_8 ?_
    refine V_aload_n C dX8_kindFor_21 rfl ?_
    refine V_iconst C 0 dX8_kindFor_22 (by decide) ?_
    refine V_cv C hE dX8_kindFor_23 (c_X8_fail (j := 0) (by omega)) kyX8_fail q273 (isoO 60 rfl rfl rfl rfl) rfl rfl rfl ?_
    exact V_iretN C dX8_kindFor_26 hT (PX_fail (by unfold S_kindFor; all_goals (first | rw [if_pos hh] | rw [if_neg hh])) (EqX.rf σ))

theorem c_X8_wholeRound {l : Launch} {E : En} {σ : Sg} {p0 : Int32} (hG : GV (σ 0)) (hs : inP p0 1 12) : MN l yX8_wholeRound cX8_wholeRound 3 (some (.object "SledgeStove$Village")) rmX8_wholeRound E [.ref (ad E 60), .int p0] σ (fun r u => r = some (.ref (ad E (vb 2))) ∧ (u 2 = rnV p0 id (σ 0) (nh (σ 0)) ∧ u (5+2) 0 = rnA p0 id (σ 0) 400 (nh (σ 0)) ∧ EqX σ u)) := by
  refine MN_of (by decide +kernel) rfl fun x C hE hT hcan => ?_
  have C : CX x cX8_wholeRound RX8 rmX8_wholeRound := C
  have hn1 := (hcan.1 0 (by omega)).1
  have h8 := (hcan.1 0 (by omega)).2.1
  refine V_L (L' := [some (.ref (ad E 60)), some (.int p0), none]) rfl ?_
  refine V_aload_n C dX8_wholeRound_0 rfl ?_
  refine V_get C dX8_wholeRound_1 (rdX8_first) in_X8 (by decide) q234 rfl ?_
  refine V_aload_n C dX8_wholeRound_4 rfl ?_
  refine V_get C dX8_wholeRound_5 (rdX8_live) in_X8 (by decide) q232 rfl ?_
  refine V_cv0 C hE dX8_wholeRound_8 (c_X5_beginRound (v := 2) (w := 0) (by omega) (by omega) (by omega)) kyX5_beginRound q530 (isoV (by first | assumption | omega)) rfl rfl rfl ?_
  refine V_iconst C 0 dX8_wholeRound_11 (by decide) ?_
  refine V_istore_n C dX8_wholeRound_12 rfl ?_
  have lp : ∀ (d i : Nat) (u : Sg), i + d = nh (σ 0) → (EqX σ u) → (u 2 = rnV p0 id (σ 0) i) → (u (5+2) 0 = rnA p0 id (σ 0) 400 i) → V x (eA E) (AP x E (u)) 0 0 13 [some (.ref (ad E 60)), some (.int p0), some (.int (nI i))] [] := by
    intro d
    induction d with
    | zero =>
      intro i u hi' hu h2 h7
      have hN : i = nh (σ 0) := by omega
      refine V_iload_n C dX8_wholeRound_13 rfl ?_
      refine V_aload_n C dX8_wholeRound_14 rfl ?_
      refine V_get C dX8_wholeRound_15 (rdX8_live) in_X8 (by decide) q232 rfl ?_
      refine V_getN C hE.nw dX8_wholeRound_18 (rdV (by first | assumption | omega) 3 1 rfl rfl rfl) in_X5 (by decide) q133 rfl ?_
      refine V_icmp_ge C dX8_wholeRound_21 (fun c21 => ?_) (fun c21 => absurd (by rw [hu.z, hn1, hN]; exact nI_le (Nat.le_refl _) (by omega)) c21)
      refine V_aload_n C dX8_wholeRound_39 rfl ?_
      refine V_get C dX8_wholeRound_40 (rdX8_first) in_X8 (by decide) q234 rfl ?_
      exact V_aretR C dX8_wholeRound_43 hT (⟨rfl, by rw [h2, hN], by rw [h7, hN], hu⟩)
    | succ d ih =>
      intro i u hi' hu h2 h7
      have hi8 : i < 8 := by omega
      have hg : GV (rnV p0 id (σ 0) i) := GV_rnV hG i (fun j hj => by show j ≤ 7; omega)
      have hk2 := legK_b hg (b := i) (by omega) hs
      refine V_iload_n C dX8_wholeRound_13 rfl ?_
      refine V_aload_n C dX8_wholeRound_14 rfl ?_
      refine V_get C dX8_wholeRound_15 (rdX8_live) in_X8 (by decide) q232 rfl ?_
      refine V_getN C hE.nw dX8_wholeRound_18 (rdV (by first | assumption | omega) 3 1 rfl rfl rfl) in_X5 (by decide) q133 rfl ?_
      refine V_icmp_ge C dX8_wholeRound_21 (fun c21 => absurd c21 (by rw [hu.z, hn1]; exact nI_ge (by omega) (by omega))) (fun c21 => ?_)
      refine V_aload_n C dX8_wholeRound_24 rfl ?_
      refine V_get C dX8_wholeRound_25 (rdX8_first) in_X8 (by decide) q234 rfl ?_
      refine V_iload_n C dX8_wholeRound_28 rfl ?_
      refine V_iload_n C dX8_wholeRound_29 rfl ?_
      refine V_cv0 C hE dX8_wholeRound_30 (c_X5_leg (v := 2) (b := i) (n := legK p0 (rnV p0 id (σ 0) i) i) (p1 := p0) (by omega) (by rw [h2]; exact hg.2.2.1) (by rw [h2]; exact hg.2.2.2) (by omega) (by rw [h2]; exact hg.1) (by rw [h2]; obtain ⟨m, hm, hm2⟩ := wayF_b hg.2.1 hg.2.2.2 (b := i) (by omega); rw [hm]; exact nI_pos' (by omega)) (by rw [h2]; exact hk2.1) (by omega)) kyX5_leg q535 (isoV (by first | assumption | omega)) rfl rfl rfl ?_
      refine V_iinc C 1 dX8_wholeRound_33 rfl (by decide) rfl ?_
      refine V_goto C dX8_wholeRound_36 ?_
      exact V_nx rfl (by simp [← nI_1] <;> rfl) (ih (i + 1) _ (by omega) ((hu.put (by omega)).put (by omega)) (by simp (disch := omega) only [us_s, us_n]; rw [h2]; rfl) (by rw [us_s, lw_0, h2, h7]; rfl))
  exact lp (nh (σ 0)) 0 _ (by omega) (((EqX.rf σ).put (by omega)).put (by omega)) (by rw [us_n (by omega), us_s]; rfl) (by rw [us_s, lw_0]; rfl)

theorem finR_ok {f : Nat → Int32} {s : Int32} (h1 : inP s 1 12) (h2 : ¬ (0 < f 3 ∨ f 1 = 0 ∨ 9700 < f 0)) : finR f s = -1 := by unfold finR; rw [if_neg (fun q => q h1), if_neg h2]
theorem finR_4 {f : Nat → Int32} {s : Int32} (h1 : inP s 1 12) (h2 : 0 < f 3 ∨ f 1 = 0 ∨ 9700 < f 0) : finR f s = nI 4 := by unfold finR; rw [if_neg (fun q => q h1), if_pos h2]; rfl
theorem finR_0 {f : Nat → Int32} {s : Int32} (h1 : ¬ inP s 1 12) : finR f s = nI 0 := by unfold finR; rw [if_pos h1]; rfl

theorem c_X8_round {l : Launch} {E : En} {σ : Sg} {p0 : Int32}  (hG : GV (σ 0)) : MN l yX8_round cX8_round 3 (some .int) rmX8_round E [.ref (ad E 60), .int p0] σ (PX σ (S_round (σ 0) p0) (σ 0)) := by
  refine MN_of (by decide +kernel) rfl fun x C hE hT hcan => ?_
  have C : CX x cX8_round RX8 rmX8_round := C
  refine V_L (L' := [some (.ref (ad E 60)), some (.int p0), none]) rfl ?_
  refine V_aload_n C dX8_round_0 rfl ?_
  refine V_iload_n C dX8_round_1 rfl ?_
  refine V_cv C hE dX8_round_2 (c_X8_roundFinding) kyX8_roundFinding q522 (isoO 60 rfl rfl rfl rfl) rfl rfl rfl ?_
  by_cases hs : inP p0 1 12
  · by_cases hc : 0 < σ 0 3 ∨ σ 0 1 = 0 ∨ 9700 < σ 0 0
    · rw [finR_4 hs hc]
      refine V_istore_n C dX8_round_5 rfl ?_
      refine V_iload_n C dX8_round_6 rfl ?_
      refine V_if_lt C dX8_round_7 (fun c7 => absurd c7 (by decide)) (fun c7 => ?_)
      refine V_aload_n C dX8_round_10 rfl ?_
      refine V_iload_n C dX8_round_11 rfl ?_
      refine V_cv C hE dX8_round_12 (c_X8_fail (j := 4) (by omega)) kyX8_fail q273 (isoO 60 rfl rfl rfl rfl) rfl rfl rfl ?_
      exact V_iretN C dX8_round_15 hT (PX_fail (by unfold S_round; all_goals (first | rw [if_pos hs] | rw [if_neg hs]); all_goals (first | rw [if_pos hc] | rw [if_neg hc])) (EqX.rf σ))
    · rw [finR_ok hs hc]
      refine V_istore_n C dX8_round_5 rfl ?_
      refine V_iload_n C dX8_round_6 rfl ?_
      refine V_if_lt C dX8_round_7 (fun c7 => ?_) (fun c7 => absurd (by decide) c7)
      refine V_aload_n C dX8_round_16 rfl ?_
      refine V_iload_n C dX8_round_17 rfl ?_
      refine V_cq C hE dX8_round_18 (c_X8_wholeRound hG hs) kyX8_wholeRound q526 (isoO 60 rfl rfl rfl rfl) rfl rfl rfl ?_
      rintro u ⟨h2, h7, hu⟩
      refine V_getN C hE.nw dX8_round_21 (rdLeast (by first | assumption | omega)) in_X5 (by decide) q154 rfl ?_
      exact V_iretN C dX8_round_24 hT (PX_rd (by unfold S_round; rw [if_pos hs, if_neg hc, h7]) hu)
  · rw [finR_0 hs]
    refine V_istore_n C dX8_round_5 rfl ?_
    refine V_iload_n C dX8_round_6 rfl ?_
    refine V_if_lt C dX8_round_7 (fun c7 => absurd c7 (by decide)) (fun c7 => ?_)
    refine V_aload_n C dX8_round_10 rfl ?_
    refine V_iload_n C dX8_round_11 rfl ?_
    refine V_cv C hE dX8_round_12 (c_X8_fail (j := 0) (by omega)) kyX8_fail q273 (isoO 60 rfl rfl rfl rfl) rfl rfl rfl ?_
    exact V_iretN C dX8_round_15 hT (PX_fail (by unfold S_round; all_goals (first | rw [if_pos hs] | rw [if_neg hs])) (EqX.rf σ))

theorem c_X8_takes {l : Launch} {E : En} {σ : Sg} {p0 : Int32}  (hG : GV (σ 0)) : MN l yX8_takes cX8_takes 3 (some .int) rmX8_takes E [.ref (ad E 60), .int p0] σ (PX σ (S_takes (σ 0) p0) (σ 0)) := by
  refine MN_of (by decide +kernel) rfl fun x C hE hT hcan => ?_
  have C : CX x cX8_takes RX8 rmX8_takes := C
  refine V_L (L' := [some (.ref (ad E 60)), some (.int p0), none]) rfl ?_
  refine V_aload_n C dX8_takes_0 rfl ?_
  refine V_iload_n C dX8_takes_1 rfl ?_
  refine V_cv C hE dX8_takes_2 (c_X8_roundFinding) kyX8_roundFinding q522 (isoO 60 rfl rfl rfl rfl) rfl rfl rfl ?_
  by_cases hs : inP p0 1 12
  · by_cases hc : 0 < σ 0 3 ∨ σ 0 1 = 0 ∨ 9700 < σ 0 0
    · rw [finR_4 hs hc]
      refine V_istore_n C dX8_takes_5 rfl ?_
      refine V_iload_n C dX8_takes_6 rfl ?_
      refine V_if_lt C dX8_takes_7 (fun c7 => absurd c7 (by decide)) (fun c7 => ?_)
      refine V_aload_n C dX8_takes_10 rfl ?_
      refine V_iload_n C dX8_takes_11 rfl ?_
      refine V_cv C hE dX8_takes_12 (c_X8_fail (j := 4) (by omega)) kyX8_fail q273 (isoO 60 rfl rfl rfl rfl) rfl rfl rfl ?_
      exact V_iretN C dX8_takes_15 hT (PX_fail (by unfold S_takes; all_goals (first | rw [if_pos hs] | rw [if_neg hs]); all_goals (first | rw [if_pos hc] | rw [if_neg hc])) (EqX.rf σ))
    · rw [finR_ok hs hc]
      refine V_istore_n C dX8_takes_5 rfl ?_
      refine V_iload_n C dX8_takes_6 rfl ?_
      refine V_if_lt C dX8_takes_7 (fun c7 => ?_) (fun c7 => absurd (by decide) c7)
      refine V_aload_n C dX8_takes_16 rfl ?_
      refine V_iload_n C dX8_takes_17 rfl ?_
      refine V_cq C hE dX8_takes_18 (c_X8_wholeRound hG hs) kyX8_wholeRound q526 (isoO 60 rfl rfl rfl rfl) rfl rfl rfl ?_
      rintro u ⟨h2, h7, hu⟩
      refine V_getN C hE.nw dX8_takes_21 (rdV (by first | assumption | omega) 8 0 rfl rfl rfl) in_X5 (by decide) q146 rfl ?_
      refine V_aload_n C dX8_takes_24 rfl ?_
      refine V_get C dX8_takes_25 (rdX8_live) in_X8 (by decide) q232 rfl ?_
      refine V_getN C hE.nw dX8_takes_28 (rdV (by first | assumption | omega) 8 0 rfl rfl rfl) in_X5 (by decide) q146 rfl ?_
      refine V_isub C dX8_takes_31 ?_
      exact V_iretN C dX8_takes_32 hT (PX_rd (by unfold S_takes; rw [if_pos hs, if_neg hc, h2, hu.z]) hu)
  · rw [finR_0 hs]
    refine V_istore_n C dX8_takes_5 rfl ?_
    refine V_iload_n C dX8_takes_6 rfl ?_
    refine V_if_lt C dX8_takes_7 (fun c7 => absurd c7 (by decide)) (fun c7 => ?_)
    refine V_aload_n C dX8_takes_10 rfl ?_
    refine V_iload_n C dX8_takes_11 rfl ?_
    refine V_cv C hE dX8_takes_12 (c_X8_fail (j := 0) (by omega)) kyX8_fail q273 (isoO 60 rfl rfl rfl rfl) rfl rfl rfl ?_
    exact V_iretN C dX8_takes_15 hT (PX_fail (by unfold S_takes; all_goals (first | rw [if_pos hs] | rw [if_neg hs])) (EqX.rf σ))

theorem c_X8_pace {l : Launch} {E : En} {σ : Sg}  (hG : GV (σ 0)) : MN l yX8_pace cX8_pace 5 (some .int) rmX8_pace E [.ref (ad E 60)] σ (PX σ (S_pace (σ 0)) (σ 0)) := by
  refine MN_of (by decide +kernel) rfl fun x C hE hT hcan => ?_
  have C : CX x cX8_pace RX8 rmX8_pace := C
  refine V_L (L' := [some (.ref (ad E 60)), none, none, none, none]) rfl ?_
  refine V_aload_n C dX8_pace_0 rfl ?_
  refine V_sipush C 9700 dX8_pace_1 (by decide) ?_
  refine V_cv C hE dX8_pace_4 (c_X8_cannotStart) kyX8_cannotStart q472 (isoO 60 rfl rfl rfl rfl) rfl rfl rfl ?_
  refine V_ifeq_b C dX8_pace_7 (fun c7 => ?_) (fun c7 => ?_)
  · refine V_iconst C 1 dX8_pace_16 (by decide) ?_
    refine V_istore_n C dX8_pace_17 rfl ?_
    refine V_iconst C (-1) dX8_pace_18 (by decide) ?_
    refine V_istore_n C dX8_pace_19 rfl ?_
    refine V_iconst C 1 dX8_pace_20 (by decide) ?_
    refine V_istore_n C dX8_pace_21 rfl ?_
    have lp : ∀ (d i : Nat) (u : Sg), i + d = 12 → (EqX σ u) → V x (eA E) (AP x E (u)) 0 0 22 [some (.ref (ad E 60)), some (.int ((amax (fun k => rnA (nI (k+1)) id (σ 0) 400 (nh (σ 0))) i).1 + 1)), some (.int (amax (fun k => rnA (nI (k+1)) id (σ 0) 400 (nh (σ 0))) i).2), some (.int (nI (i+1))), none] [] := by
      intro d
      induction d with
      | zero =>
        intro i u hi' hu
        have hN : i = 12 := by omega
        refine V_iload_n C dX8_pace_22 rfl ?_
        refine V_bipush C 12 dX8_pace_23 (by decide) ?_
        refine V_icmp_gt C dX8_pace_25 (fun c25 => ?_) (fun c25 => absurd (nI_lt (a := 12) (by omega) (by omega)) c25)
        refine V_iload_n C dX8_pace_55 rfl ?_
        exact V_iretN C dX8_pace_56 hT (PX_rd (by unfold S_pace; rw [if_neg c7, hN]) hu)
      | succ d ih =>
        intro i u hi' hu
        refine V_iload_n C dX8_pace_22 rfl ?_
        refine V_bipush C 12 dX8_pace_23 (by decide) ?_
        refine V_icmp_gt C dX8_pace_25 (fun c25 => absurd c25 (nI_nlt (a := 12) (by omega) (by omega))) (fun c25 => ?_)
        refine V_aload_n C dX8_pace_28 rfl ?_
        refine V_iload_n C dX8_pace_29 rfl ?_
        refine V_cq C hE dX8_pace_30 (c_X8_wholeRound (p0 := nI (i+1)) (by rw [hu.z]; exact hG) ⟨nI_le (a := 1) (by omega) (by omega), nI_le (b := 12) (by omega) (by decide)⟩) kyX8_wholeRound q526 (isoO 60 rfl rfl rfl rfl) rfl rfl rfl ?_
        rintro u2 ⟨h2, h7, hu2⟩
        refine V_getN C hE.nw dX8_pace_33 (rdLeast (by first | assumption | omega)) in_X5 (by decide) q154 rfl ?_
        rw [h7, hu.z]
        refine V_istore C dX8_pace_36 rfl ?_
        refine V_iload C dX8_pace_38 rfl ?_
        refine V_iload_n C dX8_pace_40 rfl ?_
        refine V_icmp_le C dX8_pace_41 (fun c41 => ?_) (fun c41 => ?_)
        · refine V_forget 4 ?_
          refine V_iinc C 1 dX8_pace_49 rfl (by decide) rfl ?_
          refine V_goto C dX8_pace_52 ?_
          exact V_nx rfl (by first | (rw [amax_k (g := (fun k => rnA (nI (k+1)) id (σ 0) 400 (nh (σ 0)))) c41]; simp [← nI_1] <;> rfl) | (rw [amax_s (g := (fun k => rnA (nI (k+1)) id (σ 0) 400 (nh (σ 0)))) c41]; simp [← nI_1] <;> rfl)) (ih (i + 1) u2 (by omega) (hu.tr hu2))
        · refine V_iload C dX8_pace_44 rfl ?_
          refine V_istore_n C dX8_pace_46 rfl ?_
          refine V_iload_n C dX8_pace_47 rfl ?_
          refine V_istore_n C dX8_pace_48 rfl ?_
          refine V_forget 4 ?_
          refine V_iinc C 1 dX8_pace_49 rfl (by decide) rfl ?_
          refine V_goto C dX8_pace_52 ?_
          exact V_nx rfl (by first | (rw [amax_k (g := (fun k => rnA (nI (k+1)) id (σ 0) 400 (nh (σ 0)))) c41]; simp [← nI_1] <;> rfl) | (rw [amax_s (g := (fun k => rnA (nI (k+1)) id (σ 0) 400 (nh (σ 0)))) c41]; simp [← nI_1] <;> rfl)) (ih (i + 1) u2 (by omega) (hu.tr hu2))
    exact lp 12 0 σ (by omega) (EqX.rf σ)
  · refine V_aload_n C dX8_pace_10 rfl ?_
    refine V_iconst C 4 dX8_pace_11 (by decide) ?_
    refine V_cv C hE dX8_pace_12 (c_X8_fail (j := 4) (by omega)) kyX8_fail q273 (isoO 60 rfl rfl rfl rfl) rfl rfl rfl ?_
    exact V_iretN C dX8_pace_15 hT (PX_fail (by unfold S_pace; all_goals (first | rw [if_pos c7] | rw [if_neg c7])) (EqX.rf σ))

