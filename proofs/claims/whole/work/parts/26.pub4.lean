theorem Inv_uh2 {f : Nat → Int32} {i : Nat} {y : Int32} (h : Inv f) (hi : i < nh f) (hy : 1 ≤ y ∧ y ≤ 40) : Inv (uh f i 2 y) := by
  obtain ⟨a, b, c, d, e⟩ := h
  refine ⟨Can_uh a hi (by omega), fun k hk => ?_, ?_, ?_, ?_⟩
  · rw [nh_uh] at hk
    obtain ⟨a1, a2, a3, a4⟩ := b k hk
    unfold InH
    by_cases e : k = i
    · subst e
      simp (disch := omega) only [hf_uh_s, hf_uh_n]
      exact ⟨a1, hy, a3, a4⟩
    · simp (disch := omega) only [hf_uh_n]
      exact ⟨a1, a2, a3, a4⟩
  · rw [uh_lo (by omega)]; exact c
  · rw [uh_lo (by omega)]; exact d
  · rw [uh_lo (by omega)]; exact e
theorem wal5_b {w : Int32} (h : 1 ≤ w ∧ w ≤ 40) : 1 ≤ wal5 w ∧ wal5 w ≤ 40 := by
  unfold wal5; constructor <;> grind
theorem way_hk {f : Nat → Int32} (h : GV f) {b : Nat} (hb : b ≤ 7) : wayF f (hx f) b = nI (hk (wayF f (hx f) b)) ∧ hk (wayF f (hx f) b) ≤ 70 := by
  obtain ⟨m, hm, hm2⟩ := wayF_b h.2.1 h.2.2.2 hb
  rw [hm, hk_n (by omega)]
  exact ⟨rfl, hm2⟩

theorem c_X8_bake {l : Launch} {E : En} {σ : Sg} {p0 : Int32}  (hG : GV (σ 0)) : MN l yX8_bake cX8_bake 6 (some .int) rmX8_bake E [.ref (ad E 60), .int p0] σ (PX σ (S_bake (σ 0) p0) (σ 0)) := by
  refine MN_of (by decide +kernel) rfl fun x C hE hT hcan => ?_
  have C : CX x cX8_bake RX8 rmX8_bake := C
  refine V_L (L' := [some (.ref (ad E 60)), some (.int p0), none, none, none, none]) rfl ?_
  refine V_aload_n C dX8_bake_0 rfl ?_
  refine V_get C dX8_bake_1 (rdX8_live) in_X8 (by decide) q232 rfl ?_
  refine V_iload_n C dX8_bake_4 rfl ?_
  by_cases hh : isH (σ 0) p0
  · obtain ⟨b, hb, rfl, hb8⟩ := isH_of (hcan.1 0 (by omega)) hh
    refine V_cv C hE dX8_bake_5 (c_X5_get (v := 0) (i := b) (by omega) hb) kyX5_get q294 (isoV (by first | assumption | omega)) rfl rfl rfl ?_
    try simp only [us_us, us_s, trS_2]
    refine V_astore_n C dX8_bake_8 rfl ?_
    refine V_aload_n C dX8_bake_9 rfl ?_
    refine V_ifnonnull C dX8_bake_10 ?_
    refine V_aload_n C dX8_bake_19 rfl ?_
    refine V_sipush C 9903 dX8_bake_20 (by decide) ?_
    refine V_cv C hE dX8_bake_23 (c_X8_cannotStart) kyX8_cannotStart q472 (isoO 60 rfl rfl rfl rfl) rfl rfl rfl ?_
    try simp only [us_us, us_s, trS_2]
    refine V_ifeq_b C dX8_bake_26 (fun c26 => ?_) (fun c26 => ?_)
    · refine V_aload_n C dX8_bake_35 rfl ?_
      refine V_cv C hE dX8_bake_36 (c_X8_trial) kyX8_trial q443 (isoO 60 rfl rfl rfl rfl) rfl rfl rfl ?_
      try simp only [us_us, us_s, trS_2]
      refine V_astore_n C dX8_bake_39 rfl ?_
      refine V_aload_n C dX8_bake_40 rfl ?_
      refine V_iload_n C dX8_bake_41 rfl ?_
      refine V_cv C hE dX8_bake_42 (c_X5_go (v := 2) (b := b) (by omega) (by rw [trS_2]; exact hG.2.2.1) (by rw [trS_2]; exact hG.2.2.2) (by omega)) kyX5_go q368 (isoV (by first | assumption | omega)) rfl rfl rfl ?_
      try simp only [us_us, us_s, trS_2]
      refine V_pop C dX8_bake_45 rfl ?_
      refine V_aload_n C dX8_bake_46 rfl ?_
      refine V_iload_n C dX8_bake_47 rfl ?_
      refine V_cv C hE dX8_bake_48 (c_X5_get (v := 2) (i := b) (by omega) (by rw [us_s, nh_goF]; exact hb)) kyX5_get q294 (isoV (by first | assumption | omega)) rfl rfl rfl ?_
      try simp only [us_us, us_s, trS_2]
      refine V_astore C dX8_bake_51 rfl ?_
      refine V_iconst C 0 dX8_bake_53 (by decide) ?_
      refine V_istore C dX8_bake_54 rfl ?_
      have lp : ∀ (d i : Nat) , i + d = 97 → (∀ j, 0 ≤ j → j < i → (fun n => decide (hf (σ 0) b 5 < hf (passN n (goF (σ 0) b)) b 5)) j = false) → V x (eA E) (AP x E (us (trS σ) 2 (passN i (goF (σ 0) b)))) 0 0 56 [some (.ref (ad E 60)), some (.int (nI b)), some (.ref (ad E (hc 0 b))), some (.ref (ad E (vb 2))), some (.ref (ad E (hc 2 b))), some (.int (nI i))] [] := by
        intro d
        induction d with
        | zero =>
          intro i  hi' hp
          have hN : i = 97 := by omega
          refine V_iload C dX8_bake_56 rfl ?_
          refine V_bipush C 96 dX8_bake_58 (by decide) ?_
          refine V_icmp_gt C dX8_bake_60 (fun c60 => ?_) (fun c60 => absurd (nI_lt (a := 96) (by omega) (by omega)) c60)
          refine V_aload_n C dX8_bake_94 rfl ?_
          refine V_iconst C 3 dX8_bake_95 (by decide) ?_
          refine V_cv C hE dX8_bake_96 (c_X8_fail (j := 3) (by omega)) kyX8_fail q273 (isoO 60 rfl rfl rfl rfl) rfl rfl rfl ?_
          exact V_iretN C dX8_bake_99 hT (PX_fail (by unfold S_bake; rw [if_pos hh, if_neg c26, hk_nI hb8, fst_none 97 0 (fun j h1 h2 => hp j h1 (by omega))]; rfl) ((EqX_tr σ).put (by omega)))
        | succ d ih =>
          intro i  hi' hp
          refine V_iload C dX8_bake_56 rfl ?_
          refine V_bipush C 96 dX8_bake_58 (by decide) ?_
          refine V_icmp_gt C dX8_bake_60 (fun c60 => absurd c60 (nI_nlt (a := 96) (by omega) (by omega))) (fun c60 => ?_)
          refine V_aload C dX8_bake_63 rfl ?_
          refine V_ifnull C dX8_bake_65 ?_
          refine V_aload C dX8_bake_68 rfl ?_
          refine V_getN C hE.nw dX8_bake_70 (rdH (v := 2) (i := b) (by omega) (by rw [us_s, nh_passN, nh_goF]; exact hb) 5 rfl) in_X1 (by decide) q113 rfl ?_
          refine V_aload_n C dX8_bake_73 rfl ?_
          refine V_getN C hE.nw dX8_bake_74 (rdH (v := 0) (i := b) (by omega) (by rw [us_n (by omega), trS_0]; exact hb) 5 rfl) in_X1 (by decide) q113 rfl ?_
          rw [us_s, us_n (show (0:Nat) ≠ 2 by omega), trS_0]
          refine V_icmp_le C dX8_bake_77 (fun c77 => ?_) (fun c77 => ?_)
          · refine V_aload_n C dX8_bake_83 rfl ?_
            refine V_iconst C 1 dX8_bake_84 (by decide) ?_
            refine V_cv0 C hE dX8_bake_85 (c_X5_pass (v := 2) (n := 1) (by omega) (by omega) (by rw [us_s]; exact Inv_passN (GV_goF hG (by omega)).1 i)) kyX5_pass q386 (isoV (by first | assumption | omega)) rfl rfl rfl ?_
            refine V_iinc C 1 dX8_bake_88 rfl (by decide) rfl ?_
            refine V_goto C dX8_bake_91 ?_
            exact V_nx (by simp only [us_us, us_s]; rfl) (by simp [← nI_1] <;> rfl) (ih (i + 1) (by omega) (fal_s hp (fun q => (Int32.not_lt.mpr c77) (of_decide_eq_true q))))
          · refine V_iload C dX8_bake_80 rfl ?_
            exact V_iretN C dX8_bake_82 hT (PX_rd (by unfold S_bake; rw [if_pos hh, if_neg c26, hk_nI hb8, fst_some 97 0 i (by omega) (by omega) hp (decide_eq_true (Int32.not_le.mp c77))]; rfl) ((EqX_tr σ).put (by omega)))
      exact lp 97 0 (by omega) (fun j h1 h2 => absurd h2 (by omega))
    · refine V_aload_n C dX8_bake_29 rfl ?_
      refine V_iconst C 4 dX8_bake_30 (by decide) ?_
      refine V_cv C hE dX8_bake_31 (c_X8_fail (j := 4) (by omega)) kyX8_fail q273 (isoO 60 rfl rfl rfl rfl) rfl rfl rfl ?_
      try simp only [us_us, us_s, trS_2]
      exact V_iretN C dX8_bake_34 hT (PX_fail (by unfold S_bake; all_goals (first | rw [if_pos hh] | rw [if_neg hh]); all_goals (first | rw [if_pos c26] | rw [if_neg c26])) (EqX.rf σ))
  · refine V_cv C hE dX8_bake_5 (c_X5_getN (v := 0) (by omega) hh) kyX5_get q294 (isoV (by first | assumption | omega)) rfl rfl rfl ?_
    try simp only [us_us, us_s, trS_2]
    refine V_astore_nN C dX8_bake_8 rfl ?_
    refine V_aload_nN C dX8_bake_9 rfl ?_
    refine V_ifnonnullN C dX8_bake_10 ?_
    refine V_aload_n C dX8_bake_13 rfl ?_
    refine V_iconst C 0 dX8_bake_14 (by decide) ?_
    refine V_cv C hE dX8_bake_15 (c_X8_fail (j := 0) (by omega)) kyX8_fail q273 (isoO 60 rfl rfl rfl rfl) rfl rfl rfl ?_
    try simp only [us_us, us_s, trS_2]
    exact V_iretN C dX8_bake_18 hT (PX_fail (by unfold S_bake; all_goals (first | rw [if_pos hh] | rw [if_neg hh])) (EqX.rf σ))

theorem c_X8_stay {l : Launch} {E : En} {σ : Sg} {p0 p1 : Int32}  (hG : GV (σ 0)) : MN l yX8_stay cX8_stay 5 (some .int) rmX8_stay E [.ref (ad E 60), .int p0, .int p1] σ (PX σ (S_stay (σ 0) p0 p1) (σ 0)) := by
  refine MN_of (by decide +kernel) rfl fun x C hE hT hcan => ?_
  have C : CX x cX8_stay RX8 rmX8_stay := C
  refine V_L (L' := [some (.ref (ad E 60)), some (.int p0), some (.int p1), none, none]) rfl ?_
  refine V_aload_n C dX8_stay_0 rfl ?_
  refine V_get C dX8_stay_1 (rdX8_live) in_X8 (by decide) q232 rfl ?_
  refine V_iload_n C dX8_stay_4 rfl ?_
  by_cases hh : isH (σ 0) p0
  · obtain ⟨b, hb, rfl, hb8⟩ := isH_of (hcan.1 0 (by omega)) hh
    refine V_cv C hE dX8_stay_5 (c_X5_get (v := 0) (i := b) (by omega) hb) kyX5_get q294 (isoV (by first | assumption | omega)) rfl rfl rfl ?_
    try simp only [us_us, us_s, trS_2]
    refine V_ifnull C dX8_stay_8 ?_
    refine V_iload_n C dX8_stay_11 rfl ?_
    refine V_iconst C 0 dX8_stay_12 (by decide) ?_
    refine V_bipush C 40 dX8_stay_13 (by decide) ?_
    refine V_cs C hE dX8_stay_15 (c_X8_within) kyX8_within q270 rfl rfl rfl ?_
    try simp only [us_us, us_s, trS_2]
    refine V_ifne_b C dX8_stay_18 (fun c18 => ?_) (fun c18 => ?_)
    · refine V_aload_n C dX8_stay_27 rfl ?_
      refine V_sipush C 9800 dX8_stay_28 (by decide) ?_
      refine V_cv C hE dX8_stay_31 (c_X8_cannotStart) kyX8_cannotStart q472 (isoO 60 rfl rfl rfl rfl) rfl rfl rfl ?_
      try simp only [us_us, us_s, trS_2]
      refine V_ifeq_b C dX8_stay_34 (fun c34 => ?_) (fun c34 => ?_)
      · obtain ⟨q, rfl, hq⟩ := i32_le (m := 40) (by omega) c18.1 c18.2
        have hwk := way_hk hG (b := b) (by omega)
        refine V_aload_n C dX8_stay_43 rfl ?_
        refine V_cv C hE dX8_stay_44 (c_X8_trial) kyX8_trial q443 (isoO 60 rfl rfl rfl rfl) rfl rfl rfl ?_
        try simp only [us_us, us_s, trS_2]
        refine V_astore_n C dX8_stay_47 rfl ?_
        refine V_aload_n C dX8_stay_48 rfl ?_
        refine V_aload_n C dX8_stay_49 rfl ?_
        refine V_iload_n C dX8_stay_50 rfl ?_
        refine V_cv C hE dX8_stay_51 (c_X5_go (v := 2) (b := b) (by omega) (by rw [trS_2]; exact hG.2.2.1) (by rw [trS_2]; exact hG.2.2.2) (by omega)) kyX5_go q368 (isoV (by first | assumption | omega)) rfl rfl rfl ?_
        try simp only [us_us, us_s, trS_2]
        rw [hwk.1]
        refine V_cv0 C hE dX8_stay_54 (c_X5_pass (v := 2) (n := hk (wayF (σ 0) (hx (σ 0)) b)) (by omega) (by omega) (by rw [us_s]; exact (GV_goF hG (by omega)).1)) kyX5_pass q386 (isoV (by first | assumption | omega)) rfl rfl rfl ?_
        try simp only [us_us, us_s, trS_2]
        refine V_iconst C 0 dX8_stay_57 (by decide) ?_
        refine V_istore C dX8_stay_58 rfl ?_
        have lp : ∀ (d i : Nat) (u : Sg), i + d = 49 → (EqX σ u) → (u 2 = passN i (passN (hk (wayF (σ 0) (hx (σ 0)) b)) (goF (σ 0) b))) → (∀ j, 0 ≤ j → j < i → stayP (σ 0) b q j = false) → V x (eA E) (AP x E (u)) 0 0 60 [some (.ref (ad E 60)), some (.int (nI b)), some (.int (nI q)), some (.ref (ad E (vb 2))), some (.int (nI i))] [] := by
          intro d
          induction d with
          | zero =>
            intro i u hi' hu h2 hp
            have hN : i = 49 := by omega
            refine V_iload C dX8_stay_60 rfl ?_
            refine V_bipush C 48 dX8_stay_62 (by decide) ?_
            refine V_icmp_gt C dX8_stay_64 (fun c64 => ?_) (fun c64 => absurd (nI_lt (a := 48) (by omega) (by omega)) c64)
            refine V_aload_n C dX8_stay_116 rfl ?_
            refine V_iconst C 3 dX8_stay_117 (by decide) ?_
            refine V_cv C hE dX8_stay_118 (c_X8_fail (j := 3) (by omega)) kyX8_fail q273 (isoO 60 rfl rfl rfl rfl) rfl rfl rfl ?_
            exact V_iretN C dX8_stay_121 hT (PX_fail (by unfold S_stay; rw [if_pos hh, if_pos c18, if_neg c34, hk_nI hb8, hk_n (by omega), fst_none 49 0 (fun j h1 h2 => hp j h1 (by omega))]; rfl) hu)
          | succ d ih =>
            intro i u hi' hu h2 hp
            have hGi : GV (passN i (passN (hk (wayF (σ 0) (hx (σ 0)) b)) (goF (σ 0) b))) := GV_passN (GV_passN (GV_goF hG (by omega)) _) i
            have hI3 : Inv (upd (passN i (passN (hk (wayF (σ 0) (hx (σ 0)) b)) (goF (σ 0) b))) 2 (-1)) := Inv_upd hGi.1 (by omega) (by omega) (by omega) (by omega) (by omega)
            have hnb : b < nh (passN i (passN (hk (wayF (σ 0) (hx (σ 0)) b)) (goF (σ 0) b))) := by rw [nh_passN, nh_passN, nh_goF]; exact hb
            refine V_iload C dX8_stay_60 rfl ?_
            refine V_bipush C 48 dX8_stay_62 (by decide) ?_
            refine V_icmp_gt C dX8_stay_64 (fun c64 => absurd c64 (nI_nlt (a := 48) (by omega) (by omega))) (fun c64 => ?_)
            refine V_aload_n C dX8_stay_67 rfl ?_
            refine V_get C dX8_stay_68 (rdX8_second) in_X8 (by decide) q235 rfl ?_
            refine V_aload_n C dX8_stay_71 rfl ?_
            refine V_cv0 C hE dX8_stay_72 (c_X5_be (v := 3) (w := 2) (by omega) (by omega) (by omega)) kyX5_be q447 (isoV (by first | assumption | omega)) rfl rfl rfl ?_
            try simp (disch := omega) only [us_us, us_s, us_n]
            refine V_aload_n C dX8_stay_75 rfl ?_
            refine V_get C dX8_stay_76 (rdX8_second) in_X8 (by decide) q235 rfl ?_
            refine V_iconst C (-1) dX8_stay_79 (by decide) ?_
            refine V_putN C hE.nw dX8_stay_80 (wrV (by first | assumption | omega) 6 2 rfl rfl rfl) ft_X5 (by decide) q142 rfl rfl rfl rfl ?_
            try simp (disch := omega) only [us_us, us_s, us_n]
            refine V_aload_n C dX8_stay_83 rfl ?_
            refine V_get C dX8_stay_84 (rdX8_second) in_X8 (by decide) q235 rfl ?_
            refine V_iload_n C dX8_stay_87 rfl ?_
            refine V_cv0 C hE dX8_stay_88 (c_X5_pass (v := 3) (n := q) (by omega) (by omega) (by simp (disch := omega) only [us_us, us_s, us_n]; rw [h2]; exact hI3)) kyX5_pass q386 (isoV (by first | assumption | omega)) rfl rfl rfl ?_
            try simp (disch := omega) only [us_us, us_s, us_n]
            refine V_aload_n C dX8_stay_91 rfl ?_
            refine V_get C dX8_stay_92 (rdX8_second) in_X8 (by decide) q235 rfl ?_
            refine V_iload_n C dX8_stay_95 rfl ?_
            refine V_cv C hE dX8_stay_96 (c_X5_isCold (v := 3) (i := b) (by omega) (by simp (disch := omega) only [us_us, us_s, us_n]; rw [h2, nh_passN, nh_upd (by omega)]; exact hnb)) kyX5_isCold q467 (isoV (by first | assumption | omega)) rfl rfl rfl ?_
            try simp (disch := omega) only [us_us, us_s, us_n]
            try simp (disch := omega) only [us_us, us_s, us_n]
            rw [h2]
            refine V_ifne_b C dX8_stay_99 (fun c99 => ?_) (fun c99 => ?_)
            · refine V_aload_n C dX8_stay_105 rfl ?_
              refine V_iconst C 1 dX8_stay_106 (by decide) ?_
              refine V_cv0 C hE dX8_stay_107 (c_X5_pass (v := 2) (n := 1) (by omega) (by omega) (by simp (disch := omega) only [us_us, us_s, us_n]; rw [h2]; exact hGi.1)) kyX5_pass q386 (isoV (by first | assumption | omega)) rfl rfl rfl ?_
              try simp (disch := omega) only [us_us, us_s, us_n]
              refine V_iinc C 1 dX8_stay_110 rfl (by decide) rfl ?_
              refine V_goto C dX8_stay_113 ?_
              exact V_nx rfl (by simp [← nI_1] <;> rfl) (ih (i + 1) _ (by omega) (by first | exact ((((hu.put (by omega)).put (by omega)).put (by omega)).put (by omega)) | exact (((hu.put (by omega)).put (by omega)).put (by omega))) (by simp (disch := omega) only [us_us, us_s, us_n]; rw [h2]; rfl) (fal_s hp (by unfold stayP cldF; rw [decide_eq_true c99]; decide)))
            · refine V_iload C dX8_stay_102 rfl ?_
              exact V_iretN C dX8_stay_104 hT (PX_rd (by unfold S_stay; rw [if_pos hh, if_pos c18, if_neg c34, hk_nI hb8, hk_n (by omega), fst_some 49 0 i (by omega) (by omega) hp (by unfold stayP cldF; rw [decide_eq_false c99]; rfl)]; rfl) (by first | exact (((hu.put (by omega)).put (by omega)).put (by omega)) | exact ((hu.put (by omega)).put (by omega))))
        exact lp 49 0 _ (by omega) ((EqX_tr σ).put (by omega)) (by rw [us_s]; rfl) (fun j h1 h2 => absurd h2 (by omega))
      · refine V_aload_n C dX8_stay_37 rfl ?_
        refine V_iconst C 4 dX8_stay_38 (by decide) ?_
        refine V_cv C hE dX8_stay_39 (c_X8_fail (j := 4) (by omega)) kyX8_fail q273 (isoO 60 rfl rfl rfl rfl) rfl rfl rfl ?_
        try simp only [us_us, us_s, trS_2]
        exact V_iretN C dX8_stay_42 hT (PX_fail (by unfold S_stay; all_goals (first | rw [if_pos hh] | rw [if_neg hh]); all_goals (first | rw [if_pos c18] | rw [if_neg c18]); all_goals (first | rw [if_pos c34] | rw [if_neg c34])) (EqX.rf σ))
    · refine V_aload_n C dX8_stay_21 rfl ?_
      refine V_iconst C 0 dX8_stay_22 (by decide) ?_
      refine V_cv C hE dX8_stay_23 (c_X8_fail (j := 0) (by omega)) kyX8_fail q273 (isoO 60 rfl rfl rfl rfl) rfl rfl rfl ?_
      try simp only [us_us, us_s, trS_2]
      exact V_iretN C dX8_stay_26 hT (PX_fail (by unfold S_stay; all_goals (first | rw [if_pos hh] | rw [if_neg hh]); all_goals (first | rw [if_pos c18] | rw [if_neg c18])) (EqX.rf σ))
  · refine V_cv C hE dX8_stay_5 (c_X5_getN (v := 0) (by omega) hh) kyX5_get q294 (isoV (by first | assumption | omega)) rfl rfl rfl ?_
    try simp only [us_us, us_s, trS_2]
    refine V_ifnullN C dX8_stay_8 ?_
    refine V_aload_n C dX8_stay_21 rfl ?_
    refine V_iconst C 0 dX8_stay_22 (by decide) ?_
    refine V_cv C hE dX8_stay_23 (c_X8_fail (j := 0) (by omega)) kyX8_fail q273 (isoO 60 rfl rfl rfl rfl) rfl rfl rfl ?_
    try simp only [us_us, us_s, trS_2]
    exact V_iretN C dX8_stay_26 hT (PX_fail (by unfold S_stay; all_goals (first | rw [if_pos hh] | rw [if_neg hh])) (EqX.rf σ))

