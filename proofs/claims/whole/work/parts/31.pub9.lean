theorem c_X8_count {l : Launch} {E : En} {σ : Sg} {p0 : Int32}  : MN l yX8_count cX8_count 2 (some .int) rmX8_count E [.ref (ad E 60), .int p0] σ (PX σ (S_count (σ 0) (σ 60 9) p0) (σ 0)) := by
  refine MN_of (by decide +kernel) rfl fun x C hE hT hcan => ?_
  have C : CX x cX8_count RX8 rmX8_count := C
  refine V_L (L' := [some (.ref (ad E 60)), some (.int p0)]) rfl ?_
  refine V_iload_n C dX8_count_0 rfl ?_
  rcases sw7 p0 with rfl | rfl | rfl | rfl | rfl | rfl | rfl | rfl | hsw
  · refine V_tableIn (tgt := 48) C dX8_count_1 (by decide) (by decide) rfl (by decide) ?_
    refine V_aload_n C dX8_count_48 rfl ?_
    refine V_get C dX8_count_49 (rdX8_live) in_X8 (by decide) q232 rfl ?_
    refine V_getN C hE.nw dX8_count_52 (rdV (by first | assumption | omega) 8 0 rfl rfl rfl) in_X5 (by decide) q146 rfl ?_
    exact V_iretN C dX8_count_55 hT (PX_rd (by rfl) (EqX.rf σ))
  · refine V_tableIn (tgt := 56) C dX8_count_1 (by decide) (by decide) rfl (by decide) ?_
    refine V_aload_n C dX8_count_56 rfl ?_
    refine V_get C dX8_count_57 (rdX8_live) in_X8 (by decide) q232 rfl ?_
    refine V_getN C hE.nw dX8_count_60 (rdV (by first | assumption | omega) 3 1 rfl rfl rfl) in_X5 (by decide) q133 rfl ?_
    exact V_iretN C dX8_count_63 hT (PX_rd (by rfl) (EqX.rf σ))
  · refine V_tableIn (tgt := 64) C dX8_count_1 (by decide) (by decide) rfl (by decide) ?_
    refine V_aload_n C dX8_count_64 rfl ?_
    refine V_get C dX8_count_65 (rdX8_live) in_X8 (by decide) q232 rfl ?_
    refine V_iconst C 3 dX8_count_68 (by decide) ?_
    refine V_cv C hE dX8_count_69 (c_X5_sum (v := 0) (j := 3) (by omega) (by omega)) kyX5_sum q381 (isoV (by first | assumption | omega)) rfl rfl rfl ?_
    exact V_iretN C dX8_count_72 hT (PX_rd (by rfl) (EqX.rf σ))
  · refine V_tableIn (tgt := 73) C dX8_count_1 (by decide) (by decide) rfl (by decide) ?_
    refine V_aload_n C dX8_count_73 rfl ?_
    refine V_get C dX8_count_74 (rdX8_live) in_X8 (by decide) q232 rfl ?_
    refine V_iconst C 5 dX8_count_77 (by decide) ?_
    refine V_cv C hE dX8_count_78 (c_X5_sum (v := 0) (j := 5) (by omega) (by omega)) kyX5_sum q381 (isoV (by first | assumption | omega)) rfl rfl rfl ?_
    exact V_iretN C dX8_count_81 hT (PX_rd (by rfl) (EqX.rf σ))
  · refine V_tableIn (tgt := 82) C dX8_count_1 (by decide) (by decide) rfl (by decide) ?_
    refine V_aload_n C dX8_count_82 rfl ?_
    refine V_get C dX8_count_83 (rdX8_live) in_X8 (by decide) q232 rfl ?_
    refine V_iconst C 1 dX8_count_86 (by decide) ?_
    refine V_cv C hE dX8_count_87 (c_X5_sum (v := 0) (j := 1) (by omega) (by omega)) kyX5_sum q381 (isoV (by first | assumption | omega)) rfl rfl rfl ?_
    exact V_iretN C dX8_count_90 hT (PX_rd (by rfl) (EqX.rf σ))
  · refine V_tableIn (tgt := 91) C dX8_count_1 (by decide) (by decide) rfl (by decide) ?_
    refine V_aload_n C dX8_count_91 rfl ?_
    refine V_get C dX8_count_92 (rdO (j := 9) 60 rfl rfl rfl rfl rfl) in_X8 (by decide) q241 rfl ?_
    exact V_iretN C dX8_count_95 hT (PX_rd (by rfl) (EqX.rf σ))
  · refine V_tableIn (tgt := 96) C dX8_count_1 (by decide) (by decide) rfl (by decide) ?_
    refine V_aload_n C dX8_count_96 rfl ?_
    refine V_get C dX8_count_97 (rdX8_live) in_X8 (by decide) q232 rfl ?_
    refine V_getN C hE.nw dX8_count_100 (rdV (by first | assumption | omega) 10 7 rfl rfl rfl) in_X5 (by decide) q151 rfl ?_
    exact V_iretN C dX8_count_103 hT (PX_rd (by rfl) (EqX.rf σ))
  · refine V_tableIn (tgt := 104) C dX8_count_1 (by decide) (by decide) rfl (by decide) ?_
    refine V_aload_n C dX8_count_104 rfl ?_
    refine V_get C dX8_count_105 (rdX8_live) in_X8 (by decide) q232 rfl ?_
    refine V_cv C hE dX8_count_108 (c_X5_spotsHeld (v := 0) (by omega)) kyX5_spotsHeld q893 (isoV (by first | assumption | omega)) rfl rfl rfl ?_
    exact V_iretN C dX8_count_111 hT (PX_rd (by rfl) (EqX.rf σ))
  · refine V_tableOut (tgt := 112) C dX8_count_1 (hsw) (by decide) ?_
    refine V_aload_n C dX8_count_112 rfl ?_
    refine V_iconst C 0 dX8_count_113 (by decide) ?_
    refine V_cv C hE dX8_count_114 (c_X8_fail (j := 0) (by omega)) kyX8_fail q273 (isoO 60 rfl rfl rfl rfl) rfl rfl rfl ?_
    exact V_iretN C dX8_count_117 hT (PX_fail (by obtain ⟨a0, a1, a2, a3, a4, a5, a6, a7⟩ := sw7n hsw; unfold S_count; rw [if_neg a0, if_neg a1, if_neg a2, if_neg a3, if_neg a4, if_neg a5, if_neg a6, if_neg a7]) (EqX.rf σ))

theorem c_X8_status {l : Launch} {E : En} {σ : Sg} {p0 : Int32}  : MN l yX8_status cX8_status 4 (some .int) rmX8_status E [.ref (ad E 60), .int p0] σ (PX σ (S_status (σ 62) p0) (σ 0)) := by
  refine MN_of (by decide +kernel) rfl fun x C hE hT hcan => ?_
  have C : CX x cX8_status RX8 rmX8_status := C
  refine V_L (L' := [some (.ref (ad E 60)), some (.int p0), none, none]) rfl ?_
  refine V_iload_n C dX8_status_0 rfl ?_
  refine V_iconst C 0 dX8_status_1 (by decide) ?_
  refine V_aload_n C dX8_status_2 rfl ?_
  refine V_get C dX8_status_3 (rdO (j := 6) 60 rfl rfl rfl rfl rfl) in_X8 (by decide) q238 rfl ?_
  refine V_alen C dX8_status_6 (rdOL 62 rfl rfl rfl) rfl ?_
  refine V_iconst C 1 dX8_status_7 (by decide) ?_
  refine V_isub C dX8_status_8 ?_
  rw [show (Int32.ofNat 7 - 1 : Int32) = 6 from by decide]
  refine V_cs C hE dX8_status_9 (c_X8_within) kyX8_within q270 rfl rfl rfl ?_
  refine V_ifeq_b C dX8_status_12 (fun c12 => ?_) (fun c12 => ?_)
  · refine V_iload_n C dX8_status_22 rfl ?_
    refine V_iconst C (-1) dX8_status_23 (by decide) ?_
    refine V_icmp_eq C dX8_status_24 (fun c24 => ?_) (fun c24 => ?_)
    · refine V_iconst C 0 dX8_status_33 (by decide) ?_
      refine V_istore_n C dX8_status_34 rfl ?_
      refine V_iconst C 0 dX8_status_35 (by decide) ?_
      refine V_istore_n C dX8_status_36 rfl ?_
      have lp : ∀ (d i : Nat) , i + d = 7 → V x (eA E) (AP x E (σ)) 0 0 37 [some (.ref (ad E 60)), some (.int p0), some (.int (toN (σ 62) i)), some (.int (nI i))] [] := by
        intro d
        induction d with
        | zero =>
          intro i  hi' 
          have hN : i = 7 := by omega
          refine V_iload_n C dX8_status_37 rfl ?_
          refine V_aload_n C dX8_status_38 rfl ?_
          refine V_get C dX8_status_39 (rdO (j := 6) 60 rfl rfl rfl rfl rfl) in_X8 (by decide) q238 rfl ?_
          refine V_alen C dX8_status_42 (rdOL 62 rfl rfl rfl) rfl ?_
          refine V_icmp_ge C dX8_status_43 (fun c43 => ?_) (fun c43 => absurd (nI_le (a := 7) (by omega) (by omega)) c43)
          refine V_iload_n C dX8_status_61 rfl ?_
          exact V_iretN C dX8_status_62 hT (PX_rd (by unfold S_status; rw [if_neg c12, if_pos c24, hN]) (EqX.rf σ))
        | succ d ih =>
          intro i  hi' 
          refine V_iload_n C dX8_status_37 rfl ?_
          refine V_aload_n C dX8_status_38 rfl ?_
          refine V_get C dX8_status_39 (rdO (j := 6) 60 rfl rfl rfl rfl rfl) in_X8 (by decide) q238 rfl ?_
          refine V_alen C dX8_status_42 (rdOL 62 rfl rfl rfl) rfl ?_
          refine V_icmp_ge C dX8_status_43 (fun c43 => absurd c43 (nI_ge (b := 7) (by omega) (by decide))) (fun c43 => ?_)
          refine V_iload_n C dX8_status_46 rfl ?_
          refine V_aload_n C dX8_status_47 rfl ?_
          refine V_get C dX8_status_48 (rdO (j := 6) 60 rfl rfl rfl rfl rfl) in_X8 (by decide) q238 rfl ?_
          refine V_iload_n C dX8_status_51 rfl ?_
          refine V_ialdN C i rfl (by omega) (by omega) dX8_status_52 (rdOA 62 rfl rfl rfl) ?_
          refine V_iadd C dX8_status_53 ?_
          refine V_istore_n C dX8_status_54 rfl ?_
          refine V_iinc C 1 dX8_status_55 rfl (by decide) rfl ?_
          refine V_goto C dX8_status_58 ?_
          exact V_nx rfl (by simp [toN, ← nI_1] <;> rfl) (ih (i + 1) (by omega))
      exact lp 7 0 (by omega)
    · refine V_aload_n C dX8_status_27 rfl ?_
      refine V_iconst C 0 dX8_status_28 (by decide) ?_
      refine V_cv C hE dX8_status_29 (c_X8_fail (j := 0) (by omega)) kyX8_fail q273 (isoO 60 rfl rfl rfl rfl) rfl rfl rfl ?_
      exact V_iretN C dX8_status_32 hT (PX_fail (by unfold S_status; all_goals (first | rw [if_pos c12] | rw [if_neg c12]); all_goals (first | rw [if_pos c24] | rw [if_neg c24])) (EqX.rf σ))
  · obtain ⟨w, rfl, hw⟩ := i32_le (m := 6) (by omega) c12.1 c12.2
    refine V_aload_n C dX8_status_15 rfl ?_
    refine V_get C dX8_status_16 (rdO (j := 6) 60 rfl rfl rfl rfl rfl) in_X8 (by decide) q238 rfl ?_
    refine V_iload_n C dX8_status_19 rfl ?_
    refine V_ialdN C w rfl (by omega) (by omega) dX8_status_20 (rdOA 62 rfl rfl rfl) ?_
    exact V_iretN C dX8_status_21 hT (PX_rd (by unfold S_status; rw [if_pos c12, hk_n (by omega)]) (EqX.rf σ))

theorem wr39 {a l : Int32} (h0 : 0 ≤ l) (h : l ≤ 40) (h2 : a ≤ l - 1) : a ≤ 39 := by grind

theorem c_X8_write {l : Launch} {E : En} {σ : Sg} {p0 p1 p2 : Int32}  (hln : ∀ s, s < 4 → 0 ≤ σ (shc s) 2 ∧ σ (shc s) 2 ≤ 40) : MN l yX8_write cX8_write 5 (some .int) rmX8_write E [.ref (ad E 60), .int p0, .int p1, .int p2] σ (PZ σ (S_write σ p0 p1) (N_write σ (hk p0) (hk p1) p2)) := by
  refine MN_of (by decide +kernel) rfl fun x C hE hT hcan => ?_
  have C : CX x cX8_write RX8 rmX8_write := C
  refine V_L (L' := [some (.ref (ad E 60)), some (.int p0), some (.int p1), some (.int p2), none]) rfl ?_
  refine V_aload_n C dX8_write_0 rfl ?_
  refine V_iload_n C dX8_write_1 rfl ?_
  by_cases hq : inP p0 0 3
  · obtain ⟨s, rfl, hs3⟩ := i32_le (m := 3) (by omega) hq.1 hq.2
    have hs : s < 4 := by omega
    refine V_cv C hE dX8_write_2 (c_X8_sheetAt hs) kyX8_sheetAt q810 (isoO 60 rfl rfl rfl rfl) rfl rfl rfl ?_
    refine V_astore C dX8_write_5 rfl ?_
    refine V_aload C dX8_write_7 rfl ?_
    refine V_ifnonnull C dX8_write_9 ?_
    refine V_aload C dX8_write_18 rfl ?_
    refine V_cv C hE dX8_write_20 (c_X3_isMissing hs) kyX3_isMissing q822 (isoSh (by first | assumption | omega)) rfl rfl rfl ?_
    refine V_ifeq_b C dX8_write_23 (fun c23 => ?_) (fun c23 => ?_)
    · refine V_iload_n C dX8_write_32 rfl ?_
      refine V_iconst C 0 dX8_write_33 (by decide) ?_
      refine V_aload C dX8_write_34 rfl ?_
      refine V_getN C hE.nw dX8_write_36 (rdShL (by first | assumption | omega)) in_X3 (by decide) q224 rfl ?_
      refine V_iconst C 1 dX8_write_39 (by decide) ?_
      refine V_isub C dX8_write_40 ?_
      refine V_cs C hE dX8_write_41 (c_X8_within) kyX8_within q270 rfl rfl rfl ?_
      refine V_ifne_b C dX8_write_44 (fun c44 => ?_) (fun c44 => ?_)
      · have hp2 := c44.2
        have hl40 := hln s hs
        obtain ⟨w, rfl, hw⟩ := i32_le (m := 39) (by omega) c44.1 (wr39 hl40.1 hl40.2 hp2)
        refine V_aload C dX8_write_53 rfl ?_
        refine V_iload_n C dX8_write_55 rfl ?_
        refine V_iload_n C dX8_write_56 rfl ?_
        refine V_cv0 C hE dX8_write_57 (c_X3_put (s := s) (i := w) hs (by omega)) kyX3_put q826 (isoSh (by first | assumption | omega)) rfl rfl rfl ?_
        refine V_iconst C 1 dX8_write_60 (by decide) ?_
        exact V_iretN C dX8_write_61 hT (PZ_ok (by unfold S_write; rw [hk_n (show s < 2 ^ 31 by omega)]; all_goals (first | rw [if_pos hq] | rw [if_neg hq]); all_goals (first | rw [if_pos c23] | rw [if_neg c23]); all_goals (first | rw [if_pos c44] | rw [if_neg c44])) (by unfold N_write; rw [hk_n (show s < 2 ^ 31 by omega), us_n (by unfold nmc; omega)]) (by unfold N_write; rw [hk_n (show s < 2 ^ 31 by omega), hk_n (show w < 2 ^ 31 by omega)]; exact EqX.rf _))
      · refine V_aload_n C dX8_write_47 rfl ?_
        refine V_iconst C 0 dX8_write_48 (by decide) ?_
        refine V_cv C hE dX8_write_49 (c_X8_fail (j := 0) (by omega)) kyX8_fail q273 (isoO 60 rfl rfl rfl rfl) rfl rfl rfl ?_
        exact V_iretN C dX8_write_52 hT (PZ_fail (by unfold S_write; (try rw [hk_n (show s < 2 ^ 31 by omega)]); all_goals (first | rw [if_pos hq] | rw [if_neg hq]); all_goals (first | rw [if_pos c23] | rw [if_neg c23]); all_goals (first | rw [if_pos c44] | rw [if_neg c44])) (EqX.rf σ))
    · refine V_aload_n C dX8_write_26 rfl ?_
      refine V_iconst C 5 dX8_write_27 (by decide) ?_
      refine V_cv C hE dX8_write_28 (c_X8_fail (j := 5) (by omega)) kyX8_fail q273 (isoO 60 rfl rfl rfl rfl) rfl rfl rfl ?_
      exact V_iretN C dX8_write_31 hT (PZ_fail (by unfold S_write; (try rw [hk_n (show s < 2 ^ 31 by omega)]); all_goals (first | rw [if_pos hq] | rw [if_neg hq]); all_goals (first | rw [if_pos c23] | rw [if_neg c23])) (EqX.rf σ))
  · refine V_cv C hE dX8_write_2 (c_X8_sheetAtN hq) kyX8_sheetAt q810 (isoO 60 rfl rfl rfl rfl) rfl rfl rfl ?_
    refine V_astoreN C dX8_write_5 rfl ?_
    refine V_aloadN C dX8_write_7 rfl ?_
    refine V_ifnonnullN C dX8_write_9 ?_
    refine V_aload_n C dX8_write_12 rfl ?_
    refine V_iconst C 0 dX8_write_13 (by decide) ?_
    refine V_cv C hE dX8_write_14 (c_X8_fail (j := 0) (by omega)) kyX8_fail q273 (isoO 60 rfl rfl rfl rfl) rfl rfl rfl ?_
    exact V_iretN C dX8_write_17 hT (PZ_fail (by unfold S_write; (try rw [hk_n (show s < 2 ^ 31 by omega)]); all_goals (first | rw [if_pos hq] | rw [if_neg hq])) (EqX.rf σ))

theorem c_X8_image {l : Launch} {E : En} {σ : Sg}   : MN l yX8_image cX8_image 1 (some .int) rmX8_image E [.ref (ad E 60)] σ (fun r u => r = some (.int 1) ∧ EqX (us (us σ 1 (σ 0)) 60 (upd (σ 60) 10 1)) u) := by
  refine MN_of (by decide +kernel) rfl fun x C hE hT hcan => ?_
  have C : CX x cX8_image RX8 rmX8_image := C
  refine V_L (L' := [some (.ref (ad E 60))]) rfl ?_
  refine V_aload_n C dX8_image_0 rfl ?_
  refine V_get C dX8_image_1 (rdX8_kept) in_X8 (by decide) q233 rfl ?_
  refine V_aload_n C dX8_image_4 rfl ?_
  refine V_get C dX8_image_5 (rdX8_live) in_X8 (by decide) q232 rfl ?_
  refine V_cv0 C hE dX8_image_8 (c_X5_be (v := 1) (w := 0) (by omega) (by omega) (by omega)) kyX5_be q447 (isoV (by first | assumption | omega)) rfl rfl rfl ?_
  refine V_aload_n C dX8_image_11 rfl ?_
  refine V_iconst C 1 dX8_image_12 (by decide) ?_
  refine V_put C dX8_image_13 (wrO (j := 10) 60 rfl rfl rfl rfl rfl rfl) ft_X8 (by decide) q242 rfl rfl rfl rfl ?_
  refine V_iconst C 1 dX8_image_16 (by decide) ?_
  exact V_iretN C dX8_image_17 hT (⟨rfl, by rw [us_n (show (60:Nat) ≠ 5+1 by omega), us_n (show (60:Nat) ≠ 1 by omega)]; exact EqX.both ((EqX.rf _).put (by omega))⟩)

theorem c_X8_tear {l : Launch} {E : En} {σ : Sg}   : MN l yX8_tear cX8_tear 2 (some .int) rmX8_tear E [.ref (ad E 60)] σ (fun r u => r = some (.int (if σ 60 10 = 0 then 0 else 1)) ∧ EqX (us σ 60 (upd (σ 60) 10 0)) u) := by
  refine MN_of (by decide +kernel) rfl fun x C hE hT hcan => ?_
  have C : CX x cX8_tear RX8 rmX8_tear := C
  refine V_L (L' := [some (.ref (ad E 60)), none]) rfl ?_
  refine V_aload_n C dX8_tear_0 rfl ?_
  refine V_get C dX8_tear_1 (rdO (j := 10) 60 rfl rfl rfl rfl rfl) in_X8 (by decide) q242 rfl ?_
  refine V_if_eq C dX8_tear_4 (fun c4 => ?_) (fun c4 => ?_)
  · refine V_iconst C 0 dX8_tear_11 (by decide) ?_
    refine V_istore_n C dX8_tear_12 rfl ?_
    refine V_aload_n C dX8_tear_13 rfl ?_
    refine V_iconst C 0 dX8_tear_14 (by decide) ?_
    refine V_put C dX8_tear_15 (wrO (j := 10) 60 rfl rfl rfl rfl rfl rfl) ft_X8 (by decide) q242 rfl rfl rfl rfl ?_
    refine V_iload_n C dX8_tear_18 rfl ?_
    exact V_iretN C dX8_tear_19 hT (⟨by first | rw [if_pos c4] | rw [if_neg c4], EqX.rf _⟩)
  · refine V_iconst C 1 dX8_tear_7 (by decide) ?_
    refine V_goto C dX8_tear_8 ?_
    refine V_istore_n C dX8_tear_12 rfl ?_
    refine V_aload_n C dX8_tear_13 rfl ?_
    refine V_iconst C 0 dX8_tear_14 (by decide) ?_
    refine V_put C dX8_tear_15 (wrO (j := 10) 60 rfl rfl rfl rfl rfl rfl) ft_X8 (by decide) q242 rfl rfl rfl rfl ?_
    refine V_iload_n C dX8_tear_18 rfl ?_
    exact V_iretN C dX8_tear_19 hT (⟨by first | rw [if_pos c4] | rw [if_neg c4], EqX.rf _⟩)

theorem c_X8_undo {l : Launch} {E : En} {σ : Sg}   : MN l yX8_undo cX8_undo 1 (some .int) rmX8_undo E [.ref (ad E 60)] σ (PZ σ (S_undo σ) (us σ 0 (σ 1))) := by
  refine MN_of (by decide +kernel) rfl fun x C hE hT hcan => ?_
  have C : CX x cX8_undo RX8 rmX8_undo := C
  refine V_L (L' := [some (.ref (ad E 60))]) rfl ?_
  refine V_aload_n C dX8_undo_0 rfl ?_
  refine V_get C dX8_undo_1 (rdO (j := 10) 60 rfl rfl rfl rfl rfl) in_X8 (by decide) q242 rfl ?_
  refine V_if_ne C dX8_undo_4 (fun c4 => ?_) (fun c4 => ?_)
  · refine V_aload_n C dX8_undo_13 rfl ?_
    refine V_get C dX8_undo_14 (rdX8_live) in_X8 (by decide) q232 rfl ?_
    refine V_aload_n C dX8_undo_17 rfl ?_
    refine V_get C dX8_undo_18 (rdX8_kept) in_X8 (by decide) q233 rfl ?_
    refine V_cv0 C hE dX8_undo_21 (c_X5_be (v := 0) (w := 1) (by omega) (by omega) (by omega)) kyX5_be q447 (isoV (by first | assumption | omega)) rfl rfl rfl ?_
    refine V_aload_n C dX8_undo_24 rfl ?_
    refine V_get C dX8_undo_25 (rdX8_live) in_X8 (by decide) q232 rfl ?_
    refine V_getN C hE.nw dX8_undo_28 (rdV (by first | assumption | omega) 8 0 rfl rfl rfl) in_X5 (by decide) q146 rfl ?_
    rw [us_n (show (0:Nat) ≠ 5+0 by omega), us_s]
    exact V_iretN C dX8_undo_31 hT (PZ_ok (by unfold S_undo; all_goals (first | rw [if_pos c4] | rw [if_neg c4])) (us_n (by omega)) ((EqX.rf _).put (by omega)))
  · refine V_aload_n C dX8_undo_7 rfl ?_
    refine V_iconst C 3 dX8_undo_8 (by decide) ?_
    refine V_cv C hE dX8_undo_9 (c_X8_fail (j := 3) (by omega)) kyX8_fail q273 (isoO 60 rfl rfl rfl rfl) rfl rfl rfl ?_
    exact V_iretN C dX8_undo_12 hT (PZ_fail (by unfold S_undo; all_goals (first | rw [if_pos c4] | rw [if_neg c4])) (EqX.rf σ))

