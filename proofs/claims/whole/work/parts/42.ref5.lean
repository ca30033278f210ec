/-- behind saves() -/
def svS (σ : Sg) : Sg := us σ 76 (σ 74)
theorem sv_74 (σ : Sg) : svS σ 74 = σ 74 := us_n (by omega)
theorem sv_76 (σ : Sg) : svS σ 76 = σ 74 := us_s _ _ _
theorem sv_n {σ : Sg} {c : Nat} (h : c ≠ 76) : svS σ c = σ c := us_n h
theorem sv_bk (σ : Sg) : us (svS σ) 74 (σ 74) = svS σ := by rw [← sv_74 σ]; exact us_id _ _
theorem EqY.sv (σ : Sg) : EqY σ (svS σ) := (EqY.rf σ).put (by omega) (by omega)
theorem isH_ne {f : Nat → Int32} {h : Int32} (q : isH f h) : ¬ f 1 = 0 := fun e => absurd (Int32.lt_of_le_of_lt q.1 (e ▸ q.2)) Int32.lt_irrefl
theorem e9903 : (9999 - 96 : Int32) = 9903 := by decide
/-- what a quarter does to the loaves -/
theorem brd_step {f : Nat → Int32} (hc : Can f) {i : Nat} (hi : i < nh f) : hf (quarterF f) i 5 = hf f i 5 ∨ hf (quarterF f) i 5 = hf f i 5 + 1 := by
  have h8 := hc.2.1
  have e1 : ∀ g : Nat → Int32, hf (tickF g) i 5 = hf g i 5 := fun g => by
    unfold tickF
    simp only
    rw [hf_upd (by omega) (by omega) (by omega)]
    split
    · exact hf_upd (by omega) (by omega) (by omega)
    · rfl
  have e2 : hf (coolN (nh f) (if canB f then burnF f (hx f) else f)) i 5 = hf f i 5 := by
    rw [coolN_hf (by omega) (by omega)]
    split
    · exact burnF_hf (by omega) (by omega) (by omega) (by omega)
    · rfl
  unfold quarterF qF
  rw [e1]
  generalize coolN (nh f) (if canB f then burnF f (hx f) else f) = q at e2 ⊢
  unfold brdF
  split
  · by_cases e : i = hx f
    · subst e; right; rw [hf_uh_s, e2]
    · left; rw [hf_uh_n (by omega) (by omega) (by omega), e2]
  · left; exact e2

theorem c_X9_savesV {l : Launch} {E : En} {σ : Sg} : MD l yX9_saves cX9_saves 2 none rmX9_saves E [.ref (ad E 73)] σ none (svS σ) := c_X9_saves

theorem c_X9_ahead {l : Launch} {E : En} {σ : Sg} {p0 p1 : Int32}  (hG : GV (σ 74)) (hQ : inP (σ 74 0) 0 9999) (hz : σ 73 5 = 0) : MN l yX9_ahead cX9_ahead 5 (some .int) rmX9_ahead E [.ref (ad E 73), .int p0, .int p1] σ (PQ σ (S_ahead (σ 74) p0 p1) (σ)) := by
  refine MN_of (by decide +kernel) rfl fun x C hE hT hcan => ?_
  have C : CX x cX9_ahead RX9 rmX9_ahead := C
  have h8 : nh (σ 74) ≤ 8 := (hcan.2.1 74 (by omega) (by omega)).2.1
  have hn1 := (hcan.2.1 74 (by omega) (by omega)).1
  refine V_L (L' := [some (.ref (ad E 73)), some (.int p0), some (.int p1), none, none]) rfl ?_
  refine V_iload_n C dX9_ahead_0 rfl ?_
  refine V_i2l C dX9_ahead_1 ?_
  refine V_lconst C 0 dX9_ahead_2 (by decide) ?_
  refine V_ldc2 C dX9_ahead_3 q1081 ?_
  refine V_cs C hE dX9_ahead_6 (c_X9_in (a := p0) (lo := 0) (hi := 96) (by decide +kernel) (by decide +kernel)) kyX9_in q991 rfl rfl rfl ?_
  try simp (disch := omega) only [us_us, us_s, us_n, sv_74, sv_76, sv_n, sv_bk]
  refine V_ifeq_b C dX9_ahead_9 (fun c9 => ?_) (fun c9 => ?_)
  · refine V_aload_n C dX9_ahead_30 rfl ?_
    refine V_ldc C dX9_ahead_31 q994 ?_
    refine V_cv C hE dX9_ahead_33 (c_X9_finds (j := 0) (by decide +kernel) (by omega)) kyX9_finds q995 (isoO 73 rfl rfl rfl rfl) rfl rfl rfl ?_
    try simp (disch := omega) only [us_us, us_s, us_n, sv_74, sv_76, sv_n, sv_bk]
    exact V_iretN C dX9_ahead_36 hT (PQ_fail (by decide +kernel) (by unfold S_ahead; (try rw [hk_n (show q < 2 ^ 31 by omega)]); all_goals (first | rw [if_pos c9] | rw [if_neg c9])) (EqY.rf σ))
  · refine V_iload_n C dX9_ahead_12 rfl ?_
    refine V_i2l C dX9_ahead_13 ?_
    refine V_lconst C 0 dX9_ahead_14 (by decide) ?_
    refine V_iconst C 3 dX9_ahead_15 (by decide) ?_
    refine V_aload_n C dX9_ahead_16 rfl ?_
    refine V_get C dX9_ahead_17 (rdO (j := 0) 73 rfl rfl rfl rfl rfl) in_X9 (by decide) q907 rfl ?_
    refine V_iconst C 1 dX9_ahead_20 (by decide) ?_
    refine V_iald C 1 rfl rfl rfl dX9_ahead_21 (rdM 74 1 rfl rfl rfl) ?_
    try simp (disch := omega) only [us_us, us_s, us_n, sv_74, sv_76, sv_n, sv_bk]
    refine V_iadd C dX9_ahead_22 ?_
    refine V_i2l C dX9_ahead_23 ?_
    refine V_cs C hE dX9_ahead_24 (c_X9_in (a := p1) (lo := 0) (hi := 3 + σ 74 1) (by decide +kernel) rfl) kyX9_in q991 rfl rfl rfl ?_
    try simp (disch := omega) only [us_us, us_s, us_n, sv_74, sv_76, sv_n, sv_bk]
    refine V_ifne_b C dX9_ahead_27 (fun c27 => ?_) (fun c27 => ?_)
    · refine V_aload_n C dX9_ahead_37 rfl ?_
      refine V_iload_n C dX9_ahead_38 rfl ?_
      refine V_cv C hE dX9_ahead_39 (c_X9_isTooLate hQ ⟨c9.1, Int32.le_trans c9.2 (by decide)⟩) kyX9_isTooLate q1082 (isoO 73 rfl rfl rfl rfl) rfl rfl rfl ?_
      try simp (disch := omega) only [us_us, us_s, us_n, sv_74, sv_76, sv_n, sv_bk]
      refine V_ifeq_b C dX9_ahead_42 (fun c42 => ?_) (fun c42 => ?_)
      · obtain ⟨q, rfl, hq⟩ := i32_le (m := 96) (by omega) c9.1 c9.2
        refine V_aload_n C dX9_ahead_52 rfl ?_
        refine V_cv0 C hE dX9_ahead_53 (c_X9_savesV) kyX9_saves q1122 (isoO 73 rfl rfl rfl rfl) rfl rfl rfl ?_
        try simp (disch := omega) only [us_us, us_s, us_n, sv_74, sv_76, sv_n, sv_bk]
        refine V_aload_n C dX9_ahead_56 rfl ?_
        refine V_iconst C 5 dX9_ahead_57 (by decide) ?_
        refine V_cv C hE dX9_ahead_58 (c_X9_sumOf (j := 5) rfl (by omega)) kyX9_sumOf q1086 (isoO 73 rfl rfl rfl rfl) rfl rfl rfl ?_
        try simp (disch := omega) only [us_us, us_s, us_n, sv_74, sv_76, sv_n, sv_bk]
        refine V_istore_n C dX9_ahead_61 rfl ?_
        refine V_aload_n C dX9_ahead_62 rfl ?_
        refine V_iload_n C dX9_ahead_63 rfl ?_
        refine V_cv0 C hE dX9_ahead_64 (c_X9_quartersGo (n := q) (by simp (disch := omega) only [us_us, us_s, us_n, sv_74, sv_76, sv_n, sv_bk]; exact hG.1) (by simp (disch := omega) only [us_us, us_s, us_n, sv_74, sv_76, sv_n, sv_bk]; exact hz) (by omega)) kyX9_quartersGo q1090 (isoO 73 rfl rfl rfl rfl) rfl rfl rfl ?_
        try simp (disch := omega) only [us_us, us_s, us_n, sv_74, sv_76, sv_n, sv_bk]
        refine V_iload_n C dX9_ahead_67 rfl ?_
        refine V_if_ne C dX9_ahead_68 (fun c68 => ?_) (fun c68 => ?_)
        · refine V_iload_n C dX9_ahead_78 rfl ?_
          refine V_iconst C 1 dX9_ahead_79 (by decide) ?_
          refine V_icmp_ne C dX9_ahead_80 (fun c80 => ?_) (fun c80 => ?_)
          · refine V_iload_n C dX9_ahead_90 rfl ?_
            refine V_iconst C 2 dX9_ahead_91 (by decide) ?_
            refine V_icmp_ne C dX9_ahead_92 (fun c92 => ?_) (fun c92 => ?_)
            · refine V_iload_n C dX9_ahead_111 rfl ?_
              refine V_iconst C 3 dX9_ahead_112 (by decide) ?_
              refine V_icmp_ne C dX9_ahead_113 (fun c113 => ?_) (fun c113 => ?_)
              · obtain ⟨w, rfl, hw⟩ := i32_le (m := 3 + nh (σ 74)) (by omega) c27.1 (by have z := c27.2; rw [hn1, show (3 : Int32) + nI (nh (σ 74)) = nI (3 + nh (σ 74)) from nI_add 3 _] at z; exact z)
                have hw4 : 4 ≤ w := by
                  rcases Nat.lt_or_ge w 4 with z | z
                  · rcases (show w = 0 ∨ w = 1 ∨ w = 2 ∨ w = 3 by omega) with rfl | rfl | rfl | rfl
                    · exact absurd rfl c68
                    · exact absurd rfl c80
                    · exact absurd rfl c92
                    · exact absurd rfl c113
                  · exact z
                have e4 : nI w - 4 = nI (w - 4) := nI_msub (b := 4) hw4
                refine V_aload_n C dX9_ahead_126 rfl ?_
                refine V_iload_n C dX9_ahead_127 rfl ?_
                refine V_iconst C 4 dX9_ahead_128 (by decide) ?_
                refine V_isub C dX9_ahead_129 ?_
                rw [e4]
                refine V_iconst C 1 dX9_ahead_130 (by decide) ?_
                refine V_cv C hE dX9_ahead_131 (c_X9_its (i := w - 4) (j := 1) rfl (by simp (disch := omega) only [us_us, us_s, us_n, sv_74, sv_76, sv_n, sv_bk]; rw [nh_passN]; omega) (by omega)) kyX9_its q1016 (isoO 73 rfl rfl rfl rfl) rfl rfl rfl ?_
                try simp (disch := omega) only [us_us, us_s, us_n, sv_74, sv_76, sv_n, sv_bk]
                refine V_istore C dX9_ahead_134 rfl ?_
                refine V_aload_n C dX9_ahead_136 rfl ?_
                refine V_cv0 C hE dX9_ahead_137 (c_X9_putsBack) kyX9_putsBack q1130 (isoO 73 rfl rfl rfl rfl) rfl rfl rfl ?_
                try simp (disch := omega) only [us_us, us_s, us_n, sv_74, sv_76, sv_n, sv_bk]
                refine V_iload C dX9_ahead_140 rfl ?_
                exact V_iretN C dX9_ahead_142 hT (PQ_rd (by unfold S_ahead; rw [if_pos c9, if_pos c27, if_neg c42, hk_n (show q < 2 ^ 31 by omega)]; refine congrArg Sum.inr ?_; unfold aheadV; (first | rw [if_pos c68] | rw [if_neg c68]); (first | rw [if_pos c80] | rw [if_neg c80]); (first | rw [if_pos c92] | rw [if_neg c92]); (first | rw [if_pos c113] | rw [if_neg c113]); try rw [e4, hk_n (show w - 4 < 2 ^ 31 by omega)]) (EqY.sv σ))
              · refine V_aload_n C dX9_ahead_116 rfl ?_
                refine V_iconst C 5 dX9_ahead_117 (by decide) ?_
                refine V_cv C hE dX9_ahead_118 (c_X9_sumOf (j := 5) rfl (by omega)) kyX9_sumOf q1086 (isoO 73 rfl rfl rfl rfl) rfl rfl rfl ?_
                try simp (disch := omega) only [us_us, us_s, us_n, sv_74, sv_76, sv_n, sv_bk]
                refine V_iload_n C dX9_ahead_121 rfl ?_
                refine V_isub C dX9_ahead_122 ?_
                refine V_goto C dX9_ahead_123 ?_
                refine V_istore C dX9_ahead_134 rfl ?_
                refine V_aload_n C dX9_ahead_136 rfl ?_
                refine V_cv0 C hE dX9_ahead_137 (c_X9_putsBack) kyX9_putsBack q1130 (isoO 73 rfl rfl rfl rfl) rfl rfl rfl ?_
                try simp (disch := omega) only [us_us, us_s, us_n, sv_74, sv_76, sv_n, sv_bk]
                refine V_iload C dX9_ahead_140 rfl ?_
                exact V_iretN C dX9_ahead_142 hT (PQ_rd (by unfold S_ahead; rw [if_pos c9, if_pos c27, if_neg c42, hk_n (show q < 2 ^ 31 by omega)]; refine congrArg Sum.inr ?_; unfold aheadV; (first | rw [if_pos c68] | rw [if_neg c68]); (first | rw [if_pos c80] | rw [if_neg c80]); (first | rw [if_pos c92] | rw [if_neg c92]); (first | rw [if_pos c113] | rw [if_neg c113]); try rw [e4, hk_n (show w - 4 < 2 ^ 31 by omega)]) (EqY.sv σ))
            · refine V_aload_n C dX9_ahead_95 rfl ?_
              refine V_get C dX9_ahead_96 (rdO (j := 0) 73 rfl rfl rfl rfl rfl) in_X9 (by decide) q907 rfl ?_
              refine V_iconst C 4 dX9_ahead_99 (by decide) ?_
              refine V_iald C 4 rfl rfl rfl dX9_ahead_100 (rdM 74 4 rfl rfl rfl) ?_
              try simp (disch := omega) only [us_us, us_s, us_n, sv_74, sv_76, sv_n, sv_bk]
              refine V_aload_n C dX9_ahead_101 rfl ?_
              refine V_get C dX9_ahead_102 (rdO (j := 2) 73 rfl rfl rfl rfl rfl) in_X9 (by decide) q909 rfl ?_
              refine V_iconst C 4 dX9_ahead_105 (by decide) ?_
              refine V_iald C 4 rfl rfl rfl dX9_ahead_106 (rdM 76 4 rfl rfl rfl) ?_
              try simp (disch := omega) only [us_us, us_s, us_n, sv_74, sv_76, sv_n, sv_bk]
              refine V_isub C dX9_ahead_107 ?_
              refine V_goto C dX9_ahead_108 ?_
              refine V_istore C dX9_ahead_134 rfl ?_
              refine V_aload_n C dX9_ahead_136 rfl ?_
              refine V_cv0 C hE dX9_ahead_137 (c_X9_putsBack) kyX9_putsBack q1130 (isoO 73 rfl rfl rfl rfl) rfl rfl rfl ?_
              try simp (disch := omega) only [us_us, us_s, us_n, sv_74, sv_76, sv_n, sv_bk]
              refine V_iload C dX9_ahead_140 rfl ?_
              exact V_iretN C dX9_ahead_142 hT (PQ_rd (by unfold S_ahead; rw [if_pos c9, if_pos c27, if_neg c42, hk_n (show q < 2 ^ 31 by omega)]; refine congrArg Sum.inr ?_; unfold aheadV; (first | rw [if_pos c68] | rw [if_neg c68]); (first | rw [if_pos c80] | rw [if_neg c80]); (first | rw [if_pos c92] | rw [if_neg c92]); try rw [e4, hk_n (show w - 4 < 2 ^ 31 by omega)]) (EqY.sv σ))
          · refine V_aload_n C dX9_ahead_83 rfl ?_
            refine V_cv C hE dX9_ahead_84 (c_X9_leastWarmth) kyX9_leastWarmth q1126 (isoO 73 rfl rfl rfl rfl) rfl rfl rfl ?_
            try simp (disch := omega) only [us_us, us_s, us_n, sv_74, sv_76, sv_n, sv_bk]
            refine V_goto C dX9_ahead_87 ?_
            refine V_istore C dX9_ahead_134 rfl ?_
            refine V_aload_n C dX9_ahead_136 rfl ?_
            refine V_cv0 C hE dX9_ahead_137 (c_X9_putsBack) kyX9_putsBack q1130 (isoO 73 rfl rfl rfl rfl) rfl rfl rfl ?_
            try simp (disch := omega) only [us_us, us_s, us_n, sv_74, sv_76, sv_n, sv_bk]
            refine V_iload C dX9_ahead_140 rfl ?_
            exact V_iretN C dX9_ahead_142 hT (PQ_rd (by unfold S_ahead; rw [if_pos c9, if_pos c27, if_neg c42, hk_n (show q < 2 ^ 31 by omega)]; refine congrArg Sum.inr ?_; unfold aheadV; (first | rw [if_pos c68] | rw [if_neg c68]); (first | rw [if_pos c80] | rw [if_neg c80]); try rw [e4, hk_n (show w - 4 < 2 ^ 31 by omega)]) (EqY.sv σ))
        · refine V_aload_n C dX9_ahead_71 rfl ?_
          refine V_cv C hE dX9_ahead_72 (c_X9_coldSet) kyX9_coldSet q1110 (isoO 73 rfl rfl rfl rfl) rfl rfl rfl ?_
          try simp (disch := omega) only [us_us, us_s, us_n, sv_74, sv_76, sv_n, sv_bk]
          refine V_goto C dX9_ahead_75 ?_
          refine V_istore C dX9_ahead_134 rfl ?_
          refine V_aload_n C dX9_ahead_136 rfl ?_
          refine V_cv0 C hE dX9_ahead_137 (c_X9_putsBack) kyX9_putsBack q1130 (isoO 73 rfl rfl rfl rfl) rfl rfl rfl ?_
          try simp (disch := omega) only [us_us, us_s, us_n, sv_74, sv_76, sv_n, sv_bk]
          refine V_iload C dX9_ahead_140 rfl ?_
          exact V_iretN C dX9_ahead_142 hT (PQ_rd (by unfold S_ahead; rw [if_pos c9, if_pos c27, if_neg c42, hk_n (show q < 2 ^ 31 by omega)]; refine congrArg Sum.inr ?_; unfold aheadV; (first | rw [if_pos c68] | rw [if_neg c68]); try rw [e4, hk_n (show w - 4 < 2 ^ 31 by omega)]) (EqY.sv σ))
      · refine V_aload_n C dX9_ahead_45 rfl ?_
        refine V_ldc C dX9_ahead_46 q1056 ?_
        refine V_cv C hE dX9_ahead_48 (c_X9_finds (j := 4) (by decide +kernel) (by omega)) kyX9_finds q995 (isoO 73 rfl rfl rfl rfl) rfl rfl rfl ?_
        try simp (disch := omega) only [us_us, us_s, us_n, sv_74, sv_76, sv_n, sv_bk]
        exact V_iretN C dX9_ahead_51 hT (PQ_fail (by decide +kernel) (by unfold S_ahead; (try rw [hk_n (show q < 2 ^ 31 by omega)]); all_goals (first | rw [if_pos c9] | rw [if_neg c9]); all_goals (first | rw [if_pos c27] | rw [if_neg c27]); all_goals (first | rw [if_pos c42] | rw [if_neg c42])) (EqY.rf σ))
    · refine V_aload_n C dX9_ahead_30 rfl ?_
      refine V_ldc C dX9_ahead_31 q994 ?_
      refine V_cv C hE dX9_ahead_33 (c_X9_finds (j := 0) (by decide +kernel) (by omega)) kyX9_finds q995 (isoO 73 rfl rfl rfl rfl) rfl rfl rfl ?_
      try simp (disch := omega) only [us_us, us_s, us_n, sv_74, sv_76, sv_n, sv_bk]
      exact V_iretN C dX9_ahead_36 hT (PQ_fail (by decide +kernel) (by unfold S_ahead; (try rw [hk_n (show q < 2 ^ 31 by omega)]); all_goals (first | rw [if_pos c9] | rw [if_neg c9]); all_goals (first | rw [if_pos c27] | rw [if_neg c27])) (EqY.rf σ))

theorem c_X9_quarterP {l : Launch} {E : En} {σ : Sg} (hI : Inv (σ 74)) (hz : σ 73 5 = 0) : MD l yX9_quarter cX9_quarter 5 none rmX9_quarter E [.ref (ad E 73)] σ none (us σ 74 (quarterF (σ 74))) := c_X9_quarter (p := canB (σ 74)) hI ⟨fun q => ⟨q, hz⟩, fun q => q.1⟩

theorem c_X9_cold {l : Launch} {E : En} {σ : Sg} {p0 : Int32}  (hG : GV (σ 74)) (hQ : inP (σ 74 0) 0 9999) (hz : σ 73 5 = 0) : MN l yX9_cold cX9_cold 3 (some .int) rmX9_cold E [.ref (ad E 73), .int p0] σ (PQ σ (S_cold (σ 74) p0) (σ)) := by
  refine MN_of (by decide +kernel) rfl fun x C hE hT hcan => ?_
  have C : CX x cX9_cold RX9 rmX9_cold := C
  have h8 : nh (σ 74) ≤ 8 := (hcan.2.1 74 (by omega) (by omega)).2.1
  have hn1 := (hcan.2.1 74 (by omega) (by omega)).1
  refine V_L (L' := [some (.ref (ad E 73)), some (.int p0), none]) rfl ?_
  refine V_aload_n C dX9_cold_0 rfl ?_
  refine V_iload_n C dX9_cold_1 rfl ?_
  by_cases hh : isH (σ 74) p0
  · obtain ⟨b, hb, rfl, hb8⟩ := isH_of (hcan.2.1 74 (by omega) (by omega)) hh
    refine V_cv C hE dX9_cold_2 (c_X9_isHouse) kyX9_isHouse q1011 (isoO 73 rfl rfl rfl rfl) rfl rfl rfl ?_
    try simp (disch := omega) only [us_us, us_s, us_n, sv_74, sv_76, sv_n, sv_bk]
    refine V_ifne_b C dX9_cold_5 (fun c5 => ?_) (fun c5 => absurd (hh) c5)
    refine V_aload_n C dX9_cold_15 rfl ?_
    refine V_bipush C 96 dX9_cold_16 (by decide) ?_
    refine V_cv C hE dX9_cold_18 (c_X9_isTooLate hQ ⟨by decide, by decide⟩) kyX9_isTooLate q1082 (isoO 73 rfl rfl rfl rfl) rfl rfl rfl ?_
    try simp (disch := omega) only [us_us, us_s, us_n, sv_74, sv_76, sv_n, sv_bk]
    refine V_ifeq_b C dX9_cold_21 (fun c21 => ?_) (fun c21 => ?_)
    · refine V_aload_n C dX9_cold_31 rfl ?_
      refine V_cv0 C hE dX9_cold_32 (c_X9_savesV) kyX9_saves q1122 (isoO 73 rfl rfl rfl rfl) rfl rfl rfl ?_
      try simp (disch := omega) only [us_us, us_s, us_n, sv_74, sv_76, sv_n, sv_bk]
      refine V_iconst C 0 dX9_cold_35 (by decide) ?_
      refine V_istore_n C dX9_cold_36 rfl ?_
      have lp : ∀ (d i : Nat) , i + d = 97 → (∀ j, 0 ≤ j → j < i → (fun n => cldF (passN n (σ 74)) b) j = false) → V x (eA E) (AP x E (us (svS σ) 74 (passN i (σ 74)))) 0 0 37 [some (.ref (ad E 73)), some (.int (nI b)), some (.int (nI i))] [] := by
        intro d
        induction d with
        | zero =>
          intro i  hi' hp
          have hN : i = 97 := by omega
          refine V_iload_n C dX9_cold_37 rfl ?_
          refine V_bipush C 97 dX9_cold_38 (by decide) ?_
          refine V_icmp_ge C dX9_cold_40 (fun c40 => ?_) (fun c40 => absurd (by rw [hN]; decide) c40)
          refine V_aload_n C dX9_cold_61 rfl ?_
          refine V_cv0 C hE dX9_cold_62 (c_X9_putsBack) kyX9_putsBack q1130 (isoO 73 rfl rfl rfl rfl) rfl rfl rfl ?_
          try simp (disch := omega) only [us_us, us_s, us_n, sv_74, sv_76, sv_n, sv_bk]
          refine V_iload_n C dX9_cold_65 rfl ?_
          refine V_bipush C 96 dX9_cold_66 (by decide) ?_
          refine V_icmp_le C dX9_cold_68 (fun c68 => absurd c68 (by rw [hN]; decide)) (fun c68 => ?_)
          refine V_aload_n C dX9_cold_71 rfl ?_
          refine V_ldc C dX9_cold_72 q1138 ?_
          refine V_cv C hE dX9_cold_74 (c_X9_finds (j := 3) (by decide +kernel) (by omega)) kyX9_finds q995 (isoO 73 rfl rfl rfl rfl) rfl rfl rfl ?_
          try simp (disch := omega) only [us_us, us_s, us_n, sv_74, sv_76, sv_n, sv_bk]
          refine V_goto C dX9_cold_77 ?_
          exact V_iretN C dX9_cold_81 hT (PQ_fail (by decide +kernel) (by unfold S_cold; rw [if_pos hh, if_neg c21, hk_nI hb8, fst_none 97 0 (fun j h1 h2 => hp j h1 (by omega))]; rfl) (EqY.sv σ))
        | succ d ih =>
          intro i  hi' hp
          refine V_iload_n C dX9_cold_37 rfl ?_
          refine V_bipush C 97 dX9_cold_38 (by decide) ?_
          refine V_icmp_ge C dX9_cold_40 (fun c40 => absurd c40 (nI_ge (b := 97) (by omega) (by omega))) (fun c40 => ?_)
          refine V_aload_n C dX9_cold_43 rfl ?_
          refine V_iload_n C dX9_cold_44 rfl ?_
          refine V_cv C hE dX9_cold_45 (c_X9_isCold (i := b) (by simp (disch := omega) only [us_us, us_s, us_n, sv_74, sv_76, sv_n, sv_bk]; rw [nh_passN]; exact hb)) kyX9_isCold q1114 (isoO 73 rfl rfl rfl rfl) rfl rfl rfl ?_
          try simp (disch := omega) only [us_us, us_s, us_n, sv_74, sv_76, sv_n, sv_bk]
          refine V_ifne_b C dX9_cold_48 (fun c48 => ?_) (fun c48 => ?_)
          · refine V_aload_n C dX9_cold_61 rfl ?_
            refine V_cv0 C hE dX9_cold_62 (c_X9_putsBack) kyX9_putsBack q1130 (isoO 73 rfl rfl rfl rfl) rfl rfl rfl ?_
            try simp (disch := omega) only [us_us, us_s, us_n, sv_74, sv_76, sv_n, sv_bk]
            refine V_iload_n C dX9_cold_65 rfl ?_
            refine V_bipush C 96 dX9_cold_66 (by decide) ?_
            refine V_icmp_le C dX9_cold_68 (fun c68 => ?_) (fun c68 => absurd (nI_le (b := 96) (by omega) (by omega)) c68)
            refine V_iload_n C dX9_cold_80 rfl ?_
            exact V_iretN C dX9_cold_81 hT (PQ_rd (by unfold S_cold; rw [if_pos hh, if_neg c21, hk_nI hb8, fst_some 97 0 i (by omega) (by omega) hp (decide_eq_true c48)]; rfl) (EqY.sv σ))
          · refine V_aload_n C dX9_cold_51 rfl ?_
            refine V_cv0 C hE dX9_cold_52 (c_X9_quarterP (by simp (disch := omega) only [us_us, us_s, us_n, sv_74, sv_76, sv_n, sv_bk]; exact Inv_passN hG.1 i) (by simp (disch := omega) only [us_us, us_s, us_n, sv_74, sv_76, sv_n, sv_bk]; exact hz)) kyX9_quarter q1094 (isoO 73 rfl rfl rfl rfl) rfl rfl rfl ?_
            try simp (disch := omega) only [us_us, us_s, us_n, sv_74, sv_76, sv_n, sv_bk]
            refine V_iinc C 1 dX9_cold_55 rfl (by decide) rfl ?_
            refine V_goto C dX9_cold_58 ?_
            exact V_nx rfl (by simp [← nI_1] <;> rfl) (ih (i + 1) (by omega) (fal_s hp (fun q => c48 (of_decide_eq_true q))))
      exact V_nx (sv_bk σ).symm rfl (lp 97 0 (by omega) (fun j h1 h2 => absurd h2 (by omega)))
    · refine V_aload_n C dX9_cold_24 rfl ?_
      refine V_ldc C dX9_cold_25 q1056 ?_
      refine V_cv C hE dX9_cold_27 (c_X9_finds (j := 4) (by decide +kernel) (by omega)) kyX9_finds q995 (isoO 73 rfl rfl rfl rfl) rfl rfl rfl ?_
      try simp (disch := omega) only [us_us, us_s, us_n, sv_74, sv_76, sv_n, sv_bk]
      exact V_iretN C dX9_cold_30 hT (PQ_fail (by decide +kernel) (by unfold S_cold; all_goals (first | rw [if_pos hh] | rw [if_neg hh]); all_goals (first | rw [if_pos c21] | rw [if_neg c21])) (EqY.rf σ))
  · refine V_cv C hE dX9_cold_2 (c_X9_isHouse) kyX9_isHouse q1011 (isoO 73 rfl rfl rfl rfl) rfl rfl rfl ?_
    try simp (disch := omega) only [us_us, us_s, us_n, sv_74, sv_76, sv_n, sv_bk]
    refine V_ifne_b C dX9_cold_5 (fun c5 => absurd c5 (hh)) (fun c5 => ?_)
    refine V_aload_n C dX9_cold_8 rfl ?_
    refine V_ldc C dX9_cold_9 q994 ?_
    refine V_cv C hE dX9_cold_11 (c_X9_finds (j := 0) (by decide +kernel) (by omega)) kyX9_finds q995 (isoO 73 rfl rfl rfl rfl) rfl rfl rfl ?_
    try simp (disch := omega) only [us_us, us_s, us_n, sv_74, sv_76, sv_n, sv_bk]
    exact V_iretN C dX9_cold_14 hT (PQ_fail (by decide +kernel) (by unfold S_cold; all_goals (first | rw [if_pos hh] | rw [if_neg hh])) (EqY.rf σ))

theorem i32_s {a : Int32} (h : inP a 0 9999) : a < a + 1 := by
  obtain ⟨k, rfl, hk⟩ := i32_le (m := 9999) (by omega) h.1 h.2
  rw [nI_1]; exact nI_lt (by omega) (by omega)
theorem goF_hf {f : Nat → Int32} {b i j : Nat} (hi : i < 8) (hj : j < 6) : hf (goF f b) i j = hf f i j := by
  unfold goF; rw [hf_upd (by omega) hi hj, hf_upd (by omega) hi hj]

theorem c_X9_bake {l : Launch} {E : En} {σ : Sg} {p0 : Int32}  (hG : GV (σ 74)) (hQ : inP (σ 74 0) 0 9999) (hz : σ 73 5 = 0) (hB : ∀ i, i < nh (σ 74) → inP (hf (σ 74) i 5) 0 9999) : MN l yX9_bake cX9_bake 3 (some .int) rmX9_bake E [.ref (ad E 73), .int p0] σ (PQ σ (S_bake (σ 74) p0) (σ)) := by
  refine MN_of (by decide +kernel) rfl fun x C hE hT hcan => ?_
  have C : CX x cX9_bake RX9 rmX9_bake := C
  have h8 : nh (σ 74) ≤ 8 := (hcan.2.1 74 (by omega) (by omega)).2.1
  have hn1 := (hcan.2.1 74 (by omega) (by omega)).1
  refine V_L (L' := [some (.ref (ad E 73)), some (.int p0), none]) rfl ?_
  refine V_aload_n C dX9_bake_0 rfl ?_
  refine V_iload_n C dX9_bake_1 rfl ?_
  by_cases hh : isH (σ 74) p0
  · obtain ⟨b, hb, rfl, hb8⟩ := isH_of (hcan.2.1 74 (by omega) (by omega)) hh
    refine V_cv C hE dX9_bake_2 (c_X9_isHouse) kyX9_isHouse q1011 (isoO 73 rfl rfl rfl rfl) rfl rfl rfl ?_
    try simp (disch := omega) only [us_us, us_s, us_n, sv_74, sv_76, sv_n, sv_bk]
    refine V_ifne_b C dX9_bake_5 (fun c5 => ?_) (fun c5 => absurd (hh) c5)
    refine V_aload_n C dX9_bake_15 rfl ?_
    refine V_cv C hE dX9_bake_16 (c_X9_isGoing) kyX9_isGoing q1069 (isoO 73 rfl rfl rfl rfl) rfl rfl rfl ?_
    try simp (disch := omega) only [us_us, us_s, us_n, sv_74, sv_76, sv_n, sv_bk]
    refine V_ifne_b C dX9_bake_19 (fun c19 => ?_) (fun c19 => ?_)
    · refine V_aload_n C dX9_bake_31 rfl ?_
      refine V_ldc C dX9_bake_32 q1056 ?_
      refine V_cv C hE dX9_bake_34 (c_X9_finds (j := 4) (by decide +kernel) (by omega)) kyX9_finds q995 (isoO 73 rfl rfl rfl rfl) rfl rfl rfl ?_
      try simp (disch := omega) only [us_us, us_s, us_n, sv_74, sv_76, sv_n, sv_bk]
      exact V_iretN C dX9_bake_37 hT (PQ_fail (by decide +kernel) (by unfold S_bake; rw [if_pos hh, if_pos (by first | exact Or.inl c19 | exact Or.inr (Or.inr (by rw [← e9903]; exact c28)))]) (EqY.rf σ))
    · refine V_aload_n C dX9_bake_22 rfl ?_
      refine V_bipush C 96 dX9_bake_23 (by decide) ?_
      refine V_cv C hE dX9_bake_25 (c_X9_isTooLate hQ ⟨by decide, by decide⟩) kyX9_isTooLate q1082 (isoO 73 rfl rfl rfl rfl) rfl rfl rfl ?_
      try simp (disch := omega) only [us_us, us_s, us_n, sv_74, sv_76, sv_n, sv_bk]
      refine V_ifeq_b C dX9_bake_28 (fun c28 => ?_) (fun c28 => ?_)
      · refine V_aload_n C dX9_bake_38 rfl ?_
        refine V_cv0 C hE dX9_bake_39 (c_X9_savesV) kyX9_saves q1122 (isoO 73 rfl rfl rfl rfl) rfl rfl rfl ?_
        try simp (disch := omega) only [us_us, us_s, us_n, sv_74, sv_76, sv_n, sv_bk]
        refine V_aload_n C dX9_bake_42 rfl ?_
        refine V_iload_n C dX9_bake_43 rfl ?_
        refine V_cv0 C hE dX9_bake_44 (c_X9_sends (b := b) (by simp (disch := omega) only [us_us, us_s, us_n, sv_74, sv_76, sv_n, sv_bk]; exact hG.2.2.1) (by simp (disch := omega) only [us_us, us_s, us_n, sv_74, sv_76, sv_n, sv_bk]; exact hG.2.2.2) (by omega)) kyX9_sends q1073 (isoO 73 rfl rfl rfl rfl) rfl rfl rfl ?_
        try simp (disch := omega) only [us_us, us_s, us_n, sv_74, sv_76, sv_n, sv_bk]
        have hb5 := hB b hb
        refine V_iconst C 0 dX9_bake_47 (by decide) ?_
        refine V_istore_n C dX9_bake_48 rfl ?_
        have lp : ∀ (d i : Nat) , i + d = 97 → (∀ j, 0 ≤ j → j < i → (fun n => decide (hf (σ 74) b 5 < hf (passN n (goF (σ 74) b)) b 5)) j = false) → (hf (passN i (goF (σ 74) b)) b 5 = hf (σ 74) b 5 ∨ hf (passN i (goF (σ 74) b)) b 5 = hf (σ 74) b 5 + 1) → V x (eA E) (AP x E (us (svS σ) 74 (passN i (goF (σ 74) b)))) 0 0 49 [some (.ref (ad E 73)), some (.int (nI b)), some (.int (nI i))] [] := by
          intro d
          induction d with
          | zero =>
            intro i  hi' hp he
            have hN : i = 97 := by omega
            refine V_iload_n C dX9_bake_49 rfl ?_
            refine V_bipush C 97 dX9_bake_50 (by decide) ?_
            refine V_icmp_ge C dX9_bake_52 (fun c52 => ?_) (fun c52 => absurd (by rw [hN]; decide) c52)
            refine V_aload_n C dX9_bake_84 rfl ?_
            refine V_cv0 C hE dX9_bake_85 (c_X9_putsBack) kyX9_putsBack q1130 (isoO 73 rfl rfl rfl rfl) rfl rfl rfl ?_
            try simp (disch := omega) only [us_us, us_s, us_n, sv_74, sv_76, sv_n, sv_bk]
            refine V_iload_n C dX9_bake_88 rfl ?_
            refine V_bipush C 96 dX9_bake_89 (by decide) ?_
            refine V_icmp_le C dX9_bake_91 (fun c91 => absurd c91 (by rw [hN]; decide)) (fun c91 => ?_)
            refine V_aload_n C dX9_bake_94 rfl ?_
            refine V_ldc C dX9_bake_95 q1138 ?_
            refine V_cv C hE dX9_bake_97 (c_X9_finds (j := 3) (by decide +kernel) (by omega)) kyX9_finds q995 (isoO 73 rfl rfl rfl rfl) rfl rfl rfl ?_
            try simp (disch := omega) only [us_us, us_s, us_n, sv_74, sv_76, sv_n, sv_bk]
            refine V_goto C dX9_bake_100 ?_
            exact V_iretN C dX9_bake_104 hT (PQ_fail (by decide +kernel) (by unfold S_bake; rw [if_pos hh, if_neg (fun q => q.elim c19 (fun q => q.elim (isH_ne hh) (by rw [← e9903]; exact c28))), hk_nI hb8, fst_none 97 0 (fun j h1 h2 => hp j h1 (by omega))]; rfl) (EqY.sv σ))
          | succ d ih =>
            intro i  hi' hp he
            refine V_iload_n C dX9_bake_49 rfl ?_
            refine V_bipush C 97 dX9_bake_50 (by decide) ?_
            refine V_icmp_ge C dX9_bake_52 (fun c52 => absurd c52 (nI_ge (b := 97) (by omega) (by omega))) (fun c52 => ?_)
            refine V_aload_n C dX9_bake_55 rfl ?_
            refine V_iload_n C dX9_bake_56 rfl ?_
            refine V_iconst C 5 dX9_bake_57 (by decide) ?_
            refine V_cv C hE dX9_bake_58 (c_X9_its (i := b) (j := 5) rfl (by simp (disch := omega) only [us_us, us_s, us_n, sv_74, sv_76, sv_n, sv_bk]; rw [nh_passN, nh_goF]; exact hb) (by omega)) kyX9_its q1016 (isoO 73 rfl rfl rfl rfl) rfl rfl rfl ?_
            try simp (disch := omega) only [us_us, us_s, us_n, sv_74, sv_76, sv_n, sv_bk]
            refine V_aload_n C dX9_bake_61 rfl ?_
            refine V_get C dX9_bake_62 (rdO (j := 2) 73 rfl rfl rfl rfl rfl) in_X9 (by decide) q909 rfl ?_
            refine V_iload_n C dX9_bake_65 rfl ?_
            refine V_iconst C 5 dX9_bake_66 (by decide) ?_
            refine V_cs C hE dX9_bake_67 (c_X9_at rfl) kyX9_at q1004 rfl rfl rfl ?_
            try simp (disch := omega) only [us_us, us_s, us_n, sv_74, sv_76, sv_n, sv_bk]
            refine V_ialdN C (15+6*b+5) rfl (by omega) (by omega) dX9_bake_70 (rdMh 76 rfl rfl (by simp (disch := omega) only [us_us, us_s, us_n, sv_74, sv_76, sv_n, sv_bk]; assumption) 5 (by omega)) ?_
            try simp (disch := omega) only [us_us, us_s, us_n, sv_74, sv_76, sv_n, sv_bk]
            refine V_icmp_ne C dX9_bake_71 (fun c71 => ?_) (fun c71 => ?_)
            · refine V_aload_n C dX9_bake_84 rfl ?_
              refine V_cv0 C hE dX9_bake_85 (c_X9_putsBack) kyX9_putsBack q1130 (isoO 73 rfl rfl rfl rfl) rfl rfl rfl ?_
              try simp (disch := omega) only [us_us, us_s, us_n, sv_74, sv_76, sv_n, sv_bk]
              refine V_iload_n C dX9_bake_88 rfl ?_
              refine V_bipush C 96 dX9_bake_89 (by decide) ?_
              refine V_icmp_le C dX9_bake_91 (fun c91 => ?_) (fun c91 => absurd (nI_le (b := 96) (by omega) (by omega)) c91)
              refine V_iload_n C dX9_bake_103 rfl ?_
              exact V_iretN C dX9_bake_104 hT (PQ_rd (by unfold S_bake; rw [if_pos hh, if_neg (fun q => q.elim c19 (fun q => q.elim (isH_ne hh) (by rw [← e9903]; exact c28))), hk_nI hb8, fst_some 97 0 i (by omega) (by omega) hp (decide_eq_true (by rcases he with e | e; exact absurd e c71; rw [e]; exact i32_s hb5))]; rfl) (EqY.sv σ))
            · refine V_aload_n C dX9_bake_74 rfl ?_
              refine V_cv0 C hE dX9_bake_75 (c_X9_quarterP (by simp (disch := omega) only [us_us, us_s, us_n, sv_74, sv_76, sv_n, sv_bk]; exact Inv_passN (GV_goF hG (by omega)).1 i) (by simp (disch := omega) only [us_us, us_s, us_n, sv_74, sv_76, sv_n, sv_bk]; exact hz)) kyX9_quarter q1094 (isoO 73 rfl rfl rfl rfl) rfl rfl rfl ?_
              try simp (disch := omega) only [us_us, us_s, us_n, sv_74, sv_76, sv_n, sv_bk]
              refine V_iinc C 1 dX9_bake_78 rfl (by decide) rfl ?_
              refine V_goto C dX9_bake_81 ?_
              exact V_nx rfl (by simp [← nI_1] <;> rfl) (ih (i + 1) (by omega) (fal_s hp (fun q => absurd (of_decide_eq_true q) (by rw [c71]; exact Int32.lt_irrefl))) (by rw [← c71]; exact brd_step (GV_passN (GV_goF hG (by omega)) i).1.1 (by rw [nh_passN, nh_goF]; exact hb)))
        exact lp 97 0 (by omega) (fun j h1 h2 => absurd h2 (by omega)) (Or.inl (goF_hf hb8 (by omega)))
      · refine V_aload_n C dX9_bake_31 rfl ?_
        refine V_ldc C dX9_bake_32 q1056 ?_
        refine V_cv C hE dX9_bake_34 (c_X9_finds (j := 4) (by decide +kernel) (by omega)) kyX9_finds q995 (isoO 73 rfl rfl rfl rfl) rfl rfl rfl ?_
        try simp (disch := omega) only [us_us, us_s, us_n, sv_74, sv_76, sv_n, sv_bk]
        exact V_iretN C dX9_bake_37 hT (PQ_fail (by decide +kernel) (by unfold S_bake; rw [if_pos hh, if_pos (by first | exact Or.inl c19 | exact Or.inr (Or.inr (by rw [← e9903]; exact c28)))]) (EqY.rf σ))
  · refine V_cv C hE dX9_bake_2 (c_X9_isHouse) kyX9_isHouse q1011 (isoO 73 rfl rfl rfl rfl) rfl rfl rfl ?_
    try simp (disch := omega) only [us_us, us_s, us_n, sv_74, sv_76, sv_n, sv_bk]
    refine V_ifne_b C dX9_bake_5 (fun c5 => absurd c5 (hh)) (fun c5 => ?_)
    refine V_aload_n C dX9_bake_8 rfl ?_
    refine V_ldc C dX9_bake_9 q994 ?_
    refine V_cv C hE dX9_bake_11 (c_X9_finds (j := 0) (by decide +kernel) (by omega)) kyX9_finds q995 (isoO 73 rfl rfl rfl rfl) rfl rfl rfl ?_
    try simp (disch := omega) only [us_us, us_s, us_n, sv_74, sv_76, sv_n, sv_bk]
    exact V_iretN C dX9_bake_14 hT (PQ_fail (by decide +kernel) (by unfold S_bake; rw [if_neg hh]) (EqY.rf σ))

theorem c_X9_best {l : Launch} {E : En} {σ : Sg} {p0 : Int32}  (hG : GV (σ 74)) (hQ : inP (σ 74 0) 0 9999) (hz : σ 73 5 = 0) : MN l yX9_best cX9_best 6 (some .int) rmX9_best E [.ref (ad E 73), .int p0] σ (PQ σ (S_best (σ 74) p0) (σ)) := by
  refine MN_of (by decide +kernel) rfl fun x C hE hT hcan => ?_
  have C : CX x cX9_best RX9 rmX9_best := C
  have h8 : nh (σ 74) ≤ 8 := (hcan.2.1 74 (by omega) (by omega)).2.1
  have hn1 := (hcan.2.1 74 (by omega) (by omega)).1
  refine V_L (L' := [some (.ref (ad E 73)), some (.int p0), none, none, none, none]) rfl ?_
  refine V_iload_n C dX9_best_0 rfl ?_
  refine V_cs C hE dX9_best_1 (c_X9_isSpan) kyX9_isSpan q1147 rfl rfl rfl ?_
  try simp (disch := omega) only [us_us, us_s, us_n, sv_74, sv_76, sv_n, sv_bk]
  refine V_ifne_b C dX9_best_4 (fun c4 => ?_) (fun c4 => ?_)
  · refine V_aload_n C dX9_best_14 rfl ?_
    refine V_iload_n C dX9_best_15 rfl ?_
    refine V_cv C hE dX9_best_16 (c_X9_isFixed hQ (lateP c4 (by decide))) kyX9_isFixed q1150 (isoO 73 rfl rfl rfl rfl) rfl rfl rfl ?_
    try simp (disch := omega) only [us_us, us_s, us_n, sv_74, sv_76, sv_n, sv_bk]
    refine V_ifeq_b C dX9_best_19 (fun c19 => ?_) (fun c19 => ?_)
    · obtain ⟨q, rfl, hq⟩ := i32_le (m := 96) (by omega) (Int32.le_trans (by decide) c4.1) c4.2
      refine V_aload_n C dX9_best_29 rfl ?_
      refine V_cv0 C hE dX9_best_30 (c_X9_savesV) kyX9_saves q1122 (isoO 73 rfl rfl rfl rfl) rfl rfl rfl ?_
      try simp (disch := omega) only [us_us, us_s, us_n, sv_74, sv_76, sv_n, sv_bk]
      refine V_iconst C 0 dX9_best_33 (by decide) ?_
      refine V_istore_n C dX9_best_34 rfl ?_
      refine V_iconst C (-1) dX9_best_35 (by decide) ?_
      refine V_istore_n C dX9_best_36 rfl ?_
      refine V_iconst C 0 dX9_best_37 (by decide) ?_
      refine V_istore C dX9_best_38 rfl ?_
      have lp : ∀ (d i : Nat) , i + d = nh (σ 74) → V x (eA E) (AP x E (svS σ)) 0 0 40 [some (.ref (ad E 73)), some (.int (nI q)), some (.int (amax (fun i => lstF (passN q (goF (σ 74) i))) i).1), some (.int (amax (fun i => lstF (passN q (goF (σ 74) i))) i).2), some (.int (nI i)), none] [] := by
        intro d
        induction d with
        | zero =>
          intro i  hi' 
          have hN : i = nh (σ 74) := by omega
          refine V_iload C dX9_best_40 rfl ?_
          refine V_aload_n C dX9_best_42 rfl ?_
          refine V_get C dX9_best_43 (rdO (j := 0) 73 rfl rfl rfl rfl rfl) in_X9 (by decide) q907 rfl ?_
          refine V_iconst C 1 dX9_best_46 (by decide) ?_
          refine V_iald C 1 rfl rfl rfl dX9_best_47 (rdM 74 1 rfl rfl rfl) ?_
          try simp (disch := omega) only [us_us, us_s, us_n, sv_74, sv_76, sv_n, sv_bk]
          refine V_icmp_ge C dX9_best_48 (fun c48 => ?_) (fun c48 => absurd (by rw [hn1, hN] <;> exact nI_le (Nat.le_refl _) (by omega)) c48)
          refine V_iload_n C dX9_best_104 rfl ?_
          exact V_iretN C dX9_best_105 hT (PQ_rd (by unfold S_best; rw [if_pos c4, if_neg c19, hk_n (show q < 2 ^ 31 by omega), hN]) (EqY.sv σ))
        | succ d ih =>
          intro i  hi' 
          refine V_iload C dX9_best_40 rfl ?_
          refine V_aload_n C dX9_best_42 rfl ?_
          refine V_get C dX9_best_43 (rdO (j := 0) 73 rfl rfl rfl rfl rfl) in_X9 (by decide) q907 rfl ?_
          refine V_iconst C 1 dX9_best_46 (by decide) ?_
          refine V_iald C 1 rfl rfl rfl dX9_best_47 (rdM 74 1 rfl rfl rfl) ?_
          try simp (disch := omega) only [us_us, us_s, us_n, sv_74, sv_76, sv_n, sv_bk]
          refine V_icmp_ge C dX9_best_48 (fun c48 => absurd c48 (by rw [hn1]; exact nI_ge (by omega) (by omega))) (fun c48 => ?_)
          refine V_aload_n C dX9_best_51 rfl ?_
          refine V_iload C dX9_best_52 rfl ?_
          refine V_cv0 C hE dX9_best_54 (c_X9_sends (b := i) (by simp (disch := omega) only [us_us, us_s, us_n, sv_74, sv_76, sv_n, sv_bk]; exact hG.2.2.1) (by simp (disch := omega) only [us_us, us_s, us_n, sv_74, sv_76, sv_n, sv_bk]; exact hG.2.2.2) (by omega)) kyX9_sends q1073 (isoO 73 rfl rfl rfl rfl) rfl rfl rfl ?_
          try simp (disch := omega) only [us_us, us_s, us_n, sv_74, sv_76, sv_n, sv_bk]
          refine V_aload_n C dX9_best_57 rfl ?_
          refine V_iload_n C dX9_best_58 rfl ?_
          refine V_cv0 C hE dX9_best_59 (c_X9_quartersGo (n := q) (by simp (disch := omega) only [us_us, us_s, us_n, sv_74, sv_76, sv_n, sv_bk]; exact (GV_goF hG (by omega)).1) (by simp (disch := omega) only [us_us, us_s, us_n, sv_74, sv_76, sv_n, sv_bk]; exact hz) (by omega)) kyX9_quartersGo q1090 (isoO 73 rfl rfl rfl rfl) rfl rfl rfl ?_
          try simp (disch := omega) only [us_us, us_s, us_n, sv_74, sv_76, sv_n, sv_bk]
          refine V_aload_n C dX9_best_62 rfl ?_
          refine V_cv C hE dX9_best_63 (c_X9_leastWarmth) kyX9_leastWarmth q1126 (isoO 73 rfl rfl rfl rfl) rfl rfl rfl ?_
          try simp (disch := omega) only [us_us, us_s, us_n, sv_74, sv_76, sv_n, sv_bk]
          refine V_istore C dX9_best_66 rfl ?_
          refine V_aload_n C dX9_best_68 rfl ?_
          refine V_cv0 C hE dX9_best_69 (c_X9_putsBack) kyX9_putsBack q1130 (isoO 73 rfl rfl rfl rfl) rfl rfl rfl ?_
          try simp (disch := omega) only [us_us, us_s, us_n, sv_74, sv_76, sv_n, sv_bk]
          refine V_iload C dX9_best_72 rfl ?_
          refine V_iload_n C dX9_best_74 rfl ?_
          by_cases hv : lstF (passN q (goF (σ 74) i)) ≤ (amax (fun i => lstF (passN q (goF (σ 74) i))) i).2
          · refine V_icmp_le C dX9_best_75 (fun c75 => ?_) (fun c75 => absurd (hv) c75)
            refine V_iload_n C dX9_best_83 rfl ?_
            refine V_istore_n C dX9_best_84 rfl ?_
            refine V_iload C dX9_best_85 rfl ?_
            refine V_iload_n C dX9_best_87 rfl ?_
            refine V_icmp_le C dX9_best_88 (fun c88 => ?_) (fun c88 => absurd (hv) c88)
            refine V_iload_n C dX9_best_96 rfl ?_
            refine V_istore_n C dX9_best_97 rfl ?_
            refine V_forget 5 ?_
            refine V_iinc C 1 dX9_best_98 rfl (by decide) rfl ?_
            refine V_goto C dX9_best_101 ?_
            exact V_nx rfl (by first | (rw [amax_k (g := (fun i => lstF (passN q (goF (σ 74) i)))) hv]; simp [← nI_1] <;> rfl) | (rw [amax_s (g := (fun i => lstF (passN q (goF (σ 74) i)))) hv]; simp [← nI_1] <;> rfl)) (ih (i + 1) (by omega))
          · refine V_icmp_le C dX9_best_75 (fun c75 => absurd c75 (hv)) (fun c75 => ?_)
            refine V_iload C dX9_best_78 rfl ?_
            refine V_goto C dX9_best_80 ?_
            refine V_istore_n C dX9_best_84 rfl ?_
            refine V_iload C dX9_best_85 rfl ?_
            refine V_iload_n C dX9_best_87 rfl ?_
            refine V_icmp_le C dX9_best_88 (fun c88 => absurd c88 (hv)) (fun c88 => ?_)
            refine V_iload C dX9_best_91 rfl ?_
            refine V_goto C dX9_best_93 ?_
            refine V_istore_n C dX9_best_97 rfl ?_
            refine V_forget 5 ?_
            refine V_iinc C 1 dX9_best_98 rfl (by decide) rfl ?_
            refine V_goto C dX9_best_101 ?_
            exact V_nx rfl (by first | (rw [amax_k (g := (fun i => lstF (passN q (goF (σ 74) i)))) hv]; simp [← nI_1] <;> rfl) | (rw [amax_s (g := (fun i => lstF (passN q (goF (σ 74) i)))) hv]; simp [← nI_1] <;> rfl)) (ih (i + 1) (by omega))
      exact lp (nh (σ 74)) 0 (by omega)
    · refine V_aload_n C dX9_best_22 rfl ?_
      refine V_ldc C dX9_best_23 q1056 ?_
      refine V_cv C hE dX9_best_25 (c_X9_finds (j := 4) (by decide +kernel) (by omega)) kyX9_finds q995 (isoO 73 rfl rfl rfl rfl) rfl rfl rfl ?_
      try simp (disch := omega) only [us_us, us_s, us_n, sv_74, sv_76, sv_n, sv_bk]
      exact V_iretN C dX9_best_28 hT (PQ_fail (by decide +kernel) (by unfold S_best; all_goals (first | rw [if_pos c4] | rw [if_neg c4]); all_goals (first | rw [if_pos c19] | rw [if_neg c19])) (EqY.rf σ))
  · refine V_aload_n C dX9_best_7 rfl ?_
    refine V_ldc C dX9_best_8 q994 ?_
    refine V_cv C hE dX9_best_10 (c_X9_finds (j := 0) (by decide +kernel) (by omega)) kyX9_finds q995 (isoO 73 rfl rfl rfl rfl) rfl rfl rfl ?_
    try simp (disch := omega) only [us_us, us_s, us_n, sv_74, sv_76, sv_n, sv_bk]
    exact V_iretN C dX9_best_13 hT (PQ_fail (by decide +kernel) (by unfold S_best; all_goals (first | rw [if_pos c4] | rw [if_neg c4])) (EqY.rf σ))

def andM (g : Nat → Int32) : Nat → Int32
  | 0 => 255
  | i + 1 => andM g i &&& g i
theorem andM_eq (g : Nat → Int32) : ∀ i, andM g i = 255 &&& andN g i := by
  intro i
  induction i with
  | zero => show (255 : Int32) = 255 &&& (-1); decide
  | succ i ih => show andM g i &&& g i = 255 &&& (andN g i &&& g i); rw [ih, Int32.and_assoc]
theorem andN_255 {g : Nat → Int32} (h : ∀ j, g j &&& 255 = g j) : ∀ i, 1 ≤ i → andM g i = andN g i := by
  intro i hi
  obtain ⟨k, rfl⟩ : ∃ k, i = k + 1 := ⟨i - 1, by omega⟩
  rw [andM_eq]
  show 255 &&& (andN g k &&& g k) = andN g k &&& g k
  rw [Int32.and_comm, Int32.and_assoc, h k]
theorem or_255 (a b : Int32) : (a ||| b) &&& 255 = (a &&& 255) ||| (b &&& 255) := by
  apply Int32.toBitVec_inj.mp
  simp only [Int32.toBitVec_and, Int32.toBitVec_or]
  ext i hi
  simp [Bool.and_or_distrib_right]
theorem sh_255 {i : Nat} (h : i < 8) : ((1 : Int32) <<< (nI i &&& 31)) &&& 255 = (1 : Int32) <<< (nI i &&& 31) := by
  rcases (show i = 0 ∨ i = 1 ∨ i = 2 ∨ i = 3 ∨ i = 4 ∨ i = 5 ∨ i = 6 ∨ i = 7 by omega) with rfl | rfl | rfl | rfl | rfl | rfl | rfl | rfl <;> decide +kernel
theorem setN_255 {f : Nat → Int32} : ∀ i, i ≤ 8 → setN f i &&& 255 = setN f i := by
  intro i
  induction i with
  | zero => intro _; show (0 : Int32) &&& 255 = 0; decide
  | succ i ih =>
    intro hi
    unfold setN
    split
    · rw [or_255, ih (by omega), sh_255 (by omega)]
    · exact ih (by omega)
theorem setF_255 {f : Nat → Int32} (h : nh f ≤ 8) : setF f &&& 255 = setF f := setN_255 _ h

theorem c_X9_lost {l : Launch} {E : En} {σ : Sg} {p0 : Int32}  (hG : GV (σ 74)) (hQ : inP (σ 74 0) 0 9999) (hz : σ 73 5 = 0) : MN l yX9_lost cX9_lost 4 (some .int) rmX9_lost E [.ref (ad E 73), .int p0] σ (PQ σ (S_lost (σ 74) p0) (σ)) := by
  refine MN_of (by decide +kernel) rfl fun x C hE hT hcan => ?_
  have C : CX x cX9_lost RX9 rmX9_lost := C
  have h8 : nh (σ 74) ≤ 8 := (hcan.2.1 74 (by omega) (by omega)).2.1
  have hn1 := (hcan.2.1 74 (by omega) (by omega)).1
  refine V_L (L' := [some (.ref (ad E 73)), some (.int p0), none, none]) rfl ?_
  refine V_iload_n C dX9_lost_0 rfl ?_
  refine V_cs C hE dX9_lost_1 (c_X9_isSpan) kyX9_isSpan q1147 rfl rfl rfl ?_
  try simp (disch := omega) only [us_us, us_s, us_n, sv_74, sv_76, sv_n, sv_bk]
  refine V_ifne_b C dX9_lost_4 (fun c4 => ?_) (fun c4 => ?_)
  · refine V_aload_n C dX9_lost_14 rfl ?_
    refine V_iload_n C dX9_lost_15 rfl ?_
    refine V_cv C hE dX9_lost_16 (c_X9_isFixed hQ (lateP c4 (by decide))) kyX9_isFixed q1150 (isoO 73 rfl rfl rfl rfl) rfl rfl rfl ?_
    try simp (disch := omega) only [us_us, us_s, us_n, sv_74, sv_76, sv_n, sv_bk]
    refine V_ifeq_b C dX9_lost_19 (fun c19 => ?_) (fun c19 => ?_)
    · obtain ⟨q, rfl, hq⟩ := i32_le (m := 96) (by omega) (Int32.le_trans (by decide) c4.1) c4.2
      have hn0 : 1 ≤ nh (σ 74) := by
        rcases Nat.eq_zero_or_pos (nh (σ 74)) with z | z
        · exact absurd (show σ 74 1 = 0 by rw [hn1, z]; rfl) (fun e => c19 (Or.inr (Or.inl e)))
        · exact z
      refine V_aload_n C dX9_lost_29 rfl ?_
      refine V_cv0 C hE dX9_lost_30 (c_X9_savesV) kyX9_saves q1122 (isoO 73 rfl rfl rfl rfl) rfl rfl rfl ?_
      try simp (disch := omega) only [us_us, us_s, us_n, sv_74, sv_76, sv_n, sv_bk]
      refine V_sipush C 255 dX9_lost_33 (by decide) ?_
      refine V_istore_n C dX9_lost_36 rfl ?_
      refine V_iconst C 0 dX9_lost_37 (by decide) ?_
      refine V_istore_n C dX9_lost_38 rfl ?_
      have lp : ∀ (d i : Nat) , i + d = nh (σ 74) → V x (eA E) (AP x E (svS σ)) 0 0 39 [some (.ref (ad E 73)), some (.int (nI q)), some (.int (andM (fun i => setF (passN q (goF (σ 74) i))) i)), some (.int (nI i))] [] := by
        intro d
        induction d with
        | zero =>
          intro i  hi' 
          have hN : i = nh (σ 74) := by omega
          refine V_iload_n C dX9_lost_39 rfl ?_
          refine V_aload_n C dX9_lost_40 rfl ?_
          refine V_get C dX9_lost_41 (rdO (j := 0) 73 rfl rfl rfl rfl rfl) in_X9 (by decide) q907 rfl ?_
          refine V_iconst C 1 dX9_lost_44 (by decide) ?_
          refine V_iald C 1 rfl rfl rfl dX9_lost_45 (rdM 74 1 rfl rfl rfl) ?_
          try simp (disch := omega) only [us_us, us_s, us_n, sv_74, sv_76, sv_n, sv_bk]
          refine V_icmp_ge C dX9_lost_46 (fun c46 => ?_) (fun c46 => absurd (by rw [hn1, hN] <;> exact nI_le (Nat.le_refl _) (by omega)) c46)
          refine V_iload_n C dX9_lost_76 rfl ?_
          exact V_iretN C dX9_lost_77 hT (PQ_rd (by unfold S_lost; rw [if_pos c4, if_neg c19, hk_n (show q < 2 ^ 31 by omega), hN, andN_255 (fun j => setF_255 (by rw [nh_passN, nh_goF]; exact h8)) _ hn0]) (EqY.sv σ))
        | succ d ih =>
          intro i  hi' 
          refine V_iload_n C dX9_lost_39 rfl ?_
          refine V_aload_n C dX9_lost_40 rfl ?_
          refine V_get C dX9_lost_41 (rdO (j := 0) 73 rfl rfl rfl rfl rfl) in_X9 (by decide) q907 rfl ?_
          refine V_iconst C 1 dX9_lost_44 (by decide) ?_
          refine V_iald C 1 rfl rfl rfl dX9_lost_45 (rdM 74 1 rfl rfl rfl) ?_
          try simp (disch := omega) only [us_us, us_s, us_n, sv_74, sv_76, sv_n, sv_bk]
          refine V_icmp_ge C dX9_lost_46 (fun c46 => absurd c46 (by rw [hn1]; exact nI_ge (by omega) (by omega))) (fun c46 => ?_)
          refine V_aload_n C dX9_lost_49 rfl ?_
          refine V_iload_n C dX9_lost_50 rfl ?_
          refine V_cv0 C hE dX9_lost_51 (c_X9_sends (b := i) (by simp (disch := omega) only [us_us, us_s, us_n, sv_74, sv_76, sv_n, sv_bk]; exact hG.2.2.1) (by simp (disch := omega) only [us_us, us_s, us_n, sv_74, sv_76, sv_n, sv_bk]; exact hG.2.2.2) (by omega)) kyX9_sends q1073 (isoO 73 rfl rfl rfl rfl) rfl rfl rfl ?_
          try simp (disch := omega) only [us_us, us_s, us_n, sv_74, sv_76, sv_n, sv_bk]
          refine V_aload_n C dX9_lost_54 rfl ?_
          refine V_iload_n C dX9_lost_55 rfl ?_
          refine V_cv0 C hE dX9_lost_56 (c_X9_quartersGo (n := q) (by simp (disch := omega) only [us_us, us_s, us_n, sv_74, sv_76, sv_n, sv_bk]; exact (GV_goF hG (by omega)).1) (by simp (disch := omega) only [us_us, us_s, us_n, sv_74, sv_76, sv_n, sv_bk]; exact hz) (by omega)) kyX9_quartersGo q1090 (isoO 73 rfl rfl rfl rfl) rfl rfl rfl ?_
          try simp (disch := omega) only [us_us, us_s, us_n, sv_74, sv_76, sv_n, sv_bk]
          refine V_iload_n C dX9_lost_59 rfl ?_
          refine V_aload_n C dX9_lost_60 rfl ?_
          refine V_cv C hE dX9_lost_61 (c_X9_coldSet) kyX9_coldSet q1110 (isoO 73 rfl rfl rfl rfl) rfl rfl rfl ?_
          try simp (disch := omega) only [us_us, us_s, us_n, sv_74, sv_76, sv_n, sv_bk]
          refine V_iand C dX9_lost_64 ?_
          refine V_istore_n C dX9_lost_65 rfl ?_
          refine V_aload_n C dX9_lost_66 rfl ?_
          refine V_cv0 C hE dX9_lost_67 (c_X9_putsBack) kyX9_putsBack q1130 (isoO 73 rfl rfl rfl rfl) rfl rfl rfl ?_
          try simp (disch := omega) only [us_us, us_s, us_n, sv_74, sv_76, sv_n, sv_bk]
          refine V_iinc C 1 dX9_lost_70 rfl (by decide) rfl ?_
          refine V_goto C dX9_lost_73 ?_
          exact V_nx rfl (by simp [andM, ← nI_1] <;> rfl) (ih (i + 1) (by omega))
      exact lp (nh (σ 74)) 0 (by omega)
    · refine V_aload_n C dX9_lost_22 rfl ?_
      refine V_ldc C dX9_lost_23 q1056 ?_
      refine V_cv C hE dX9_lost_25 (c_X9_finds (j := 4) (by decide +kernel) (by omega)) kyX9_finds q995 (isoO 73 rfl rfl rfl rfl) rfl rfl rfl ?_
      try simp (disch := omega) only [us_us, us_s, us_n, sv_74, sv_76, sv_n, sv_bk]
      exact V_iretN C dX9_lost_28 hT (PQ_fail (by decide +kernel) (by unfold S_lost; all_goals (first | rw [if_pos c4] | rw [if_neg c4]); all_goals (first | rw [if_pos c19] | rw [if_neg c19])) (EqY.rf σ))
  · refine V_aload_n C dX9_lost_7 rfl ?_
    refine V_ldc C dX9_lost_8 q994 ?_
    refine V_cv C hE dX9_lost_10 (c_X9_finds (j := 0) (by decide +kernel) (by omega)) kyX9_finds q995 (isoO 73 rfl rfl rfl rfl) rfl rfl rfl ?_
    try simp (disch := omega) only [us_us, us_s, us_n, sv_74, sv_76, sv_n, sv_bk]
    exact V_iretN C dX9_lost_13 hT (PQ_fail (by decide +kernel) (by unfold S_lost; all_goals (first | rw [if_pos c4] | rw [if_neg c4])) (EqY.rf σ))

theorem c_X9_straw {l : Launch} {E : En} {σ : Sg} {p0 : Int32}  (hG : GV (σ 74)) (hQ : inP (σ 74 0) 0 9999) (hz : σ 73 5 = 0) : MN l yX9_straw cX9_straw 7 (some .int) rmX9_straw E [.ref (ad E 73), .int p0] σ (PQ σ (S_straw (σ 74) p0) (σ)) := by
  refine MN_of (by decide +kernel) rfl fun x C hE hT hcan => ?_
  have C : CX x cX9_straw RX9 rmX9_straw := C
  have h8 : nh (σ 74) ≤ 8 := (hcan.2.1 74 (by omega) (by omega)).2.1
  have hn1 := (hcan.2.1 74 (by omega) (by omega)).1
  refine V_L (L' := [some (.ref (ad E 73)), some (.int p0), none, none, none, none, none]) rfl ?_
  refine V_iload_n C dX9_straw_0 rfl ?_
  refine V_cs C hE dX9_straw_1 (c_X9_isSpan) kyX9_isSpan q1147 rfl rfl rfl ?_
  try simp (disch := omega) only [us_us, us_s, us_n, sv_74, sv_76, sv_n, sv_bk]
  refine V_ifne_b C dX9_straw_4 (fun c4 => ?_) (fun c4 => ?_)
  · refine V_aload_n C dX9_straw_14 rfl ?_
    refine V_get C dX9_straw_15 (rdO (j := 0) 73 rfl rfl rfl rfl rfl) in_X9 (by decide) q907 rfl ?_
    refine V_iconst C 1 dX9_straw_18 (by decide) ?_
    refine V_iald C 1 rfl rfl rfl dX9_straw_19 (rdM 74 1 rfl rfl rfl) ?_
    refine V_if_eq C dX9_straw_20 (fun c20 => ?_) (fun c20 => ?_)
    · refine V_aload_n C dX9_straw_31 rfl ?_
      refine V_ldc C dX9_straw_32 q1056 ?_
      refine V_cv C hE dX9_straw_34 (c_X9_finds (j := 4) (by decide +kernel) (by omega)) kyX9_finds q995 (isoO 73 rfl rfl rfl rfl) rfl rfl rfl ?_
      try simp (disch := omega) only [us_us, us_s, us_n, sv_74, sv_76, sv_n, sv_bk]
      exact V_iretN C dX9_straw_37 hT (PQ_fail (by decide +kernel) (by unfold S_straw; all_goals (first | rw [if_pos c4] | rw [if_neg c4]); all_goals (first | rw [if_pos c20] | rw [if_neg c20])) (EqY.rf σ))
    · refine V_aload_n C dX9_straw_23 rfl ?_
      refine V_iload_n C dX9_straw_24 rfl ?_
      refine V_cv C hE dX9_straw_25 (c_X9_isTooLate hQ (lateP c4 (by decide))) kyX9_isTooLate q1082 (isoO 73 rfl rfl rfl rfl) rfl rfl rfl ?_
      try simp (disch := omega) only [us_us, us_s, us_n, sv_74, sv_76, sv_n, sv_bk]
      refine V_ifeq_b C dX9_straw_28 (fun c28 => ?_) (fun c28 => ?_)
      · obtain ⟨q, rfl, hq⟩ := i32_le (m := 96) (by omega) (Int32.le_trans (by decide) c4.1) c4.2
        refine V_aload_n C dX9_straw_38 rfl ?_
        refine V_cv0 C hE dX9_straw_39 (c_X9_savesV) kyX9_saves q1122 (isoO 73 rfl rfl rfl rfl) rfl rfl rfl ?_
        try simp (disch := omega) only [us_us, us_s, us_n, sv_74, sv_76, sv_n, sv_bk]
        refine V_iconst C 0 dX9_straw_42 (by decide) ?_
        refine V_istore_n C dX9_straw_43 rfl ?_
        refine V_iconst C (-1) dX9_straw_44 (by decide) ?_
        refine V_istore_n C dX9_straw_45 rfl ?_
        refine V_iconst C 0 dX9_straw_46 (by decide) ?_
        refine V_istore C dX9_straw_47 rfl ?_
        have lp : ∀ (d i : Nat) , i + d = nh (σ 74) → V x (eA E) (AP x E (svS σ)) 0 0 49 [some (.ref (ad E 73)), some (.int (nI q)), some (.int (amax (fun i => lstF (passN q (uh (σ 74) i 2 (wal5 (hf (σ 74) i 2))))) i).1), some (.int (amax (fun i => lstF (passN q (uh (σ 74) i 2 (wal5 (hf (σ 74) i 2))))) i).2), some (.int (nI i)), none, none] [] := by
          intro d
          induction d with
          | zero =>
            intro i  hi' 
            have hN : i = nh (σ 74) := by omega
            refine V_iload C dX9_straw_49 rfl ?_
            refine V_aload_n C dX9_straw_51 rfl ?_
            refine V_get C dX9_straw_52 (rdO (j := 0) 73 rfl rfl rfl rfl rfl) in_X9 (by decide) q907 rfl ?_
            refine V_iconst C 1 dX9_straw_55 (by decide) ?_
            refine V_iald C 1 rfl rfl rfl dX9_straw_56 (rdM 74 1 rfl rfl rfl) ?_
            try simp (disch := omega) only [us_us, us_s, us_n, sv_74, sv_76, sv_n, sv_bk]
            refine V_icmp_ge C dX9_straw_57 (fun c57 => ?_) (fun c57 => absurd (by rw [hn1, hN] <;> exact nI_le (Nat.le_refl _) (by omega)) c57)
            refine V_iload_n C dX9_straw_143 rfl ?_
            exact V_iretN C dX9_straw_144 hT (PQ_rd (by unfold S_straw; rw [if_pos c4, if_neg c20, if_neg c28, hk_n (show q < 2 ^ 31 by omega), hN]) (EqY.sv σ))
          | succ d ih =>
            intro i  hi' 
            refine V_iload C dX9_straw_49 rfl ?_
            refine V_aload_n C dX9_straw_51 rfl ?_
            refine V_get C dX9_straw_52 (rdO (j := 0) 73 rfl rfl rfl rfl rfl) in_X9 (by decide) q907 rfl ?_
            refine V_iconst C 1 dX9_straw_55 (by decide) ?_
            refine V_iald C 1 rfl rfl rfl dX9_straw_56 (rdM 74 1 rfl rfl rfl) ?_
            try simp (disch := omega) only [us_us, us_s, us_n, sv_74, sv_76, sv_n, sv_bk]
            refine V_icmp_ge C dX9_straw_57 (fun c57 => absurd c57 (by rw [hn1]; exact nI_ge (by omega) (by omega))) (fun c57 => ?_)
            refine V_aload_n C dX9_straw_60 rfl ?_
            refine V_iload C dX9_straw_61 rfl ?_
            refine V_iconst C 2 dX9_straw_63 (by decide) ?_
            refine V_cv C hE dX9_straw_64 (c_X9_its (i := i) (j := 2) rfl (by simp (disch := omega) only [us_us, us_s, us_n, sv_74, sv_76, sv_n, sv_bk]; omega) (by omega)) kyX9_its q1016 (isoO 73 rfl rfl rfl rfl) rfl rfl rfl ?_
            try simp (disch := omega) only [us_us, us_s, us_n, sv_74, sv_76, sv_n, sv_bk]
            refine V_iconst C 5 dX9_straw_67 (by decide) ?_
            refine V_iadd C dX9_straw_68 ?_
            refine V_istore C dX9_straw_69 rfl ?_
            refine V_aload_n C dX9_straw_71 rfl ?_
            refine V_get C dX9_straw_72 (rdO (j := 0) 73 rfl rfl rfl rfl rfl) in_X9 (by decide) q907 rfl ?_
            refine V_iload C dX9_straw_75 rfl ?_
            refine V_iconst C 2 dX9_straw_77 (by decide) ?_
            refine V_cs C hE dX9_straw_78 (c_X9_at rfl) kyX9_at q1004 rfl rfl rfl ?_
            try simp (disch := omega) only [us_us, us_s, us_n, sv_74, sv_76, sv_n, sv_bk]
            refine V_iload C dX9_straw_81 rfl ?_
            refine V_bipush C 40 dX9_straw_83 (by decide) ?_
            refine V_icmp_ge C dX9_straw_85 (fun c85 => ?_) (fun c85 => ?_)
            · refine V_bipush C 40 dX9_straw_93 (by decide) ?_
              refine V_iastN C (15+6*i+2) rfl (by omega) (by omega) dX9_straw_95 (wrMh 74 rfl rfl (by simp (disch := omega) only [us_us, us_s, us_n, sv_74, sv_76, sv_n, sv_bk]; omega) 2 (by omega)) ?_
              try simp (disch := omega) only [us_us, us_s, us_n, sv_74, sv_76, sv_n, sv_bk]
              refine V_nx (σ' := us (svS σ) 74 (uh (σ 74) i 2 (wal5 (hf (σ 74) i 2)))) (by unfold wal5; first | rw [if_neg (Int32.not_lt.mpr c85)] | rw [if_pos (Int32.not_le.mp c85)]) rfl ?_
              refine V_aload_n C dX9_straw_96 rfl ?_
              refine V_iload_n C dX9_straw_97 rfl ?_
              refine V_cv0 C hE dX9_straw_98 (c_X9_quartersGo (n := q) (by simp (disch := omega) only [us_us, us_s, us_n, sv_74, sv_76, sv_n, sv_bk]; exact Inv_uh2 hG.1 (by omega) (wal5_b (hG.1.2.1 i (by omega)).2.1)) (by simp (disch := omega) only [us_us, us_s, us_n, sv_74, sv_76, sv_n, sv_bk]; exact hz) (by omega)) kyX9_quartersGo q1090 (isoO 73 rfl rfl rfl rfl) rfl rfl rfl ?_
              try simp (disch := omega) only [us_us, us_s, us_n, sv_74, sv_76, sv_n, sv_bk]
              refine V_aload_n C dX9_straw_101 rfl ?_
              refine V_cv C hE dX9_straw_102 (c_X9_leastWarmth) kyX9_leastWarmth q1126 (isoO 73 rfl rfl rfl rfl) rfl rfl rfl ?_
              try simp (disch := omega) only [us_us, us_s, us_n, sv_74, sv_76, sv_n, sv_bk]
              refine V_istore C dX9_straw_105 rfl ?_
              refine V_aload_n C dX9_straw_107 rfl ?_
              refine V_cv0 C hE dX9_straw_108 (c_X9_putsBack) kyX9_putsBack q1130 (isoO 73 rfl rfl rfl rfl) rfl rfl rfl ?_
              try simp (disch := omega) only [us_us, us_s, us_n, sv_74, sv_76, sv_n, sv_bk]
              refine V_iload C dX9_straw_111 rfl ?_
              refine V_iload_n C dX9_straw_113 rfl ?_
              by_cases hv : lstF (passN q (uh (σ 74) i 2 (wal5 (hf (σ 74) i 2)))) ≤ (amax (fun i => lstF (passN q (uh (σ 74) i 2 (wal5 (hf (σ 74) i 2))))) i).2
              · refine V_icmp_le C dX9_straw_114 (fun c114 => ?_) (fun c114 => absurd (hv) c114)
                refine V_iload_n C dX9_straw_122 rfl ?_
                refine V_istore_n C dX9_straw_123 rfl ?_
                refine V_iload C dX9_straw_124 rfl ?_
                refine V_iload_n C dX9_straw_126 rfl ?_
                refine V_icmp_le C dX9_straw_127 (fun c127 => ?_) (fun c127 => absurd (hv) c127)
                refine V_iload_n C dX9_straw_135 rfl ?_
                refine V_istore_n C dX9_straw_136 rfl ?_
                refine V_forget 5 ?_
                refine V_forget 6 ?_
                refine V_iinc C 1 dX9_straw_137 rfl (by decide) rfl ?_
                refine V_goto C dX9_straw_140 ?_
                exact V_nx rfl (by first | (rw [amax_k (g := (fun i => lstF (passN q (uh (σ 74) i 2 (wal5 (hf (σ 74) i 2)))))) hv]; simp [← nI_1] <;> rfl) | (rw [amax_s (g := (fun i => lstF (passN q (uh (σ 74) i 2 (wal5 (hf (σ 74) i 2)))))) hv]; simp [← nI_1] <;> rfl)) (ih (i + 1) (by omega))
              · refine V_icmp_le C dX9_straw_114 (fun c114 => absurd c114 (hv)) (fun c114 => ?_)
                refine V_iload C dX9_straw_117 rfl ?_
                refine V_goto C dX9_straw_119 ?_
                refine V_istore_n C dX9_straw_123 rfl ?_
                refine V_iload C dX9_straw_124 rfl ?_
                refine V_iload_n C dX9_straw_126 rfl ?_
                refine V_icmp_le C dX9_straw_127 (fun c127 => absurd c127 (hv)) (fun c127 => ?_)
                refine V_iload C dX9_straw_130 rfl ?_
                refine V_goto C dX9_straw_132 ?_
                refine V_istore_n C dX9_straw_136 rfl ?_
                refine V_forget 5 ?_
                refine V_forget 6 ?_
                refine V_iinc C 1 dX9_straw_137 rfl (by decide) rfl ?_
                refine V_goto C dX9_straw_140 ?_
                exact V_nx rfl (by first | (rw [amax_k (g := (fun i => lstF (passN q (uh (σ 74) i 2 (wal5 (hf (σ 74) i 2)))))) hv]; simp [← nI_1] <;> rfl) | (rw [amax_s (g := (fun i => lstF (passN q (uh (σ 74) i 2 (wal5 (hf (σ 74) i 2)))))) hv]; simp [← nI_1] <;> rfl)) (ih (i + 1) (by omega))
            · refine V_iload C dX9_straw_88 rfl ?_
              refine V_goto C dX9_straw_90 ?_
              refine V_iastN C (15+6*i+2) rfl (by omega) (by omega) dX9_straw_95 (wrMh 74 rfl rfl (by simp (disch := omega) only [us_us, us_s, us_n, sv_74, sv_76, sv_n, sv_bk]; omega) 2 (by omega)) ?_
              try simp (disch := omega) only [us_us, us_s, us_n, sv_74, sv_76, sv_n, sv_bk]
              refine V_nx (σ' := us (svS σ) 74 (uh (σ 74) i 2 (wal5 (hf (σ 74) i 2)))) (by unfold wal5; first | rw [if_neg (Int32.not_lt.mpr c85)] | rw [if_pos (Int32.not_le.mp c85)]) rfl ?_
              refine V_aload_n C dX9_straw_96 rfl ?_
              refine V_iload_n C dX9_straw_97 rfl ?_
              refine V_cv0 C hE dX9_straw_98 (c_X9_quartersGo (n := q) (by simp (disch := omega) only [us_us, us_s, us_n, sv_74, sv_76, sv_n, sv_bk]; exact Inv_uh2 hG.1 (by omega) (wal5_b (hG.1.2.1 i (by omega)).2.1)) (by simp (disch := omega) only [us_us, us_s, us_n, sv_74, sv_76, sv_n, sv_bk]; exact hz) (by omega)) kyX9_quartersGo q1090 (isoO 73 rfl rfl rfl rfl) rfl rfl rfl ?_
              try simp (disch := omega) only [us_us, us_s, us_n, sv_74, sv_76, sv_n, sv_bk]
              refine V_aload_n C dX9_straw_101 rfl ?_
              refine V_cv C hE dX9_straw_102 (c_X9_leastWarmth) kyX9_leastWarmth q1126 (isoO 73 rfl rfl rfl rfl) rfl rfl rfl ?_
              try simp (disch := omega) only [us_us, us_s, us_n, sv_74, sv_76, sv_n, sv_bk]
              refine V_istore C dX9_straw_105 rfl ?_
              refine V_aload_n C dX9_straw_107 rfl ?_
              refine V_cv0 C hE dX9_straw_108 (c_X9_putsBack) kyX9_putsBack q1130 (isoO 73 rfl rfl rfl rfl) rfl rfl rfl ?_
              try simp (disch := omega) only [us_us, us_s, us_n, sv_74, sv_76, sv_n, sv_bk]
              refine V_iload C dX9_straw_111 rfl ?_
              refine V_iload_n C dX9_straw_113 rfl ?_
              by_cases hv : lstF (passN q (uh (σ 74) i 2 (wal5 (hf (σ 74) i 2)))) ≤ (amax (fun i => lstF (passN q (uh (σ 74) i 2 (wal5 (hf (σ 74) i 2))))) i).2
              · refine V_icmp_le C dX9_straw_114 (fun c114 => ?_) (fun c114 => absurd (hv) c114)
                refine V_iload_n C dX9_straw_122 rfl ?_
                refine V_istore_n C dX9_straw_123 rfl ?_
                refine V_iload C dX9_straw_124 rfl ?_
                refine V_iload_n C dX9_straw_126 rfl ?_
                refine V_icmp_le C dX9_straw_127 (fun c127 => ?_) (fun c127 => absurd (hv) c127)
                refine V_iload_n C dX9_straw_135 rfl ?_
                refine V_istore_n C dX9_straw_136 rfl ?_
                refine V_forget 5 ?_
                refine V_forget 6 ?_
                refine V_iinc C 1 dX9_straw_137 rfl (by decide) rfl ?_
                refine V_goto C dX9_straw_140 ?_
                exact V_nx rfl (by first | (rw [amax_k (g := (fun i => lstF (passN q (uh (σ 74) i 2 (wal5 (hf (σ 74) i 2)))))) hv]; simp [← nI_1] <;> rfl) | (rw [amax_s (g := (fun i => lstF (passN q (uh (σ 74) i 2 (wal5 (hf (σ 74) i 2)))))) hv]; simp [← nI_1] <;> rfl)) (ih (i + 1) (by omega))
              · refine V_icmp_le C dX9_straw_114 (fun c114 => absurd c114 (hv)) (fun c114 => ?_)
                refine V_iload C dX9_straw_117 rfl ?_
                refine V_goto C dX9_straw_119 ?_
                refine V_istore_n C dX9_straw_123 rfl ?_
                refine V_iload C dX9_straw_124 rfl ?_
                refine V_iload_n C dX9_straw_126 rfl ?_
                refine V_icmp_le C dX9_straw_127 (fun c127 => absurd c127 (hv)) (fun c127 => ?_)
                refine V_iload C dX9_straw_130 rfl ?_
                refine V_goto C dX9_straw_132 ?_
                refine V_istore_n C dX9_straw_136 rfl ?_
                refine V_forget 5 ?_
                refine V_forget 6 ?_
                refine V_iinc C 1 dX9_straw_137 rfl (by decide) rfl ?_
                refine V_goto C dX9_straw_140 ?_
                exact V_nx rfl (by first | (rw [amax_k (g := (fun i => lstF (passN q (uh (σ 74) i 2 (wal5 (hf (σ 74) i 2)))))) hv]; simp [← nI_1] <;> rfl) | (rw [amax_s (g := (fun i => lstF (passN q (uh (σ 74) i 2 (wal5 (hf (σ 74) i 2)))))) hv]; simp [← nI_1] <;> rfl)) (ih (i + 1) (by omega))
        exact lp (nh (σ 74)) 0 (by omega)
      · refine V_aload_n C dX9_straw_31 rfl ?_
        refine V_ldc C dX9_straw_32 q1056 ?_
        refine V_cv C hE dX9_straw_34 (c_X9_finds (j := 4) (by decide +kernel) (by omega)) kyX9_finds q995 (isoO 73 rfl rfl rfl rfl) rfl rfl rfl ?_
        try simp (disch := omega) only [us_us, us_s, us_n, sv_74, sv_76, sv_n, sv_bk]
        exact V_iretN C dX9_straw_37 hT (PQ_fail (by decide +kernel) (by unfold S_straw; all_goals (first | rw [if_pos c4] | rw [if_neg c4]); all_goals (first | rw [if_pos c20] | rw [if_neg c20]); all_goals (first | rw [if_pos c28] | rw [if_neg c28])) (EqY.rf σ))
  · refine V_aload_n C dX9_straw_7 rfl ?_
    refine V_ldc C dX9_straw_8 q994 ?_
    refine V_cv C hE dX9_straw_10 (c_X9_finds (j := 0) (by decide +kernel) (by omega)) kyX9_finds q995 (isoO 73 rfl rfl rfl rfl) rfl rfl rfl ?_
    try simp (disch := omega) only [us_us, us_s, us_n, sv_74, sv_76, sv_n, sv_bk]
    exact V_iretN C dX9_straw_13 hT (PQ_fail (by decide +kernel) (by unfold S_straw; all_goals (first | rw [if_pos c4] | rw [if_neg c4])) (EqY.rf σ))

theorem c_X9_kindFor {l : Launch} {E : En} {σ : Sg} {p0 p1 : Int32}  (hG : GV (σ 74)) (hQ : inP (σ 74 0) 0 9999) (hz : σ 73 5 = 0) : MN l yX9_kindFor cX9_kindFor 7 (some .int) rmX9_kindFor E [.ref (ad E 73), .int p0, .int p1] σ (PQ σ (S_kindFor (σ 74) p0 p1) (σ)) := by
  refine MN_of (by decide +kernel) rfl fun x C hE hT hcan => ?_
  have C : CX x cX9_kindFor RX9 rmX9_kindFor := C
  have h8 : nh (σ 74) ≤ 8 := (hcan.2.1 74 (by omega) (by omega)).2.1
  have hn1 := (hcan.2.1 74 (by omega) (by omega)).1
  refine V_L (L' := [some (.ref (ad E 73)), some (.int p0), some (.int p1), none, none, none, none]) rfl ?_
  refine V_aload_n C dX9_kindFor_0 rfl ?_
  refine V_iload_n C dX9_kindFor_1 rfl ?_
  by_cases hh : isH (σ 74) p0
  · obtain ⟨b, hb, rfl, hb8⟩ := isH_of (hcan.2.1 74 (by omega) (by omega)) hh
    refine V_cv C hE dX9_kindFor_2 (c_X9_isHouse) kyX9_isHouse q1011 (isoO 73 rfl rfl rfl rfl) rfl rfl rfl ?_
    try simp (disch := omega) only [us_us, us_s, us_n, sv_74, sv_76, sv_n, sv_bk]
    refine V_ifeq_b C dX9_kindFor_5 (fun c5 => absurd (hh) c5) (fun c5 => ?_)
    refine V_iload_n C dX9_kindFor_8 rfl ?_
    refine V_cs C hE dX9_kindFor_9 (c_X9_isSpan) kyX9_isSpan q1147 rfl rfl rfl ?_
    try simp (disch := omega) only [us_us, us_s, us_n, sv_74, sv_76, sv_n, sv_bk]
    refine V_ifne_b C dX9_kindFor_12 (fun c12 => ?_) (fun c12 => ?_)
    · refine V_aload_n C dX9_kindFor_22 rfl ?_
      refine V_iload_n C dX9_kindFor_23 rfl ?_
      refine V_cv C hE dX9_kindFor_24 (c_X9_isTooLate hQ (lateP c12 (by decide))) kyX9_isTooLate q1082 (isoO 73 rfl rfl rfl rfl) rfl rfl rfl ?_
      try simp (disch := omega) only [us_us, us_s, us_n, sv_74, sv_76, sv_n, sv_bk]
      refine V_ifeq_b C dX9_kindFor_27 (fun c27 => ?_) (fun c27 => ?_)
      · obtain ⟨q, rfl, hq⟩ := i32_le (m := 96) (by omega) (Int32.le_trans (by decide) c12.1) c12.2
        refine V_aload_n C dX9_kindFor_37 rfl ?_
        refine V_cv0 C hE dX9_kindFor_38 (c_X9_savesV) kyX9_saves q1122 (isoO 73 rfl rfl rfl rfl) rfl rfl rfl ?_
        try simp (disch := omega) only [us_us, us_s, us_n, sv_74, sv_76, sv_n, sv_bk]
        refine V_iconst C 0 dX9_kindFor_41 (by decide) ?_
        refine V_istore_n C dX9_kindFor_42 rfl ?_
        refine V_iconst C (-1) dX9_kindFor_43 (by decide) ?_
        refine V_istore C dX9_kindFor_44 rfl ?_
        refine V_iconst C 0 dX9_kindFor_46 (by decide) ?_
        refine V_istore C dX9_kindFor_47 rfl ?_
        have lp : ∀ (d i : Nat) , i + d = 7 → V x (eA E) (AP x E (svS σ)) 0 0 49 [some (.ref (ad E 73)), some (.int (nI b)), some (.int (nI q)), some (.int (amax (fun k => hf (passN q (uh (σ 74) b 0 (nI k))) b 1) i).1), some (.int (amax (fun k => hf (passN q (uh (σ 74) b 0 (nI k))) b 1) i).2), some (.int (nI i)), none] [] := by
          intro d
          induction d with
          | zero =>
            intro i  hi' 
            have hN : i = 7 := by omega
            refine V_iload C dX9_kindFor_49 rfl ?_
            refine V_bipush C 7 dX9_kindFor_51 (by decide) ?_
            refine V_icmp_ge C dX9_kindFor_53 (fun c53 => ?_) (fun c53 => absurd (by rw [hN]; decide) c53)
            refine V_iload_n C dX9_kindFor_121 rfl ?_
            exact V_iretN C dX9_kindFor_122 hT (PQ_rd (by unfold S_kindFor; rw [if_pos hh, if_pos c12, if_neg c27, hk_n (show q < 2 ^ 31 by omega), hk_nI hb8, hN]) (EqY.sv σ))
          | succ d ih =>
            intro i  hi' 
            refine V_iload C dX9_kindFor_49 rfl ?_
            refine V_bipush C 7 dX9_kindFor_51 (by decide) ?_
            refine V_icmp_ge C dX9_kindFor_53 (fun c53 => absurd c53 (nI_ge (b := 7) (by omega) (by omega))) (fun c53 => ?_)
            refine V_aload_n C dX9_kindFor_56 rfl ?_
            refine V_get C dX9_kindFor_57 (rdO (j := 0) 73 rfl rfl rfl rfl rfl) in_X9 (by decide) q907 rfl ?_
            refine V_iload_n C dX9_kindFor_60 rfl ?_
            refine V_iconst C 0 dX9_kindFor_61 (by decide) ?_
            refine V_cs C hE dX9_kindFor_62 (c_X9_at rfl) kyX9_at q1004 rfl rfl rfl ?_
            try simp (disch := omega) only [us_us, us_s, us_n, sv_74, sv_76, sv_n, sv_bk]
            refine V_iload C dX9_kindFor_65 rfl ?_
            refine V_iastN C (15+6*b+0) rfl (by omega) (by omega) dX9_kindFor_67 (wrMh 74 rfl rfl (by simp (disch := omega) only [us_us, us_s, us_n, sv_74, sv_76, sv_n, sv_bk]; exact hb) 0 (by omega)) ?_
            try simp (disch := omega) only [us_us, us_s, us_n, sv_74, sv_76, sv_n, sv_bk]
            refine V_aload_n C dX9_kindFor_68 rfl ?_
            refine V_iload_n C dX9_kindFor_69 rfl ?_
            refine V_cv0 C hE dX9_kindFor_70 (c_X9_quartersGo (n := q) (by simp (disch := omega) only [us_us, us_s, us_n, sv_74, sv_76, sv_n, sv_bk]; exact Inv_uh hG.1 hb (by omega) (by omega) (by omega) (by omega) (by omega)) (by simp (disch := omega) only [us_us, us_s, us_n, sv_74, sv_76, sv_n, sv_bk]; exact hz) (by omega)) kyX9_quartersGo q1090 (isoO 73 rfl rfl rfl rfl) rfl rfl rfl ?_
            try simp (disch := omega) only [us_us, us_s, us_n, sv_74, sv_76, sv_n, sv_bk]
            refine V_aload_n C dX9_kindFor_73 rfl ?_
            refine V_iload_n C dX9_kindFor_74 rfl ?_
            refine V_iconst C 1 dX9_kindFor_75 (by decide) ?_
            refine V_cv C hE dX9_kindFor_76 (c_X9_its (i := b) (j := 1) rfl (by simp (disch := omega) only [us_us, us_s, us_n, sv_74, sv_76, sv_n, sv_bk]; rw [nh_passN, nh_uh]; exact hb) (by omega)) kyX9_its q1016 (isoO 73 rfl rfl rfl rfl) rfl rfl rfl ?_
            try simp (disch := omega) only [us_us, us_s, us_n, sv_74, sv_76, sv_n, sv_bk]
            refine V_istore C dX9_kindFor_79 rfl ?_
            refine V_aload_n C dX9_kindFor_81 rfl ?_
            refine V_cv0 C hE dX9_kindFor_82 (c_X9_putsBack) kyX9_putsBack q1130 (isoO 73 rfl rfl rfl rfl) rfl rfl rfl ?_
            try simp (disch := omega) only [us_us, us_s, us_n, sv_74, sv_76, sv_n, sv_bk]
            refine V_iload C dX9_kindFor_85 rfl ?_
            refine V_iload C dX9_kindFor_87 rfl ?_
            by_cases hv : hf (passN q (uh (σ 74) b 0 (nI i))) b 1 ≤ (amax (fun k => hf (passN q (uh (σ 74) b 0 (nI k))) b 1) i).2
            · refine V_icmp_le C dX9_kindFor_89 (fun c89 => ?_) (fun c89 => absurd (hv) c89)
              refine V_iload_n C dX9_kindFor_97 rfl ?_
              refine V_istore_n C dX9_kindFor_98 rfl ?_
              refine V_iload C dX9_kindFor_99 rfl ?_
              refine V_iload C dX9_kindFor_101 rfl ?_
              refine V_icmp_le C dX9_kindFor_103 (fun c103 => ?_) (fun c103 => absurd (hv) c103)
              refine V_iload C dX9_kindFor_111 rfl ?_
              refine V_istore C dX9_kindFor_113 rfl ?_
              refine V_forget 6 ?_
              refine V_iinc C 1 dX9_kindFor_115 rfl (by decide) rfl ?_
              refine V_goto C dX9_kindFor_118 ?_
              exact V_nx rfl (by first | (rw [amax_k (g := (fun k => hf (passN q (uh (σ 74) b 0 (nI k))) b 1)) hv]; simp [← nI_1] <;> rfl) | (rw [amax_s (g := (fun k => hf (passN q (uh (σ 74) b 0 (nI k))) b 1)) hv]; simp [← nI_1] <;> rfl)) (ih (i + 1) (by omega))
            · refine V_icmp_le C dX9_kindFor_89 (fun c89 => absurd c89 (hv)) (fun c89 => ?_)
              refine V_iload C dX9_kindFor_92 rfl ?_
              refine V_goto C dX9_kindFor_94 ?_
              refine V_istore_n C dX9_kindFor_98 rfl ?_
              refine V_iload C dX9_kindFor_99 rfl ?_
              refine V_iload C dX9_kindFor_101 rfl ?_
              refine V_icmp_le C dX9_kindFor_103 (fun c103 => absurd c103 (hv)) (fun c103 => ?_)
              refine V_iload C dX9_kindFor_106 rfl ?_
              refine V_goto C dX9_kindFor_108 ?_
              refine V_istore C dX9_kindFor_113 rfl ?_
              refine V_forget 6 ?_
              refine V_iinc C 1 dX9_kindFor_115 rfl (by decide) rfl ?_
              refine V_goto C dX9_kindFor_118 ?_
              exact V_nx rfl (by first | (rw [amax_k (g := (fun k => hf (passN q (uh (σ 74) b 0 (nI k))) b 1)) hv]; simp [← nI_1] <;> rfl) | (rw [amax_s (g := (fun k => hf (passN q (uh (σ 74) b 0 (nI k))) b 1)) hv]; simp [← nI_1] <;> rfl)) (ih (i + 1) (by omega))
        exact lp 7 0 (by omega)
      · refine V_aload_n C dX9_kindFor_30 rfl ?_
        refine V_ldc C dX9_kindFor_31 q1056 ?_
        refine V_cv C hE dX9_kindFor_33 (c_X9_finds (j := 4) (by decide +kernel) (by omega)) kyX9_finds q995 (isoO 73 rfl rfl rfl rfl) rfl rfl rfl ?_
        try simp (disch := omega) only [us_us, us_s, us_n, sv_74, sv_76, sv_n, sv_bk]
        exact V_iretN C dX9_kindFor_36 hT (PQ_fail (by decide +kernel) (by unfold S_kindFor; all_goals (first | rw [if_pos hh] | rw [if_neg hh]); all_goals (first | rw [if_pos c12] | rw [if_neg c12]); all_goals (first | rw [if_pos c27] | rw [if_neg c27])) (EqY.rf σ))
    · refine V_aload_n C dX9_kindFor_15 rfl ?_
      refine V_ldc C dX9_kindFor_16 q994 ?_
      refine V_cv C hE dX9_kindFor_18 (c_X9_finds (j := 0) (by decide +kernel) (by omega)) kyX9_finds q995 (isoO 73 rfl rfl rfl rfl) rfl rfl rfl ?_
      try simp (disch := omega) only [us_us, us_s, us_n, sv_74, sv_76, sv_n, sv_bk]
      exact V_iretN C dX9_kindFor_21 hT (PQ_fail (by decide +kernel) (by unfold S_kindFor; all_goals (first | rw [if_pos hh] | rw [if_neg hh]); all_goals (first | rw [if_pos c12] | rw [if_neg c12])) (EqY.rf σ))
  · refine V_cv C hE dX9_kindFor_2 (c_X9_isHouse) kyX9_isHouse q1011 (isoO 73 rfl rfl rfl rfl) rfl rfl rfl ?_
    try simp (disch := omega) only [us_us, us_s, us_n, sv_74, sv_76, sv_n, sv_bk]
    refine V_ifeq_b C dX9_kindFor_5 (fun c5 => ?_) (fun c5 => absurd c5 (hh))
    refine V_aload_n C dX9_kindFor_15 rfl ?_
    refine V_ldc C dX9_kindFor_16 q994 ?_
    refine V_cv C hE dX9_kindFor_18 (c_X9_finds (j := 0) (by decide +kernel) (by omega)) kyX9_finds q995 (isoO 73 rfl rfl rfl rfl) rfl rfl rfl ?_
    try simp (disch := omega) only [us_us, us_s, us_n, sv_74, sv_76, sv_n, sv_bk]
    exact V_iretN C dX9_kindFor_21 hT (PQ_fail (by decide +kernel) (by unfold S_kindFor; all_goals (first | rw [if_pos hh] | rw [if_neg hh])) (EqY.rf σ))

