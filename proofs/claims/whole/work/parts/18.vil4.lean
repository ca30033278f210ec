theorem q70 : Cond.initialized "java/lang/System" ∈ lw_gd := gd 70 (by decide +kernel) rfl
theorem q456 : Cond.static arraycopyName ∈ lw_gd := gd 456 (by decide +kernel) rfl
theorem q457 : Cond.native arraycopyName ∈ lw_gd := gd 457 (by decide +kernel) rfl
theorem nar01 {y : Int32} (h : y = 0 ∨ y = 1) : narrow .boolean (.int y) = .int y := by
  rcases h with rfl | rfl <;> rfl
theorem fit01 {y : Int32} (h : y = 0 ∨ y = 1) : fits .boolean (.int y) = true := by
  rcases h with rfl | rfl <;> rfl

theorem c_X5_buildN {l : Launch} {E : En} {σ : Sg} {v : Nat} {p0 : Int32} (hv : v < 5) (hn : nh (σ v) = 8) : MD l yX5_build cX5_build 3 (some (.object "SledgeStove$House")) rmX5_build E [.ref (ad E (vb v)), .int p0] σ (some (.null)) (σ) := by
  refine MD_of (by decide +kernel) rfl fun x C hE hT hcan => ?_
  have C : CX x cX5_build RX5 rmX5_build := C
  refine V_L (L' := [some (.ref (ad E (vb v))), some (.int p0), none]) rfl ?_
  refine V_aload_n C dX5_build_0 rfl ?_
  refine V_get C dX5_build_1 (rdV (by first | assumption | omega) 3 1 rfl rfl rfl) in_X5 (by decide) q132 rfl ?_
  refine V_aload_n C dX5_build_4 rfl ?_
  refine V_get C dX5_build_5 (rdLane (by first | assumption | omega)) in_X5 (by decide) q129 rfl ?_
  refine V_alenQ C dX5_build_8 (rdLq hv) rfl ?_
  refine V_icmp_lt C dX5_build_9 (fun c9 => absurd c9 (by rw [(hcan.1 v hv).1, hn]; decide)) (fun c9 => ?_)
  refine V_null C dX5_build_12 ?_
  exact V_aretN C dX5_build_13 hT rfl rfl

theorem c_X5_build {l : Launch} {E : En} {σ : Sg} {v : Nat} {p0 : Int32} (hv : v < 5) (hn : nh (σ v) < 8) : MD l yX5_build cX5_build 3 (some (.object "SledgeStove$House")) rmX5_build E [.ref (ad E (vb v)), .int p0] σ (some (.ref (ad E (hc v (nh (σ v)))))) (us σ v (newF (σ v) p0)) := by
  refine MD_of (by decide +kernel) rfl fun x C hE hT hcan => ?_
  have C : CX x cX5_build RX5 rmX5_build := C
  have hcv := hcan.1 v hv
  refine V_L (L' := [some (.ref (ad E (vb v))), some (.int p0), none]) rfl ?_
  refine V_aload_n C dX5_build_0 rfl ?_
  refine V_get C dX5_build_1 (rdV (by first | assumption | omega) 3 1 rfl rfl rfl) in_X5 (by decide) q132 rfl ?_
  refine V_aload_n C dX5_build_4 rfl ?_
  refine V_get C dX5_build_5 (rdLane (by first | assumption | omega)) in_X5 (by decide) q129 rfl ?_
  refine V_alenQ C dX5_build_8 (rdLq hv) rfl ?_
  refine V_icmp_lt C dX5_build_9 (fun c9 => ?_) (fun c9 => absurd (by rw [(hcan.1 v hv).1]; exact nI_lt (b := 8) hn (by decide)) c9)
  refine V_aload_n C dX5_build_14 rfl ?_
  refine V_dup C dX5_build_15 rfl ?_
  refine V_get C dX5_build_16 (rdV (by first | assumption | omega) 3 1 rfl rfl rfl) in_X5 (by decide) q132 rfl ?_
  refine V_iconst C 1 dX5_build_19 (by decide) ?_
  refine V_iadd C dX5_build_20 ?_
  refine V_st (st' := [.int (nI (nh (σ v) + 1)), .ref (ad E (vb v))]) (by rw [hcv.1, nI_1]) ?_
  refine V_put C dX5_build_21 (wrHouses hv (m := nh (σ v) + 1) (by omega)) ft_X5 (by decide) q132 rfl rfl rfl rfl ?_
  refine V_ex (P' := fun (a : {a : Nat → Int32 // ∀ i j, i < nh (σ v) → j < 6 → a (15+6*i+j) = hf (σ v) i j}) => AP x E (us σ v (regrow (σ v) (nh (σ v) + 1) a.1))) (fun _ h => h) (fun a => ?_)
  have hng : nh (regrow (σ v) (nh (σ v) + 1) a.1) = nh (σ v) + 1 := regrow_nh (by omega)
  have hlt : nh (σ v) < nh (us σ v (regrow (σ v) (nh (σ v) + 1) a.1) v) := by rw [us_s, hng]; omega
  refine V_aload_n C dX5_build_24 rfl ?_
  refine V_aload_n C dX5_build_25 rfl ?_
  refine V_get C dX5_build_26 (rdV (by first | assumption | omega) 3 1 rfl rfl rfl) in_X5 (by decide) q132 rfl ?_
  refine V_iconst C 1 dX5_build_29 (by decide) ?_
  refine V_isub C dX5_build_30 ?_
  refine V_st (st' := [.int (nI (nh (σ v))), .ref (ad E (vb v))]) (by rw [us_s]; show [Value.int (nI (nh (σ v) + 1) - 1), _] = _; rw [nI_pred]) ?_
  refine V_cv C hE dX5_build_31 (c_X5_get hv hlt) kyX5_get q282 (isoV (by first | assumption | omega)) rfl rfl rfl ?_
  try simp only [us_us, us_s]
  refine V_astore_n C dX5_build_34 rfl ?_
  refine V_aload_n C dX5_build_35 rfl ?_
  refine V_ifnull C dX5_build_36 ?_
  refine V_aload_n C dX5_build_39 rfl ?_
  refine V_iload_n C dX5_build_40 rfl ?_
  refine V_cv0 C hE dX5_build_41 (c_X1_begin hv hlt) kyX1_begin q286 (isoH (by first | assumption | omega) (by first | assumption | omega)) rfl rfl rfl ?_
  try simp only [us_us, us_s]
  refine V_aload_n C dX5_build_44 rfl ?_
  exact V_aretD C dX5_build_45 hT rfl (by rw [newF_grow hcv hn a.2])

theorem c_X5_be {l : Launch} {E : En} {σ : Sg} {v : Nat} {w : Nat} (hv : v < 5) (hw : w < 5) (hne : w ≠ v) : MD l yX5_be cX5_be 5 none rmX5_be E [.ref (ad E (vb v)), .ref (ad E (vb w))] σ none (us (us σ v (σ w)) (5+v) (lw (σ (5+v)) (σ (5+w) 0) (σ (5+w) 1))) := by
  refine MD_of (by decide +kernel) rfl fun x C hE hT hcan => ?_
  have C : CX x cX5_be RX5 rmX5_be := C
  have hcv := hcan.1 v hv
  have hcw := hcan.1 w hw
  have h8w := hcw.2.1
  have hy := hcan.2.2.2.2 w hw
  have hne5 : 5 + w ≠ v := by omega
  have hne6 : 5 + v ≠ v := by omega
  refine V_L (L' := [some (.ref (ad E (vb v))), some (.ref (ad E (vb w))), none, none, none]) rfl ?_
  refine V_aload_n C dX5_be_0 rfl ?_
  refine V_aload_n C dX5_be_1 rfl ?_
  refine V_get C dX5_be_2 (rdV (by first | assumption | omega) 3 1 rfl rfl rfl) in_X5 (by decide) q132 rfl ?_
  refine V_st (st' := [.int (nI (nh (σ w))), .ref (ad E (vb v))]) (by rw [hcw.1, ← hcw.1]) ?_
  refine V_put C dX5_be_5 (wrHouses hv (m := nh (σ w)) h8w) ft_X5 (by decide) q132 rfl rfl rfl rfl ?_
  refine V_ex (P' := fun (a : {a : Nat → Int32 // ∀ i j, i < nh (σ v) → j < 6 → a (15+6*i+j) = hf (σ v) i j}) => AP x E (us σ v (regrow (σ v) (nh (σ w)) a.1))) (fun _ h => h) (fun a => ?_)
  have hr1 : regrow (σ v) (nh (σ w)) a.1 1 = nI (nh (σ w)) := if_pos rfl
  refine V_iconst C 0 dX5_be_8 (by decide) ?_
  refine V_istore_n C dX5_be_9 rfl ?_
  have lp : ∀ (d i : Nat), i + d = nh (σ w) → V x (eA E) (AP x E (us σ v (cpN (σ w) i (regrow (σ v) (nh (σ w)) a.1)))) 0 0 10 [some (.ref (ad E (vb v))), some (.ref (ad E (vb w))), some (.int (nI i)), none, none] [] := by
    intro d
    induction d with
    | zero =>
      intro i hi'
      have hN : i = nh (σ w) := by omega
      refine V_iload_n C dX5_be_10 rfl ?_
      refine V_aload_n C dX5_be_11 rfl ?_
      refine V_get C dX5_be_12 (rdV (by first | assumption | omega) 3 1 rfl rfl rfl) in_X5 (by decide) q132 rfl ?_
      refine V_icmp_ge C dX5_be_15 (fun c15 => ?_) (fun c15 => absurd (by rw [us_s, cpN_lo (by omega), hr1, hN]; exact nI_le (Nat.le_refl _) (by omega)) c15)
      refine V_aload_n C dX5_be_52 rfl ?_
      refine V_get C dX5_be_53 (rdSteeps (by first | assumption | omega)) in_X5 (by decide) q130 rfl ?_
      refine V_iconst C 0 dX5_be_56 (by decide) ?_
      refine V_aload_n C dX5_be_57 rfl ?_
      refine V_get C dX5_be_58 (rdSteeps (by first | assumption | omega)) in_X5 (by decide) q130 rfl ?_
      refine V_iconst C 0 dX5_be_61 (by decide) ?_
      refine V_bipush C 7 dX5_be_62 (by decide) ?_
      refine V_acopy C 7 rfl (by decide) (by decide) (by decide) dX5_be_64 q455 q457 q456 q70 (cpaS hv hw) rfl rfl ?_
      try simp only [us_us, us_s, us_n hne, us_n hne5, us_n hne6]
      refine V_aload_n C dX5_be_67 rfl ?_
      refine V_get C dX5_be_68 (rdSpots (by first | assumption | omega)) in_X5 (by decide) q131 rfl ?_
      refine V_iconst C 0 dX5_be_71 (by decide) ?_
      refine V_aload_n C dX5_be_72 rfl ?_
      refine V_get C dX5_be_73 (rdSpots (by first | assumption | omega)) in_X5 (by decide) q131 rfl ?_
      refine V_iconst C 0 dX5_be_76 (by decide) ?_
      refine V_bipush C 10 dX5_be_77 (by decide) ?_
      refine V_acopy C 10 rfl (by decide) (by decide) (by decide) dX5_be_79 q455 q457 q456 q70 (cpaP hv hw) rfl rfl ?_
      try simp only [us_us, us_s, us_n hne, us_n hne5, us_n hne6]
      refine V_aload_n C dX5_be_82 rfl ?_
      refine V_aload_n C dX5_be_83 rfl ?_
      refine V_get C dX5_be_84 (rdV (by first | assumption | omega) 4 5 rfl rfl rfl) in_X5 (by decide) q135 rfl ?_
      refine V_put C dX5_be_87 (wrV (by first | assumption | omega) 4 5 rfl rfl rfl) ft_X5 (by decide) q135 rfl rfl rfl rfl ?_
      try simp only [us_us, us_s, us_n hne, us_n hne5, us_n hne6]
      refine V_aload_n C dX5_be_90 rfl ?_
      refine V_aload_n C dX5_be_91 rfl ?_
      refine V_get C dX5_be_92 (rdV (by first | assumption | omega) 5 6 rfl rfl rfl) in_X5 (by decide) q138 rfl ?_
      refine V_put C dX5_be_95 (wrV (by first | assumption | omega) 5 6 rfl rfl rfl) ft_X5 (by decide) q138 rfl rfl rfl rfl ?_
      try simp only [us_us, us_s, us_n hne, us_n hne5, us_n hne6]
      refine V_aload_n C dX5_be_98 rfl ?_
      refine V_aload_n C dX5_be_99 rfl ?_
      refine V_get C dX5_be_100 (rdV (by first | assumption | omega) 6 2 rfl rfl rfl) in_X5 (by decide) q141 rfl ?_
      refine V_put C dX5_be_103 (wrV (by first | assumption | omega) 6 2 rfl rfl rfl) ft_X5 (by decide) q141 rfl rfl rfl rfl ?_
      try simp only [us_us, us_s, us_n hne, us_n hne5, us_n hne6]
      refine V_aload_n C dX5_be_106 rfl ?_
      refine V_aload_n C dX5_be_107 rfl ?_
      refine V_get C dX5_be_108 (rdV (by first | assumption | omega) 7 3 rfl rfl rfl) in_X5 (by decide) q143 rfl ?_
      refine V_put C dX5_be_111 (wrV (by first | assumption | omega) 7 3 rfl rfl rfl) ft_X5 (by decide) q143 rfl rfl rfl rfl ?_
      try simp only [us_us, us_s, us_n hne, us_n hne5, us_n hne6]
      refine V_aload_n C dX5_be_114 rfl ?_
      refine V_aload_n C dX5_be_115 rfl ?_
      refine V_get C dX5_be_116 (rdV (by first | assumption | omega) 8 0 rfl rfl rfl) in_X5 (by decide) q145 rfl ?_
      refine V_put C dX5_be_119 (wrV (by first | assumption | omega) 8 0 rfl rfl rfl) ft_X5 (by decide) q145 rfl rfl rfl rfl ?_
      try simp only [us_us, us_s, us_n hne, us_n hne5, us_n hne6]
      refine V_aload_n C dX5_be_122 rfl ?_
      refine V_aload_n C dX5_be_123 rfl ?_
      refine V_get C dX5_be_124 (rdV (by first | assumption | omega) 9 4 rfl rfl rfl) in_X5 (by decide) q148 rfl ?_
      refine V_put C dX5_be_127 (wrV (by first | assumption | omega) 9 4 rfl rfl rfl) ft_X5 (by decide) q148 rfl rfl rfl rfl ?_
      try simp only [us_us, us_s, us_n hne, us_n hne5, us_n hne6]
      refine V_aload_n C dX5_be_130 rfl ?_
      refine V_aload_n C dX5_be_131 rfl ?_
      refine V_get C dX5_be_132 (rdV (by first | assumption | omega) 10 7 rfl rfl rfl) in_X5 (by decide) q150 rfl ?_
      refine V_put C dX5_be_135 (wrV (by first | assumption | omega) 10 7 rfl rfl rfl) ft_X5 (by decide) q150 rfl rfl rfl rfl ?_
      try simp only [us_us, us_s, us_n hne, us_n hne5, us_n hne6]
      refine V_aload_n C dX5_be_138 rfl ?_
      refine V_aload_n C dX5_be_139 rfl ?_
      refine V_get C dX5_be_140 (rdLeast (by first | assumption | omega)) in_X5 (by decide) q152 rfl ?_
      refine V_put C dX5_be_143 (wrLeast (by first | assumption | omega)) ft_X5 (by decide) q152 rfl rfl rfl rfl ?_
      try simp only [us_us, us_s, us_n hne, us_n hne5, us_n hne6]
      refine V_aload_n C dX5_be_146 rfl ?_
      refine V_aload_n C dX5_be_147 rfl ?_
      refine V_get C dX5_be_148 (rdChill (by first | assumption | omega)) in_X5 (by decide) q156 rfl ?_
      refine V_st (st' := [.int (σ (5+w) 1), .ref (ad E (vb v))]) (by rw [us_n (show 5+w ≠ 5+v by omega), us_n hne5]) ?_
      refine V_put C dX5_be_151 (wrChill hv hy) ft_X5 (by decide) q156 rfl rfl (nar01 hy) (fit01 hy) ?_
      simp only [us_us, us_s]
      exact V_retD C dX5_be_154 hT (by rw [hN, be_eq hcv hcw]; rfl)
    | succ d ih =>
      intro i hi'
      have hlt : i < nh (us σ v (cpN (σ w) i (regrow (σ v) (nh (σ w)) a.1)) v) := by rw [us_s, cpN_nh, regrow_nh h8w]; omega
      have hlt2 : i < nh (us σ v (cpN (σ w) i (regrow (σ v) (nh (σ w)) a.1)) w) := by rw [us_n hne]; omega
      have hi8 : i < 8 := by omega
      refine V_iload_n C dX5_be_10 rfl ?_
      refine V_aload_n C dX5_be_11 rfl ?_
      refine V_get C dX5_be_12 (rdV (by first | assumption | omega) 3 1 rfl rfl rfl) in_X5 (by decide) q132 rfl ?_
      refine V_icmp_ge C dX5_be_15 (fun c15 => absurd c15 (by rw [us_s, cpN_lo (by omega), hr1]; exact nI_ge (by omega) (by omega))) (fun c15 => ?_)
      refine V_aload_n C dX5_be_18 rfl ?_
      refine V_iload_n C dX5_be_19 rfl ?_
      refine V_cv C hE dX5_be_20 (c_X5_get hv hlt) kyX5_get q282 (isoV (by first | assumption | omega)) rfl rfl rfl ?_
      refine V_astore_n C dX5_be_23 rfl ?_
      refine V_aload_n C dX5_be_24 rfl ?_
      refine V_iload_n C dX5_be_25 rfl ?_
      refine V_cv C hE dX5_be_26 (c_X5_get hw hlt2) kyX5_get q282 (isoV (by first | assumption | omega)) rfl rfl rfl ?_
      refine V_astore C dX5_be_29 rfl ?_
      refine V_aload_n C dX5_be_31 rfl ?_
      refine V_ifnull C dX5_be_32 ?_
      refine V_aload C dX5_be_35 rfl ?_
      refine V_ifnull C dX5_be_37 ?_
      refine V_aload_n C dX5_be_40 rfl ?_
      refine V_aload C dX5_be_41 rfl ?_
      refine V_cv0 C hE dX5_be_43 (c_X1_be (w := w) (i2 := i) (i := i) hv hlt hw hlt2 hne) kyX1_be q451 (isoH (by first | assumption | omega) (by first | assumption | omega)) rfl rfl rfl ?_
      refine V_forget 3 ?_
      refine V_forget 4 ?_
      refine V_iinc C 1 dX5_be_46 rfl (by decide) rfl ?_
      refine V_goto C dX5_be_49 ?_
      exact V_nx (by simp only [us_us, us_s, us_n hne]; rfl) (by simp [← nI_1] <;> rfl) (ih (i + 1) (by omega))
  exact lp (nh (σ w)) 0 (by omega)

theorem c_X5_beginRound {l : Launch} {E : En} {σ : Sg} {v : Nat} {w : Nat} (hv : v < 5) (hw : w < 5) (hne : w ≠ v) : MD l yX5_beginRound cX5_beginRound 2 none rmX5_beginRound E [.ref (ad E (vb v)), .ref (ad E (vb w))] σ none (us (us σ v (σ w)) (5+v) (lw (σ (5+v)) 400 0)) := by
  refine MD_of (by decide +kernel) rfl fun x C hE hT hcan => ?_
  have C : CX x cX5_beginRound RX5 rmX5_beginRound := C
  refine V_L (L' := [some (.ref (ad E (vb v))), some (.ref (ad E (vb w)))]) rfl ?_
  refine V_aload_n C dX5_beginRound_0 rfl ?_
  refine V_aload_n C dX5_beginRound_1 rfl ?_
  refine V_cv0 C hE dX5_beginRound_2 (c_X5_be hv hw hne) kyX5_be q534 (isoV (by first | assumption | omega)) rfl rfl rfl ?_
  try simp only [us_us, us_s, lw_u0]
  refine V_aload_n C dX5_beginRound_5 rfl ?_
  refine V_sipush C 400 dX5_beginRound_6 (by decide) ?_
  refine V_put C dX5_beginRound_9 (wrLeast (by first | assumption | omega)) ft_X5 (by decide) q152 rfl rfl rfl rfl ?_
  try simp only [us_us, us_s, lw_u0]
  refine V_aload_n C dX5_beginRound_12 rfl ?_
  refine V_iconst C 0 dX5_beginRound_13 (by decide) ?_
  refine V_put C dX5_beginRound_14 (wrChill hv (Or.inl rfl)) ft_X5 (by decide) q156 rfl rfl rfl rfl ?_
  exact V_retD C dX5_beginRound_17 hT (by simp only [us_us, us_s, lw_u1])

theorem wtA {f L : Nat → Int32} {a y : Int32} {i : Nat} (h : hf f i 0 = 4) : lw L (lstN f a i) (chV f y i) = lw L (lstN f a (i+1)) (chV f y (i+1)) := by
  rw [show lstN f a (i+1) = lstN f a i from if_neg (fun q => q.1 h), show chV f y (i+1) = chV f y i from if_neg (fun q => q.1 h)]
theorem wt_l {f : Nat → Int32} {a : Int32} {i : Nat} (h : ¬ hf f i 0 = 4) : lstN f a (i+1) = if hf f i 1 < lstN f a i then hf f i 1 else lstN f a i := by
  show (if _ then _ else _) = _
  by_cases c : hf f i 1 < lstN f a i
  · rw [if_pos ⟨h, c⟩, if_pos c]
  · rw [if_neg (fun q => c q.2), if_neg c]
theorem wtB {f L : Nat → Int32} {a y : Int32} {i : Nat} (h01 : chV f y i = 0 ∨ chV f y i = 1) (h : ¬ hf f i 0 = 4) (h2 : ¬ chV f y i = 0) : lw L (if hf f i 1 < lstN f a i then hf f i 1 else lstN f a i) 1 = lw L (lstN f a (i+1)) (chV f y (i+1)) := by
  rw [wt_l h]
  have e : chV f y (i+1) = 1 := by
    show (if _ then _ else _) = _
    split
    · rfl
    · exact h01.resolve_left h2
  rw [e]
theorem wtC {f L : Nat → Int32} {a y : Int32} {i : Nat} (h : ¬ hf f i 0 = 4) (h2 : chV f y i = 0) (h3 : ¬ coldV (hf f i 0) (hf f i 1) (hf f i 4)) : lw L (if hf f i 1 < lstN f a i then hf f i 1 else lstN f a i) 0 = lw L (lstN f a (i+1)) (chV f y (i+1)) := by
  rw [wt_l h, show chV f y (i+1) = chV f y i from if_neg h3, h2]
theorem wtD {f L : Nat → Int32} {a y : Int32} {i : Nat} (h : ¬ hf f i 0 = 4) (h3 : coldV (hf f i 0) (hf f i 1) (hf f i 4)) : lw L (if hf f i 1 < lstN f a i then hf f i 1 else lstN f a i) 1 = lw L (lstN f a (i+1)) (chV f y (i+1)) := by
  rw [wt_l h, show chV f y (i+1) = 1 from if_pos h3]

theorem c_X5_watch {l : Launch} {E : En} {σ : Sg} {v : Nat} (hv : v < 5) : MD l yX5_watch cX5_watch 3 none rmX5_watch E [.ref (ad E (vb v))] σ none (us σ (5+v) (lw (σ (5+v)) (lstN (σ v) (σ (5+v) 0) (nh (σ v))) (chV (σ v) (σ (5+v) 1) (nh (σ v))))) := by
  refine MD_of (by decide +kernel) rfl fun x C hE hT hcan => ?_
  have C : CX x cX5_watch RX5 rmX5_watch := C
  have h8 : nh (σ v) ≤ 8 := (hcan.1 v hv).2.1
  have hne5 : v ≠ 5 + v := by omega
  refine V_L (L' := [some (.ref (ad E (vb v))), none, none]) rfl ?_
  have lp : ∀ (d i : Nat), i + d = nh (σ v) → V x (eA E) (AP x E (us σ (5+v) (lw (σ (5+v)) (lstN (σ v) (σ (5+v) 0) i) (chV (σ v) (σ (5+v) 1) i)))) 0 0 2 [some (.ref (ad E (vb v))), some (.int (nI i)), none] [] := by
    intro d
    induction d with
    | zero =>
      intro i hi'
      have hN : i = nh (σ v) := by omega
      refine V_iload_n C dX5_watch_2 rfl ?_
      refine V_aload_n C dX5_watch_3 rfl ?_
      refine V_get C dX5_watch_4 (rdV (by first | assumption | omega) 3 1 rfl rfl rfl) in_X5 (by decide) q132 rfl ?_
      refine V_icmp_ge C dX5_watch_7 (fun c7 => ?_) (fun c7 => absurd (by rw [us_n hne5, (hcan.1 v hv).1, hN]; exact nI_le (Nat.le_refl _) (by omega)) c7)
      exact V_retD C dX5_watch_71 hT (by rw [hN])
    | succ d ih =>
      intro i hi'
      have hlt : i < nh (us σ (5+v) (lw (σ (5+v)) (lstN (σ v) (σ (5+v) 0) i) (chV (σ v) (σ (5+v) 1) i)) v) := by rw [us_n hne5]; omega
      have hi8 : i < 8 := by omega
      have h01 := chV_01 (f := σ v) (hcan.2.2.2.2 v hv) i
      refine V_iload_n C dX5_watch_2 rfl ?_
      refine V_aload_n C dX5_watch_3 rfl ?_
      refine V_get C dX5_watch_4 (rdV (by first | assumption | omega) 3 1 rfl rfl rfl) in_X5 (by decide) q132 rfl ?_
      refine V_icmp_ge C dX5_watch_7 (fun c7 => absurd c7 (by rw [us_n hne5, (hcan.1 v hv).1]; exact nI_ge (by omega) (by omega))) (fun c7 => ?_)
      refine V_aload_n C dX5_watch_10 rfl ?_
      refine V_iload_n C dX5_watch_11 rfl ?_
      refine V_cv C hE dX5_watch_12 (c_X5_get hv hlt) kyX5_get q282 (isoV (by first | assumption | omega)) rfl rfl rfl ?_
      try simp only [us_us, us_s, lw_u0, lw_0, us_n hne5]
      refine V_astore_n C dX5_watch_15 rfl ?_
      refine V_aload_n C dX5_watch_16 rfl ?_
      refine V_ifnull C dX5_watch_17 ?_
      refine V_aload_n C dX5_watch_20 rfl ?_
      refine V_cv C hE dX5_watch_21 (c_X1_needs (i := i) hv hlt) kyX1_needs q462 (isoH (by first | assumption | omega) (by first | assumption | omega)) rfl rfl rfl ?_
      try simp only [us_us, us_s, lw_u0, lw_0, us_n hne5]
      refine V_ifeq_b C dX5_watch_24 (fun c24 => ?_) (fun c24 => ?_)
      · refine V_forget 2 ?_
        refine V_iinc C 1 dX5_watch_65 rfl (by decide) rfl ?_
        refine V_goto C dX5_watch_68 ?_
        exact V_nx (congrArg (us σ (5+v)) (wtA (Classical.not_not.mp c24))) (by simp [← nI_1] <;> rfl) (ih (i + 1) (by omega))
      · refine V_aload_n C dX5_watch_27 rfl ?_
        refine V_aload_n C dX5_watch_28 rfl ?_
        refine V_get C dX5_watch_29 (rdLeast (by first | assumption | omega)) in_X5 (by decide) q152 rfl ?_
        refine V_aload_n C dX5_watch_32 rfl ?_
        refine V_getN C hE.nw dX5_watch_33 (rdH (by first | assumption | omega) hlt 1 rfl) in_X1 (by decide) q104 rfl ?_
        refine V_mmin C dX5_watch_36 q360 q361 q69 q362 rfl rfl (Nat.zero_le _) (Nat.zero_le _) ?_
        refine V_put C dX5_watch_39 (wrLeast (by first | assumption | omega)) ft_X5 (by decide) q152 rfl rfl rfl rfl ?_
        try simp only [us_us, us_s, lw_u0, lw_0, us_n hne5]
        refine V_aload_n C dX5_watch_42 rfl ?_
        refine V_aload_n C dX5_watch_43 rfl ?_
        refine V_get C dX5_watch_44 (rdChill (by first | assumption | omega)) in_X5 (by decide) q156 rfl ?_
        simp only [us_s, lw_1]
        refine V_if_ne C dX5_watch_47 (fun c47 => ?_) (fun c47 => ?_)
        · refine V_iconst C 1 dX5_watch_57 (by decide) ?_
          refine V_goto C dX5_watch_58 ?_
          refine V_put C dX5_watch_62 (wrChill hv (Or.inr rfl)) ft_X5 (by decide) q156 rfl rfl rfl rfl ?_
          simp only [us_us, us_s, lw_u0, lw_u1]
          refine V_forget 2 ?_
          refine V_iinc C 1 dX5_watch_65 rfl (by decide) rfl ?_
          refine V_goto C dX5_watch_68 ?_
          exact V_nx (congrArg (us σ (5+v)) (wtB h01 c24 c47)) (by simp [← nI_1] <;> rfl) (ih (i + 1) (by omega))
        · refine V_aload_n C dX5_watch_50 rfl ?_
          refine V_cv C hE dX5_watch_51 (c_X1_isCold (i := i) hv (by rw [us_n hne5]; omega)) kyX1_isCold q431 (isoH (by first | assumption | omega) (by first | assumption | omega)) rfl rfl rfl ?_
          try simp only [us_us, us_s, lw_u0, lw_0, us_n hne5]
          refine V_ifeq_b C dX5_watch_54 (fun c54 => ?_) (fun c54 => ?_)
          · refine V_iconst C 0 dX5_watch_61 (by decide) ?_
            refine V_put C dX5_watch_62 (wrChill hv (Or.inl rfl)) ft_X5 (by decide) q156 rfl rfl rfl rfl ?_
            simp only [us_us, us_s, lw_u0, lw_u1]
            refine V_forget 2 ?_
            refine V_iinc C 1 dX5_watch_65 rfl (by decide) rfl ?_
            refine V_goto C dX5_watch_68 ?_
            exact V_nx (congrArg (us σ (5+v)) (wtC c24 c47 c54)) (by simp [← nI_1] <;> rfl) (ih (i + 1) (by omega))
          · refine V_iconst C 1 dX5_watch_57 (by decide) ?_
            refine V_goto C dX5_watch_58 ?_
            refine V_put C dX5_watch_62 (wrChill hv (Or.inr rfl)) ft_X5 (by decide) q156 rfl rfl rfl rfl ?_
            simp only [us_us, us_s, lw_u0, lw_u1]
            refine V_forget 2 ?_
            refine V_iinc C 1 dX5_watch_65 rfl (by decide) rfl ?_
            refine V_goto C dX5_watch_68 ?_
            exact V_nx (congrArg (us σ (5+v)) (wtD c24 c54)) (by simp [← nI_1] <;> rfl) (ih (i + 1) (by omega))
  refine V_iconst C 0 dX5_watch_0 (by decide) ?_
  refine V_istore_n C dX5_watch_1 rfl ?_
  exact V_nx (by show σ = us σ (5+v) (lw (σ (5+v)) (σ (5+v) 0) (σ (5+v) 1)); rw [lw_id, us_id]) rfl (lp (nh (σ v)) 0 (by omega))

theorem us_com {σ : Sg} {c d : Nat} {f g : Nat → Int32} (h : d ≠ c) : us (us (us σ c f) d g) c = fun f2 => us (us σ c f2) d g := by
  funext f2 k
  unfold us
  by_cases h1 : k = c
  · subst h1; simp [Ne.symm h]
  · simp [h1]
theorem nh_goF {f : Nat → Int32} {b : Nat} : nh (goF f b) = nh f := by unfold goF; rw [nh_upd (by omega), nh_upd (by omega)]
theorem Inv_goF {f : Nat → Int32} {b : Nat} (h : Inv f) (hw : 0 ≤ wayF f (hx f) b) : Inv (goF f b) :=
  Inv_upd (Inv_upd h (by omega) (by omega) (by omega) (fun _ => hw) (by omega)) (by omega) (by omega) (by omega) (by omega) (by omega)

theorem c_X5_leg {l : Launch} {E : En} {σ : Sg} {v : Nat} {b n : Nat} {p1 : Int32} (hv : v < 5) (hat : σ v 2 = nI (hx (σ v))) (ha : hx (σ v) ≤ 7) (hb : b ≤ 7) (hI : Inv (σ v)) (hw : 0 ≤ wayF (σ v) (hx (σ v)) b) (hn : wayF (σ v) (hx (σ v)) b + p1 = nI n) (hn2 : n < 2 ^ 31) : MD l yX5_leg cX5_leg 5 none rmX5_leg E [.ref (ad E (vb v)), .int (nI b), .int p1] σ none (us (us σ v (passN n (goF (σ v) b))) (5+v) (lw (σ (5+v)) (lgA (goF (σ v) b) (σ (5+v) 0) n) (lgC (goF (σ v) b) (σ (5+v) 1) n))) := by
  refine MD_of (by decide +kernel) rfl fun x C hE hT hcan => ?_
  have C : CX x cX5_leg RX5 rmX5_leg := C
  have hne5 : v ≠ 5 + v := by omega
  have hne6 : 5 + v ≠ v := by omega
  have hIg := Inv_goF (b := b) hI hw
  refine V_L (L' := [some (.ref (ad E (vb v))), some (.int (nI b)), some (.int p1), none, none]) rfl ?_
  have lp : ∀ (d i : Nat), i + d = n → V x (eA E) (AP x E (us (us σ v (passN i (goF (σ v) b))) (5+v) (lw (σ (5+v)) (lgA (goF (σ v) b) (σ (5+v) 0) i) (lgC (goF (σ v) b) (σ (5+v) 1) i)))) 0 0 11 [some (.ref (ad E (vb v))), some (.int (nI b)), some (.int p1), some (.int (nI n)), some (.int (nI i))] [] := by
    intro d
    induction d with
    | zero =>
      intro i hi'
      have hN : i = n := by omega
      refine V_iload C dX5_leg_11 rfl ?_
      refine V_iload_n C dX5_leg_13 rfl ?_
      refine V_icmp_ge C dX5_leg_14 (fun c14 => ?_) (fun c14 => absurd (nI_le (by omega) (by omega)) c14)
      exact V_retD C dX5_leg_31 hT (by rw [hN])
    | succ d ih =>
      intro i hi'
      refine V_iload C dX5_leg_11 rfl ?_
      refine V_iload_n C dX5_leg_13 rfl ?_
      refine V_icmp_ge C dX5_leg_14 (fun c14 => absurd c14 (nI_ge (by omega) (by omega))) (fun c14 => ?_)
      refine V_aload_n C dX5_leg_17 rfl ?_
      refine V_cv0 C hE dX5_leg_18 (c_X5_passOne hv (by rw [us_n hne5, us_s]; exact Inv_passN hIg i)) kyX5_passOne q390 (isoV (by first | assumption | omega)) rfl rfl rfl ?_
      refine V_aload_n C dX5_leg_21 rfl ?_
      refine V_cv0 C hE dX5_leg_22 (c_X5_watch hv) kyX5_watch q540 (isoV (by first | assumption | omega)) rfl rfl rfl ?_
      refine V_iinc C 1 dX5_leg_25 rfl (by decide) rfl ?_
      refine V_goto C dX5_leg_28 ?_
      exact V_nx (by simp only [us_us, us_s, us_n hne5, us_n hne6, us_com hne6, lw_0, lw_1, lw_lw]; rfl) (by simp [← nI_1] <;> rfl) (ih (i + 1) (by omega))
  refine V_aload_n C dX5_leg_0 rfl ?_
  refine V_iload_n C dX5_leg_1 rfl ?_
  refine V_cv C hE dX5_leg_2 (c_X5_go hv hat ha hb) kyX5_go q539 (isoV (by first | assumption | omega)) rfl rfl rfl ?_
  refine V_iload_n C dX5_leg_5 rfl ?_
  refine V_iadd C dX5_leg_6 ?_
  rw [hn]
  refine V_istore_n C dX5_leg_7 rfl ?_
  refine V_iconst C 0 dX5_leg_8 (by decide) ?_
  refine V_istore C dX5_leg_9 rfl ?_
  exact V_nx (by show _ = us (us σ v (goF (σ v) b)) (5+v) (lw (σ (5+v)) (σ (5+v) 0) (σ (5+v) 1)); rw [lw_id]; have e := us_id (us σ v (goF (σ v) b)) (5+v); rw [us_n hne6] at e; exact e.symm) rfl (lp n 0 (by omega))

