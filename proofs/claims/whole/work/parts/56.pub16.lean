theorem c_X9_now {l : Launch} {E : En} {σ : Sg} {p0 : Int32}  : MN l yX9_now cX9_now 2 (some .int) rmX9_now E [.ref (ad E 73), .int p0] σ (PQ σ (S_now (σ 74) p0) (σ)) := by
  refine MN_of (by decide +kernel) rfl fun x C hE hT hcan => ?_
  have C : CX x cX9_now RX9 rmX9_now := C
  refine V_L (L' := [some (.ref (ad E 73)), some (.int p0)]) rfl ?_
  refine V_iload_n C dX9_now_0 rfl ?_
  rcases sw6 p0 with rfl | rfl | rfl | rfl | rfl | rfl | rfl | hsw
  · refine V_tableIn (tgt := 44) C dX9_now_1 (by decide) (by decide) rfl (by decide) ?_
    refine V_aload_n C dX9_now_44 rfl ?_
    refine V_get C dX9_now_45 (rdO (j := 0) 73 rfl rfl rfl rfl rfl) in_X9 (by decide) q907 rfl ?_
    refine V_iconst C 0 dX9_now_48 (by decide) ?_
    refine V_iald C 0 rfl rfl rfl dX9_now_49 (rdM 74 0 rfl rfl rfl) ?_
    exact V_iretN C dX9_now_50 hT (PQ_rd (by rfl) (EqY.rf σ))
  · refine V_tableIn (tgt := 51) C dX9_now_1 (by decide) (by decide) rfl (by decide) ?_
    refine V_aload_n C dX9_now_51 rfl ?_
    refine V_get C dX9_now_52 (rdO (j := 0) 73 rfl rfl rfl rfl rfl) in_X9 (by decide) q907 rfl ?_
    refine V_iconst C 2 dX9_now_55 (by decide) ?_
    refine V_iald C 2 rfl rfl rfl dX9_now_56 (rdM 74 2 rfl rfl rfl) ?_
    exact V_iretN C dX9_now_57 hT (PQ_rd (by rfl) (EqY.rf σ))
  · refine V_tableIn (tgt := 58) C dX9_now_1 (by decide) (by decide) rfl (by decide) ?_
    refine V_aload_n C dX9_now_58 rfl ?_
    refine V_get C dX9_now_59 (rdO (j := 0) 73 rfl rfl rfl rfl rfl) in_X9 (by decide) q907 rfl ?_
    refine V_iconst C 3 dX9_now_62 (by decide) ?_
    refine V_iald C 3 rfl rfl rfl dX9_now_63 (rdM 74 3 rfl rfl rfl) ?_
    exact V_iretN C dX9_now_64 hT (PQ_rd (by rfl) (EqY.rf σ))
  · refine V_tableIn (tgt := 65) C dX9_now_1 (by decide) (by decide) rfl (by decide) ?_
    refine V_aload_n C dX9_now_65 rfl ?_
    refine V_cv C hE dX9_now_66 (c_X9_coldSet) kyX9_coldSet q1110 (isoO 73 rfl rfl rfl rfl) rfl rfl rfl ?_
    exact V_iretN C dX9_now_69 hT (PQ_rd (by rfl) (EqY.rf σ))
  · refine V_tableIn (tgt := 70) C dX9_now_1 (by decide) (by decide) rfl (by decide) ?_
    refine V_aload_n C dX9_now_70 rfl ?_
    refine V_get C dX9_now_71 (rdO (j := 0) 73 rfl rfl rfl rfl rfl) in_X9 (by decide) q907 rfl ?_
    refine V_iconst C 4 dX9_now_74 (by decide) ?_
    refine V_iald C 4 rfl rfl rfl dX9_now_75 (rdM 74 4 rfl rfl rfl) ?_
    exact V_iretN C dX9_now_76 hT (PQ_rd (by rfl) (EqY.rf σ))
  · refine V_tableIn (tgt := 77) C dX9_now_1 (by decide) (by decide) rfl (by decide) ?_
    refine V_aload_n C dX9_now_77 rfl ?_
    refine V_get C dX9_now_78 (rdO (j := 0) 73 rfl rfl rfl rfl rfl) in_X9 (by decide) q907 rfl ?_
    refine V_iconst C 5 dX9_now_81 (by decide) ?_
    refine V_iald C 5 rfl rfl rfl dX9_now_82 (rdM 74 5 rfl rfl rfl) ?_
    exact V_iretN C dX9_now_83 hT (PQ_rd (by rfl) (EqY.rf σ))
  · refine V_tableIn (tgt := 84) C dX9_now_1 (by decide) (by decide) rfl (by decide) ?_
    refine V_aload_n C dX9_now_84 rfl ?_
    refine V_get C dX9_now_85 (rdO (j := 0) 73 rfl rfl rfl rfl rfl) in_X9 (by decide) q907 rfl ?_
    refine V_bipush C 6 dX9_now_88 (by decide) ?_
    refine V_iald C 6 rfl rfl rfl dX9_now_90 (rdM 74 6 rfl rfl rfl) ?_
    exact V_iretN C dX9_now_91 hT (PQ_rd (by rfl) (EqY.rf σ))
  · refine V_tableOut (tgt := 92) C dX9_now_1 (hsw) (by decide) ?_
    refine V_aload_n C dX9_now_92 rfl ?_
    refine V_ldc C dX9_now_93 q994 ?_
    refine V_cv C hE dX9_now_95 (c_X9_finds (j := 0) (by decide +kernel) (by omega)) kyX9_finds q995 (isoO 73 rfl rfl rfl rfl) rfl rfl rfl ?_
    exact V_iretN C dX9_now_98 hT (PQ_fail (by decide +kernel) (by obtain ⟨a0, a1, a2, a3, a4, a5, a6⟩ := sw6n hsw; unfold S_now; rw [if_neg a0, if_neg a1, if_neg a2, if_neg a3, if_neg a4, if_neg a5, if_neg a6]) (EqY.rf σ))

theorem c_X6_givesUp {l : Launch} {E : En} {σ : Sg} {v : Nat} (hv : v < 5) (hw : eW E = 1) : MD l yX6_givesUp cX6_givesUp 2 (some .boolean) rmX6_givesUp E [.ref (ad E 85), .ref (ad E (vb v))] σ (some (.int (bI (σ (5+v) 0 ≤ σ 85 0)))) (σ) := by
  refine MD_of (by decide +kernel) rfl fun x C hE hT hcan => ?_
  have C : CX x cX6_givesUp RX6 rmX6_givesUp := C
  have hw0 : eW E ≠ 0 := by omega
  refine V_L (L' := [some (.ref (ad E 85)), some (.ref (ad E (vb v)))]) rfl ?_
  refine V_aload_n C dX6_givesUp_0 rfl ?_
  refine V_getN C hE.nw dX6_givesUp_1 (rdLeast (by first | assumption | omega)) in_X5 (by decide) q153 rfl ?_
  refine V_aload_n C dX6_givesUp_4 rfl ?_
  refine V_get C dX6_givesUp_5 (rd85 (j := 0) hw0 (cel85_1 hw _) rfl rfl) in_X6 (by decide) q561 rfl ?_
  refine V_icmp_gt C dX6_givesUp_8 (fun c8 => ?_) (fun c8 => ?_)
  · refine V_iconst C 0 dX6_givesUp_15 (by decide) ?_
    exact V_zretD C dX6_givesUp_16 hT (by first | exact (bI_t (Int32.not_lt.mp c8)).symm | exact (bI_f (Int32.not_le.mpr c8)).symm) rfl
  · refine V_iconst C 1 dX6_givesUp_11 (by decide) ?_
    refine V_goto C dX6_givesUp_12 ?_
    exact V_zretD C dX6_givesUp_16 hT (by first | exact (bI_t (Int32.not_lt.mp c8)).symm | exact (bI_f (Int32.not_le.mpr c8)).symm) rfl

theorem c_X6_look {l : Launch} {E : En} {σ : Sg} {v : Nat} {p1 : Int32} (hv : v < 5) (hw : eW E = 1) : MD l yX6_look cX6_look 3 none rmX6_look E [.ref (ad E 85), .ref (ad E (vb v)), .int p1] σ none (us σ 85 (if σ 85 0 < σ (5+v) 0 then upd (upd (σ 85) 0 (σ (5+v) 0)) 1 p1 else σ 85)) := by
  refine MD_of (by decide +kernel) rfl fun x C hE hT hcan => ?_
  have C : CX x cX6_look RX6 rmX6_look := C
  have hw0 : eW E ≠ 0 := by omega
  refine V_L (L' := [some (.ref (ad E 85)), some (.ref (ad E (vb v))), some (.int p1)]) rfl ?_
  refine V_aload_n C dX6_look_0 rfl ?_
  refine V_getN C hE.nw dX6_look_1 (rdLeast (by first | assumption | omega)) in_X5 (by decide) q153 rfl ?_
  refine V_aload_n C dX6_look_4 rfl ?_
  refine V_get C dX6_look_5 (rd85 (j := 0) hw0 (cel85_1 hw _) rfl rfl) in_X6 (by decide) q561 rfl ?_
  refine V_icmp_le C dX6_look_8 (fun c8 => ?_) (fun c8 => ?_)
  · exact V_retD C dX6_look_24 hT (by first | rw [if_pos (Int32.not_le.mp c8)] | rw [if_neg (Int32.not_lt.mpr c8), us_id])
  · refine V_aload_n C dX6_look_11 rfl ?_
    refine V_aload_n C dX6_look_12 rfl ?_
    refine V_getN C hE.nw dX6_look_13 (rdLeast (by first | assumption | omega)) in_X5 (by decide) q153 rfl ?_
    refine V_put C dX6_look_16 (wr85 (j := 0) hw0 (cel85_1 hw _) rfl (by simp) (by rw [cel85_1 hw _]; simp [upd])) ft_X6 (by decide) q561 rfl rfl rfl rfl ?_
    try simp (disch := omega) only [us_us, us_s, us_n, upd_s, upd_n]
    refine V_aload_n C dX6_look_19 rfl ?_
    refine V_iload_n C dX6_look_20 rfl ?_
    refine V_put C dX6_look_21 (wr85 (j := 1) hw0 (cel85_1 hw _) rfl (by simp) (by rw [cel85_1 hw _]; simp [upd])) ft_X6 (by decide) q563 rfl rfl rfl rfl ?_
    try simp (disch := omega) only [us_us, us_s, us_n, upd_s, upd_n]
    exact V_retD C dX6_look_24 hT (by first | rw [if_pos (Int32.not_le.mp c8)] | rw [if_neg (Int32.not_lt.mpr c8), us_id])

theorem tgu_a {y a b c : Int32} (h : ¬ y = 0) : bI (¬ y = 0 ∨ (0 ≤ a ∧ b ≤ c)) = 1 := bI_t (Or.inl h)
theorem tgu_b {y a b c : Int32} (h : y = 0) (h2 : a < 0) : bI (¬ y = 0 ∨ (0 ≤ a ∧ b ≤ c)) = 0 := bI_f (fun q => q.elim (fun z => z h) (fun z => absurd z.1 (Int32.not_le.mpr h2)))
theorem tgu_c {y a b c : Int32} (h : y = 0) (h2 : c < b) : bI (¬ y = 0 ∨ (0 ≤ a ∧ b ≤ c)) = 0 := bI_f (fun q => q.elim (fun z => z h) (fun z => absurd z.2 (Int32.not_le.mpr h2)))
theorem tgu_d {y a b c : Int32} (h : ¬ a < 0) (h2 : ¬ c < b) : bI (¬ y = 0 ∨ (0 ≤ a ∧ b ≤ c)) = 1 := bI_t (Or.inr ⟨Int32.not_lt.mp h, Int32.not_lt.mp h2⟩)

theorem c_X4_givesUp {l : Launch} {E : En} {σ : Sg} {v : Nat} (hv : v < 5) (hw : eW E = 2) : MD l yX4_givesUp cX4_givesUp 2 (some .boolean) rmX4_givesUp E [.ref (ad E 85), .ref (ad E (vb v))] σ (some (.int (bI (¬ σ (5+v) 1 = 0 ∨ (0 ≤ σ 85 1 ∧ σ 85 0 ≤ σ v 4))))) (σ) := by
  refine MD_of (by decide +kernel) rfl fun x C hE hT hcan => ?_
  have C : CX x cX4_givesUp RX4 rmX4_givesUp := C
  have hw0 : eW E ≠ 0 := by omega
  refine V_L (L' := [some (.ref (ad E 85)), some (.ref (ad E (vb v)))]) rfl ?_
  refine V_aload_n C dX4_givesUp_0 rfl ?_
  refine V_getN C hE.nw dX4_givesUp_1 (rdChill (by first | assumption | omega)) in_X5 (by decide) q155 rfl ?_
  refine V_if_ne C dX4_givesUp_4 (fun c4 => ?_) (fun c4 => ?_)
  · refine V_iconst C 1 dX4_givesUp_25 (by decide) ?_
    refine V_goto C dX4_givesUp_26 ?_
    exact V_zretD C dX4_givesUp_30 hT (by first | exact (tgu_a c4).symm | exact (tgu_b c4 c11).symm | exact (tgu_c c4 c22).symm | exact (tgu_d c11 c22).symm) rfl
  · refine V_aload_n C dX4_givesUp_7 rfl ?_
    refine V_get C dX4_givesUp_8 (rd85 (j := 1) hw0 (cel85_2 hw _) rfl rfl) in_X4 (by decide) q624 rfl ?_
    refine V_if_lt C dX4_givesUp_11 (fun c11 => ?_) (fun c11 => ?_)
    · refine V_iconst C 0 dX4_givesUp_29 (by decide) ?_
      exact V_zretD C dX4_givesUp_30 hT (by first | exact (tgu_a c4).symm | exact (tgu_b c4 c11).symm | exact (tgu_c c4 c22).symm | exact (tgu_d c11 c22).symm) rfl
    · refine V_aload_n C dX4_givesUp_14 rfl ?_
      refine V_getN C hE.nw dX4_givesUp_15 (rdV (by first | assumption | omega) 9 4 rfl rfl rfl) in_X5 (by decide) q147 rfl ?_
      refine V_aload_n C dX4_givesUp_18 rfl ?_
      refine V_get C dX4_givesUp_19 (rd85 (j := 0) hw0 (cel85_2 hw _) rfl rfl) in_X4 (by decide) q623 rfl ?_
      refine V_icmp_lt C dX4_givesUp_22 (fun c22 => ?_) (fun c22 => ?_)
      · refine V_iconst C 0 dX4_givesUp_29 (by decide) ?_
        exact V_zretD C dX4_givesUp_30 hT (by first | exact (tgu_a c4).symm | exact (tgu_b c4 c11).symm | exact (tgu_c c4 c22).symm | exact (tgu_d c11 c22).symm) rfl
      · refine V_iconst C 1 dX4_givesUp_25 (by decide) ?_
        refine V_goto C dX4_givesUp_26 ?_
        exact V_zretD C dX4_givesUp_30 hT (by first | exact (tgu_a c4).symm | exact (tgu_b c4 c11).symm | exact (tgu_c c4 c22).symm | exact (tgu_d c11 c22).symm) rfl

theorem c_X4_look {l : Launch} {E : En} {σ : Sg} {v : Nat} {p1 : Int32} (hv : v < 5) (hw : eW E = 2) : MD l yX4_look cX4_look 3 none rmX4_look E [.ref (ad E 85), .ref (ad E (vb v)), .int p1] σ none (us σ 85 (if (¬ σ (5+v) 1 = 0 ∨ (0 ≤ σ 85 1 ∧ σ 85 0 ≤ σ v 4)) then σ 85 else upd (upd (σ 85) 0 (σ v 4)) 1 p1)) := by
  refine MD_of (by decide +kernel) rfl fun x C hE hT hcan => ?_
  have C : CX x cX4_look RX4 rmX4_look := C
  have hw0 : eW E ≠ 0 := by omega
  refine V_L (L' := [some (.ref (ad E 85)), some (.ref (ad E (vb v))), some (.int p1)]) rfl ?_
  refine V_aload_n C dX4_look_0 rfl ?_
  refine V_aload_n C dX4_look_1 rfl ?_
  refine V_cv C hE dX4_look_2 (c_X4_givesUp hv hw) kyX4_givesUp q601 (iso85 hw0 (cel85_2 hw _) rfl) rfl rfl rfl ?_
  try simp (disch := omega) only [us_us, us_s, us_n, upd_s, upd_n]
  refine V_ifne_b C dX4_look_5 (fun c5 => ?_) (fun c5 => ?_)
  · exact V_retD C dX4_look_21 hT (by first | rw [if_pos c5, us_id] | rw [if_neg c5])
  · refine V_aload_n C dX4_look_8 rfl ?_
    refine V_aload_n C dX4_look_9 rfl ?_
    refine V_getN C hE.nw dX4_look_10 (rdV (by first | assumption | omega) 9 4 rfl rfl rfl) in_X5 (by decide) q147 rfl ?_
    refine V_put C dX4_look_13 (wr85 (j := 0) hw0 (cel85_2 hw _) rfl (by simp) (by rw [cel85_2 hw _]; simp [upd])) ft_X4 (by decide) q623 rfl rfl rfl rfl ?_
    try simp (disch := omega) only [us_us, us_s, us_n, upd_s, upd_n]
    refine V_aload_n C dX4_look_16 rfl ?_
    refine V_iload_n C dX4_look_17 rfl ?_
    refine V_put C dX4_look_18 (wr85 (j := 1) hw0 (cel85_2 hw _) rfl (by simp) (by rw [cel85_2 hw _]; simp [upd])) ft_X4 (by decide) q624 rfl rfl rfl rfl ?_
    try simp (disch := omega) only [us_us, us_s, us_n, upd_s, upd_n]
    exact V_retD C dX4_look_21 hT (by first | rw [if_pos c5, us_id] | rw [if_neg c5])

theorem c_X0_givesUp {l : Launch} {E : En} {σ : Sg} {v : Nat} {s : Nat} (hw : eW E = 3 + s) (hs : s < 4) : MD l yX0_givesUp cX0_givesUp 2 (some .boolean) rmX0_givesUp E [.ref (ad E 85), .ref (ad E (vb v))] σ (some (.int 0)) (σ) := by
  refine MD_of (by decide +kernel) rfl fun x C hE hT hcan => ?_
  have C : CX x cX0_givesUp RX0 rmX0_givesUp := C
  refine V_L (L' := [some (.ref (ad E 85)), some (.ref (ad E (vb v)))]) rfl ?_
  refine V_iconst C 0 dX0_givesUp_0 (by decide) ?_
  exact V_zretT C dX0_givesUp_1 hT (Or.inl rfl) rfl rfl

theorem c_X0_look {l : Launch} {E : En} {σ : Sg} {v : Nat} {s m : Nat} {p1 : Int32} (hv : v < 5) (hw : eW E = 3 + s) (hs : s < 4) (hm : m ≤ 40) (hml : σ (shc s) 2 = nI m) : MD l yX0_look cX0_look 6 none rmX0_look E [.ref (ad E 85), .ref (ad E (vb v)), .int p1] σ none (us σ 85 (upd (σ 85) 1 (σ 85 1 + fitB (σ (nmc s)) m (σ v) (nh (σ v))))) := by
  refine MD_of (by decide +kernel) rfl fun x C hE hT hcan => ?_
  have C : CX x cX0_look RX0 rmX0_look := C
  have hw0 : eW E ≠ 0 := by omega
  have h8 : nh (σ v) ≤ 8 := (hcan.1 v hv).2.1
  refine V_L (L' := [some (.ref (ad E 85)), some (.ref (ad E (vb v))), some (.int p1), none, none, none]) rfl ?_
  refine V_aload_n C dX0_look_0 rfl ?_
  refine V_get C dX0_look_1 (rd85 (j := 0) hw0 (cel85_3 hw hs _) rfl rfl) in_X0 (by decide) q865 rfl ?_
  refine V_getN C hE.nw dX0_look_4 (rdShL (by first | assumption | omega)) in_X3 (by decide) q223 rfl ?_
  refine V_aload_n C dX0_look_7 rfl ?_
  refine V_getN C hE.nw dX0_look_8 (rdV (by first | assumption | omega) 3 1 rfl rfl rfl) in_X5 (by decide) q134 rfl ?_
  refine V_st (st' := [.int (nI (nh (σ v))), .int (nI m)]) (by rw [hml, (hcan.1 v hv).1]) ?_
  refine V_mmin C dX0_look_11 q592 q361 q69 q362 rfl rfl (Nat.zero_le _) (Nat.zero_le _) ?_
  refine V_st (st' := [.int (nI (min m (nh (σ v))))]) (by rw [mn_nI (by omega) (by omega)]) ?_
  refine V_istore_n C dX0_look_14 rfl ?_
  refine V_iconst C 0 dX0_look_15 (by decide) ?_
  refine V_istore C dX0_look_16 rfl ?_
  have lp : ∀ (d i : Nat) , i + d = (min m (nh (σ v))) → (∀ j, j < i → hf (σ v) j 5 = σ (nmc s) j) → V x (eA E) (AP x E (σ)) 0 0 18 [some (.ref (ad E 85)), some (.ref (ad E (vb v))), some (.int p1), some (.int (nI (min m (nh (σ v))))), some (.int (nI i)), none] [] := by
    intro d
    induction d with
    | zero =>
      intro i  hi' hp
      have hN : i = (min m (nh (σ v))) := by omega
      refine V_iload C dX0_look_18 rfl ?_
      refine V_iload_n C dX0_look_20 rfl ?_
      refine V_icmp_ge C dX0_look_21 (fun c21 => ?_) (fun c21 => absurd (by rw [hN] <;> exact nI_le (Nat.le_refl _) (by omega)) c21)
      refine V_aload_n C dX0_look_61 rfl ?_
      refine V_dup C dX0_look_62 rfl ?_
      refine V_get C dX0_look_63 (rd85 (j := 1) hw0 (cel85_3 hw hs _) rfl rfl) in_X0 (by decide) q866 rfl ?_
      refine V_iconst C 1 dX0_look_66 (by decide) ?_
      refine V_iadd C dX0_look_67 ?_
      refine V_put C dX0_look_68 (wr85 (j := 1) hw0 (cel85_3 hw hs _) rfl (by simp) (by rw [cel85_3 hw hs _]; simp [upd])) ft_X0 (by decide) q866 rfl rfl rfl rfl ?_
      try simp (disch := omega) only [us_us, us_s, us_n, upd_s, upd_n]
      exact V_retD C dX0_look_71 hT (by rw [show fitB (σ (nmc s)) m (σ v) (nh (σ v)) = 1 from fitB_t (fit_of _ (fun j hj hjm => hp j (by omega)))])
    | succ d ih =>
      intro i  hi' hp
      refine V_iload C dX0_look_18 rfl ?_
      refine V_iload_n C dX0_look_20 rfl ?_
      refine V_icmp_ge C dX0_look_21 (fun c21 => absurd c21 (nI_ge (by omega) (by omega))) (fun c21 => ?_)
      refine V_aload_n C dX0_look_24 rfl ?_
      refine V_iload C dX0_look_25 rfl ?_
      refine V_cv C hE dX0_look_27 (c_X5_get (v := v) (i := i) hv (by omega)) kyX5_get q593 (isoV (by first | assumption | omega)) rfl rfl rfl ?_
      try simp (disch := omega) only [us_us, us_s, us_n, upd_s, upd_n]
      refine V_astore C dX0_look_30 rfl ?_
      refine V_aload C dX0_look_32 rfl ?_
      refine V_ifnull C dX0_look_34 ?_
      refine V_aload C dX0_look_37 rfl ?_
      refine V_getN C hE.nw dX0_look_39 (rdH (v := v) (i := i) hv (by omega) 5 rfl) in_X1 (by decide) q112 rfl ?_
      refine V_aload_n C dX0_look_42 rfl ?_
      refine V_get C dX0_look_43 (rd85 (j := 0) hw0 (cel85_3 hw hs _) rfl rfl) in_X0 (by decide) q865 rfl ?_
      refine V_iload C dX0_look_46 rfl ?_
      refine V_cv C hE dX0_look_48 (c_X3_get (s := s) (i := i) hs (by omega)) kyX3_get q594 (isoSh (by first | assumption | omega)) rfl rfl rfl ?_
      try simp (disch := omega) only [us_us, us_s, us_n, upd_s, upd_n]
      refine V_icmp_eq C dX0_look_51 (fun c51 => ?_) (fun c51 => ?_)
      · refine V_forget 5 ?_
        refine V_iinc C 1 dX0_look_55 rfl (by decide) rfl ?_
        refine V_goto C dX0_look_58 ?_
        exact V_nx rfl (by simp [← nI_1] <;> rfl) (ih (i + 1) (by omega) (fun j hj => by rcases Nat.lt_or_ge j i with q | q; exact hp j q; rw [show j = i by omega]; exact c51))
      · exact V_retD C dX0_look_54 hT (by rw [show fitB (σ (nmc s)) m (σ v) (nh (σ v)) = 0 from fitB_f (fun q => c51 (fit_at _ q i (by omega) (by omega))), Int32.add_zero, upd_id, us_id])
  exact lp (min m (nh (σ v))) 0 (by omega) (fun j hj => absurd hj (by omega))

