theorem c_X9_load {l : Launch} {E : En} {σ : Sg} {p0 : Int32}  (hln : ∀ s, s < 4 → ∃ n, n ≤ 40 ∧ σ 82 s = nI n) : MN l yX9_load cX9_load 4 (some .int) rmX9_load E [.ref (ad E 73), .int p0] σ (PQ σ (S_load (tM σ) p0) (us σ 74 (N_load (tM σ) (hk p0)))) := by
  refine MN_of (by decide +kernel) rfl fun x C hE hT hcan => ?_
  have C : CX x cX9_load RX9 rmX9_load := C
  have h8 : nh (σ 74) ≤ 8 := (hcan.2.1 74 (by omega) (by omega)).2.1
  have hn1 := (hcan.2.1 74 (by omega) (by omega)).1
  refine V_L (L' := [some (.ref (ad E 73)), some (.int p0), none, none]) rfl ?_
  refine V_aload_n C dX9_load_0 rfl ?_
  refine V_iload_n C dX9_load_1 rfl ?_
  by_cases hq : inP p0 0 3
  · obtain ⟨s, rfl, hs3⟩ := i32_le (m := 3) (by omega) hq.1 hq.2
    have hs : s < 4 := by omega
    have hks : hk (nI s) = s := hk_n (by omega)
    refine V_cv C hE dX9_load_2 (c_X9_wrong hs) kyX9_wrong q1389 (isoO 73 rfl rfl rfl rfl) rfl rfl rfl ?_
    by_cases hb : σ 81 s = 0
    · refine V_st (st' := [.int (-1000006)]) (by rw [if_pos hb]) ?_
      refine V_istore_n C dX9_load_5 rfl ?_
      refine V_iload_n C dX9_load_6 rfl ?_
      refine V_if_eq C dX9_load_7 (fun c7 => absurd c7 (by decide)) (fun c7 => ?_)
      refine V_aload_n C dX9_load_10 rfl ?_
      refine V_iload_n C dX9_load_11 rfl ?_
      refine V_cv C hE dX9_load_12 (c_X9_finds (j := 5) (by decide +kernel) (by omega)) kyX9_finds q995 (isoO 73 rfl rfl rfl rfl) rfl rfl rfl ?_
      exact V_iretN C dX9_load_15 hT (PQ_fail (by decide +kernel) (by unfold S_load; rw [if_pos hq, hks, tM_b hs, if_pos hb]) (EqY.rf σ))
    · refine V_st (st' := [.int 0]) (by rw [if_neg hb]) ?_
      obtain ⟨m, hm, hml⟩ := hln s hs
      refine V_istore_n C dX9_load_5 rfl ?_
      refine V_iload_n C dX9_load_6 rfl ?_
      refine V_if_eq C dX9_load_7 (fun c7 => ?_) (fun c7 => absurd (rfl) c7)
      refine V_iconst C 0 dX9_load_16 (by decide) ?_
      refine V_istore_n C dX9_load_17 rfl ?_
      have hkm : hk (σ 82 s) = m := by rw [hml]; exact hk_n (by omega)
      have lp : ∀ (d i : Nat) , i + d = m → (∀ j, 0 ≤ j → j < i → ldP (σ 74) (fun i => σ 83 (40 * s + i)) j = false) → V x (eA E) (AP x E (us σ 74 (ldF (σ 74) (fun i => σ 83 (40 * s + i)) i))) 0 0 18 [some (.ref (ad E 73)), some (.int (nI s)), some (.int 0), some (.int (nI i))] [] := by
        intro d
        induction d with
        | zero =>
          intro i  hi' hp
          have hN : i = m := by omega
          refine V_iload_n C dX9_load_18 rfl ?_
          refine V_aload_n C dX9_load_19 rfl ?_
          refine V_get C dX9_load_20 (rdO (j := 23) 73 rfl rfl rfl rfl rfl) in_X9 (by decide) q930 rfl ?_
          refine V_iload_n C dX9_load_23 rfl ?_
          refine V_ialdN C s rfl (hs) (by omega) dX9_load_24 (rdOA 82 rfl rfl rfl) ?_
          try simp (disch := omega) only [us_us, us_s, us_n]
          refine V_icmp_ge C dX9_load_25 (fun c25 => ?_) (fun c25 => absurd (by rw [hml, hN] <;> exact nI_le (Nat.le_refl _) (by omega)) c25)
          subst hN
          refine V_iload_n C dX9_load_87 rfl ?_
          exact V_iretN C dX9_load_88 hT (PQ_ok (by unfold S_load; rw [if_pos hq, hks, tM_b hs, if_neg hb, tM_l hs, tM_n hs, tM_0, hkm, ldK_none (fun j h1 h2 => hp j h1 (by omega))]) (us_n (by omega)) (by rw [hks]; unfold N_load; rw [tM_l hs, tM_n hs, tM_0, hkm, ldK_none (fun j h1 h2 => hp j h1 (by omega))]; exact EqY.rf _))
        | succ d ih =>
          intro i  hi' hp
          refine V_iload_n C dX9_load_18 rfl ?_
          refine V_aload_n C dX9_load_19 rfl ?_
          refine V_get C dX9_load_20 (rdO (j := 23) 73 rfl rfl rfl rfl rfl) in_X9 (by decide) q930 rfl ?_
          refine V_iload_n C dX9_load_23 rfl ?_
          refine V_ialdN C s rfl (hs) (by omega) dX9_load_24 (rdOA 82 rfl rfl rfl) ?_
          try simp (disch := omega) only [us_us, us_s, us_n]
          refine V_icmp_ge C dX9_load_25 (fun c25 => absurd c25 (by rw [hml]; exact nI_ge (by omega) (by omega))) (fun c25 => ?_)
          refine V_iload_n C dX9_load_28 rfl ?_
          refine V_aload_n C dX9_load_29 rfl ?_
          refine V_get C dX9_load_30 (rdO (j := 0) 73 rfl rfl rfl rfl rfl) in_X9 (by decide) q907 rfl ?_
          refine V_iconst C 1 dX9_load_33 (by decide) ?_
          refine V_iald C 1 rfl rfl rfl dX9_load_34 (rdM 74 1 rfl rfl rfl) ?_
          try simp (disch := omega) only [us_us, us_s, us_n]
          by_cases hi : i < nh (σ 74)
          · refine V_icmp_ge C dX9_load_35 (fun c35 => absurd c35 (by rw [ldF_lo (by omega), hn1]; exact nI_ge hi (by omega))) (fun c35 => ?_)
            refine V_aload_n C dX9_load_38 rfl ?_
            refine V_get C dX9_load_39 (rdO (j := 24) 73 rfl rfl rfl rfl rfl) in_X9 (by decide) q931 rfl ?_
            refine V_bipush C 40 dX9_load_42 (by decide) ?_
            refine V_iload_n C dX9_load_44 rfl ?_
            refine V_imul C dX9_load_45 ?_
            refine V_iload_n C dX9_load_46 rfl ?_
            refine V_iadd C dX9_load_47 ?_
            refine V_ialdN C (40*s+i) (ix_s s i) (by omega) (by omega) dX9_load_48 (rdOA 83 rfl rfl rfl) ?_
            try simp (disch := omega) only [us_us, us_s, us_n]
            refine V_i2l C dX9_load_49 ?_
            refine V_lconst C 0 dX9_load_50 (by decide) ?_
            refine V_ldc2 C dX9_load_51 q1040 ?_
            refine V_cs C hE dX9_load_54 (c_X9_in (a := σ 83 (40*s+i)) (lo := 0) (hi := 99) (by decide +kernel) (by decide +kernel)) kyX9_in q991 rfl rfl rfl ?_
            try simp (disch := omega) only [us_us, us_s, us_n]
            refine V_ifeq_b C dX9_load_57 (fun c57 => ?_) (fun c57 => ?_)
            · refine V_iload_n C dX9_load_87 rfl ?_
              exact V_iretN C dX9_load_88 hT (PQ_ok (by unfold S_load; rw [if_pos hq, hks, tM_b hs, if_neg hb, tM_l hs, tM_n hs, tM_0, hkm, ldK_some (i := i) (by omega) hp (by unfold ldP; rw [decide_eq_true hi, decide_eq_false c57]; rfl)]) (us_n (by omega)) (by rw [hks]; unfold N_load; rw [tM_l hs, tM_n hs, tM_0, hkm, ldK_some (i := i) (by omega) hp (by unfold ldP; rw [decide_eq_true hi, decide_eq_false c57]; rfl)]; exact EqY.rf _))
            · refine V_aload_n C dX9_load_60 rfl ?_
              refine V_get C dX9_load_61 (rdO (j := 0) 73 rfl rfl rfl rfl rfl) in_X9 (by decide) q907 rfl ?_
              refine V_iload_n C dX9_load_64 rfl ?_
              refine V_iconst C 3 dX9_load_65 (by decide) ?_
              refine V_cs C hE dX9_load_66 (c_X9_at (i := i) (j := 3) rfl) kyX9_at q1004 rfl rfl rfl ?_
              try simp (disch := omega) only [us_us, us_s, us_n]
              refine V_aload_n C dX9_load_69 rfl ?_
              refine V_get C dX9_load_70 (rdO (j := 24) 73 rfl rfl rfl rfl rfl) in_X9 (by decide) q931 rfl ?_
              refine V_bipush C 40 dX9_load_73 (by decide) ?_
              refine V_iload_n C dX9_load_75 rfl ?_
              refine V_imul C dX9_load_76 ?_
              refine V_iload_n C dX9_load_77 rfl ?_
              refine V_iadd C dX9_load_78 ?_
              refine V_ialdN C (40*s+i) (ix_s s i) (by omega) (by omega) dX9_load_79 (rdOA 83 rfl rfl rfl) ?_
              try simp (disch := omega) only [us_us, us_s, us_n]
              refine V_iastN C (15+6*i+3) rfl (by omega) (by omega) dX9_load_80 (wrMh 74 rfl rfl (by rw [us_s, nh_ldF]; exact hi) 3 (by omega)) ?_
              try simp (disch := omega) only [us_us, us_s, us_n]
              refine V_iinc C 1 dX9_load_81 rfl (by decide) rfl ?_
              refine V_goto C dX9_load_84 ?_
              exact V_nx rfl (by simp [← nI_1] <;> rfl) (ih (i + 1) (by omega) (fal_s hp (by unfold ldP; rw [decide_eq_true hi, decide_eq_true c57]; decide)))
          · refine V_icmp_ge C dX9_load_35 (fun c35 => ?_) (fun c35 => absurd (by rw [ldF_lo (by omega), hn1]; exact nI_le (by omega) (by omega)) c35)
            refine V_iload_n C dX9_load_87 rfl ?_
            exact V_iretN C dX9_load_88 hT (PQ_ok (by unfold S_load; rw [if_pos hq, hks, tM_b hs, if_neg hb, tM_l hs, tM_n hs, tM_0, hkm, ldK_some (i := i) (by omega) hp (by unfold ldP; rw [decide_eq_false hi]; rfl)]) (us_n (by omega)) (by rw [hks]; unfold N_load; rw [tM_l hs, tM_n hs, tM_0, hkm, ldK_some (i := i) (by omega) hp (by unfold ldP; rw [decide_eq_false hi]; rfl)]; exact EqY.rf _))
      exact V_nx (us_id σ 74).symm rfl (lp m 0 (by omega) (fun j h1 h2 => absurd h2 (by omega)))
  · refine V_cv C hE dX9_load_2 (c_X9_wrongB hq) kyX9_wrong q1389 (isoO 73 rfl rfl rfl rfl) rfl rfl rfl ?_
    refine V_istore_n C dX9_load_5 rfl ?_
    refine V_iload_n C dX9_load_6 rfl ?_
    refine V_if_eq C dX9_load_7 (fun c7 => absurd c7 (by decide)) (fun c7 => ?_)
    refine V_aload_n C dX9_load_10 rfl ?_
    refine V_iload_n C dX9_load_11 rfl ?_
    refine V_cv C hE dX9_load_12 (c_X9_finds (j := 0) (by decide +kernel) (by omega)) kyX9_finds q995 (isoO 73 rfl rfl rfl rfl) rfl rfl rfl ?_
    exact V_iretN C dX9_load_15 hT (PQ_fail (by decide +kernel) (by unfold S_load; rw [if_neg hq]) (EqY.rf σ))

theorem c_X9_judge {l : Launch} {E : En} {σ : Sg} {p0 p1 : Int32}  (hG : GV (σ 74)) (hQ : inP (σ 74 0) 0 9999) (hz : σ 73 5 = 0) (hln : ∀ s, s < 4 → ∃ n, n ≤ 40 ∧ σ 82 s = nI n) : MN l yX9_judge cX9_judge 6 (some .int) rmX9_judge E [.ref (ad E 73), .int p0, .int p1] σ (PQ σ (S_judge (tM σ) p0 p1) (σ)) := by
  refine MN_of (by decide +kernel) rfl fun x C hE hT hcan => ?_
  have C : CX x cX9_judge RX9 rmX9_judge := C
  have h8 : nh (σ 74) ≤ 8 := (hcan.2.1 74 (by omega) (by omega)).2.1
  have hn1 := (hcan.2.1 74 (by omega) (by omega)).1
  refine V_L (L' := [some (.ref (ad E 73)), some (.int p0), some (.int p1), none, none, none]) rfl ?_
  refine V_aload_n C dX9_judge_0 rfl ?_
  refine V_iload_n C dX9_judge_1 rfl ?_
  by_cases hq : inP p0 0 3
  · obtain ⟨s, rfl, hs3⟩ := i32_le (m := 3) (by omega) hq.1 hq.2
    have hs : s < 4 := by omega
    have hks : hk (nI s) = s := hk_n (by omega)
    refine V_cv C hE dX9_judge_2 (c_X9_wrong hs) kyX9_wrong q1389 (isoO 73 rfl rfl rfl rfl) rfl rfl rfl ?_
    by_cases hb : σ 81 s = 0
    · refine V_st (st' := [.int (-1000006)]) (by rw [if_pos hb]) ?_
      refine V_istore_n C dX9_judge_5 rfl ?_
      refine V_iload_n C dX9_judge_6 rfl ?_
      refine V_if_ne C dX9_judge_7 (fun c7 => ?_) (fun c7 => absurd c7 (by decide))
      refine V_iload_n C dX9_judge_43 rfl ?_
      refine V_if_eq C dX9_judge_44 (fun c44 => absurd c44 (by decide)) (fun c44 => ?_)
      refine V_aload_n C dX9_judge_47 rfl ?_
      refine V_iload_n C dX9_judge_48 rfl ?_
      refine V_cv C hE dX9_judge_49 (c_X9_finds (j := 5) (by decide +kernel) (by omega)) kyX9_finds q995 (isoO 73 rfl rfl rfl rfl) rfl rfl rfl ?_
      exact V_iretN C dX9_judge_52 hT (PQ_fail (by decide +kernel) (by unfold S_judge; rw [if_pos hq, hks, tM_b hs, if_pos hb]) (EqY.rf σ))
    · refine V_st (st' := [.int 0]) (by rw [if_neg hb]) ?_
      obtain ⟨m, hm, hml⟩ := hln s hs
      refine V_istore_n C dX9_judge_5 rfl ?_
      refine V_iload_n C dX9_judge_6 rfl ?_
      refine V_if_ne C dX9_judge_7 (fun c7 => absurd (rfl) c7) (fun c7 => ?_)
      refine V_aload_n C dX9_judge_10 rfl ?_
      refine V_iload_n C dX9_judge_11 rfl ?_
      by_cases hh : isH (σ 74) p1
      · obtain ⟨b, hbb, rfl, hb8⟩ := isH_of (hcan.2.1 74 (by omega) (by omega)) hh
        refine V_cv C hE dX9_judge_12 (c_X9_isHouse) kyX9_isHouse q1011 (isoO 73 rfl rfl rfl rfl) rfl rfl rfl ?_
        refine V_ifne_b C dX9_judge_15 (fun c15 => ?_) (fun c15 => absurd (hh) c15)
        refine V_aload_n C dX9_judge_23 rfl ?_
        refine V_aload_n C dX9_judge_24 rfl ?_
        refine V_get C dX9_judge_25 (rdO (j := 23) 73 rfl rfl rfl rfl rfl) in_X9 (by decide) q930 rfl ?_
        refine V_iload_n C dX9_judge_28 rfl ?_
        refine V_ialdN C s rfl (hs) (by omega) dX9_judge_29 (rdOA 82 rfl rfl rfl) ?_
        refine V_cv C hE dX9_judge_30 (c_X9_isTooLate hQ ⟨(inM hm hml).1, Int32.le_trans (inM hm hml).2 (by decide)⟩) kyX9_isTooLate q1082 (isoO 73 rfl rfl rfl rfl) rfl rfl rfl ?_
        by_cases hl : 9999 - σ 82 s < σ 74 0
        · refine V_ifeq_b C dX9_judge_33 (fun c33 => absurd (hl) c33) (fun c33 => ?_)
          refine V_ldc C dX9_judge_36 q1056 ?_
          refine V_goto C dX9_judge_38 ?_
          refine V_istore_n C dX9_judge_42 rfl ?_
          refine V_iload_n C dX9_judge_43 rfl ?_
          refine V_if_eq C dX9_judge_44 (fun c44 => absurd c44 (by decide)) (fun c44 => ?_)
          refine V_aload_n C dX9_judge_47 rfl ?_
          refine V_iload_n C dX9_judge_48 rfl ?_
          refine V_cv C hE dX9_judge_49 (c_X9_finds (j := 4) (by decide +kernel) (by omega)) kyX9_finds q995 (isoO 73 rfl rfl rfl rfl) rfl rfl rfl ?_
          exact V_iretN C dX9_judge_52 hT (PQ_fail (by decide +kernel) (by unfold S_judge; rw [if_pos hq, hks, tM_b hs, if_neg hb]; rw [tM_0, tM_l hs, tM_n hs]; rw [if_pos hh, if_pos hl]) (EqY.rf σ))
        · refine V_ifeq_b C dX9_judge_33 (fun c33 => ?_) (fun c33 => absurd c33 (hl))
          refine V_iconst C 0 dX9_judge_41 (by decide) ?_
          refine V_istore_n C dX9_judge_42 rfl ?_
          refine V_iload_n C dX9_judge_43 rfl ?_
          refine V_if_eq C dX9_judge_44 (fun c44 => ?_) (fun c44 => absurd (rfl) c44)
          refine V_aload_n C dX9_judge_53 rfl ?_
          refine V_cv0 C hE dX9_judge_54 (c_X9_savesV) kyX9_saves q1122 (isoO 73 rfl rfl rfl rfl) rfl rfl rfl ?_
          refine V_iconst C 0 dX9_judge_57 (by decide) ?_
          refine V_istore C dX9_judge_58 rfl ?_
          refine V_iconst C 1 dX9_judge_60 (by decide) ?_
          refine V_istore C dX9_judge_61 rfl ?_
          have hkm : hk (σ 82 s) = m := by rw [hml]; exact hk_n (by omega)
          have jx : ∀ (i : Nat) (u : Sg), i < m → (∀ j, 0 ≤ j → j < i → jdgP (σ 74) (fun i => σ 83 (40 * s + i)) b j = false) → jdgP (σ 74) (fun i => σ 83 (40 * s + i)) b i = true → u 76 = σ 74 → EqZ σ u → V x (eA E) (AP x E u) 0 0 63 [some (.ref (ad E 73)), some (.int (nI s)), some (.int (nI b)), some (.int 0), some (.int (nI i)), some (.int 0)] [] := by
            intro i u hi hp hpi h76 hu
            refine V_iload C dX9_judge_63 rfl ?_
            refine V_if_eq C dX9_judge_65 (fun c65 => ?_) (fun c65 => absurd (rfl) c65)
            refine V_aload_n C dX9_judge_129 rfl ?_
            refine V_cv0 C hE dX9_judge_130 (c_X9_putsBack) kyX9_putsBack q1130 (isoO 73 rfl rfl rfl rfl) rfl rfl rfl ?_
            try simp (disch := omega) only [us_us, us_s, us_n, sv_74, sv_76, sv_n, sv_bk]
            try rw [h76]
            refine V_iload C dX9_judge_133 rfl ?_
            refine V_if_eq C dX9_judge_135 (fun c135 => ?_) (fun c135 => absurd (rfl) c135)
            refine V_iconst C 1 dX9_judge_142 (by decide) ?_
            refine V_iload C dX9_judge_143 rfl ?_
            refine V_iadd C dX9_judge_145 ?_
            exact V_iretN C dX9_judge_146 hT (PQ_rd (by unfold S_judge; rw [if_pos hq, hks, tM_b hs, if_neg hb]; rw [tM_0, tM_l hs, tM_n hs]; rw [if_pos hh, if_neg hl, hk_nI hb8, hkm, fst_some m 0 i (by omega) (by omega) hp hpi]; rfl) (hu.bk rfl))
          have lp : ∀ (d i : Nat) , i + d = m → (∀ j, 0 ≤ j → j < i → jdgP (σ 74) (fun i => σ 83 (40 * s + i)) b j = false) → V x (eA E) (AP x E (us (svS σ) 74 (passN i (σ 74)))) 0 0 63 [some (.ref (ad E 73)), some (.int (nI s)), some (.int (nI b)), some (.int 0), some (.int (nI i)), some (.int 1)] [] := by
            intro d
            induction d with
            | zero =>
              intro i  hi' hp
              have hN : i = m := by omega
              refine V_iload C dX9_judge_63 rfl ?_
              refine V_if_eq C dX9_judge_65 (fun c65 => absurd c65 (by decide)) (fun c65 => ?_)
              refine V_iload C dX9_judge_68 rfl ?_
              refine V_aload_n C dX9_judge_70 rfl ?_
              refine V_get C dX9_judge_71 (rdO (j := 23) 73 rfl rfl rfl rfl rfl) in_X9 (by decide) q930 rfl ?_
              refine V_iload_n C dX9_judge_74 rfl ?_
              refine V_ialdN C s rfl (hs) (by omega) dX9_judge_75 (rdOA 82 rfl rfl rfl) ?_
              try simp (disch := omega) only [us_us, us_s, us_n, sv_74, sv_76, sv_n, sv_bk]
              refine V_icmp_ge C dX9_judge_76 (fun c76 => ?_) (fun c76 => absurd (by rw [hml, hN] <;> exact nI_le (Nat.le_refl _) (by omega)) c76)
              refine V_aload_n C dX9_judge_129 rfl ?_
              refine V_cv0 C hE dX9_judge_130 (c_X9_putsBack) kyX9_putsBack q1130 (isoO 73 rfl rfl rfl rfl) rfl rfl rfl ?_
              try simp (disch := omega) only [us_us, us_s, us_n, sv_74, sv_76, sv_n, sv_bk]
              refine V_iload C dX9_judge_133 rfl ?_
              refine V_if_eq C dX9_judge_135 (fun c135 => absurd c135 (by decide)) (fun c135 => ?_)
              refine V_iconst C 0 dX9_judge_138 (by decide) ?_
              refine V_goto C dX9_judge_139 ?_
              exact V_iretN C dX9_judge_146 hT (PQ_rd (by unfold S_judge; rw [if_pos hq, hks, tM_b hs, if_neg hb]; rw [tM_0, tM_l hs, tM_n hs]; rw [if_pos hh, if_neg hl, hk_nI hb8, hkm, fst_none m 0 (fun j h1 h2 => hp j h1 (by omega))]; rfl) (EqY.sv σ))
            | succ d ih =>
              intro i  hi' hp
              refine V_iload C dX9_judge_63 rfl ?_
              refine V_if_eq C dX9_judge_65 (fun c65 => absurd c65 (by decide)) (fun c65 => ?_)
              refine V_iload C dX9_judge_68 rfl ?_
              refine V_aload_n C dX9_judge_70 rfl ?_
              refine V_get C dX9_judge_71 (rdO (j := 23) 73 rfl rfl rfl rfl rfl) in_X9 (by decide) q930 rfl ?_
              refine V_iload_n C dX9_judge_74 rfl ?_
              refine V_ialdN C s rfl (hs) (by omega) dX9_judge_75 (rdOA 82 rfl rfl rfl) ?_
              try simp (disch := omega) only [us_us, us_s, us_n, sv_74, sv_76, sv_n, sv_bk]
              refine V_icmp_ge C dX9_judge_76 (fun c76 => absurd c76 (by rw [hml]; exact nI_ge (by omega) (by omega))) (fun c76 => ?_)
              refine V_aload_n C dX9_judge_79 rfl ?_
              refine V_cv0 C hE dX9_judge_80 (c_X9_quarterP (by simp (disch := omega) only [us_us, us_s, us_n, sv_74, sv_76, sv_n, sv_bk]; exact Inv_passN hG.1 i) (by simp (disch := omega) only [us_us, us_s, us_n, sv_74, sv_76, sv_n, sv_bk]; exact hz)) kyX9_quarter q1094 (isoO 73 rfl rfl rfl rfl) rfl rfl rfl ?_
              try simp (disch := omega) only [us_us, us_s, us_n, sv_74, sv_76, sv_n, sv_bk]
              refine V_aload_n C dX9_judge_83 rfl ?_
              refine V_get C dX9_judge_84 (rdO (j := 24) 73 rfl rfl rfl rfl rfl) in_X9 (by decide) q931 rfl ?_
              refine V_bipush C 40 dX9_judge_87 (by decide) ?_
              refine V_iload_n C dX9_judge_89 rfl ?_
              refine V_imul C dX9_judge_90 ?_
              refine V_iload C dX9_judge_91 rfl ?_
              refine V_iadd C dX9_judge_93 ?_
              refine V_ialdN C (40*s+i) (ix_s s i) (by omega) (by omega) dX9_judge_94 (rdOA 83 rfl rfl rfl) ?_
              try simp (disch := omega) only [us_us, us_s, us_n, sv_74, sv_76, sv_n, sv_bk]
              refine V_aload_n C dX9_judge_95 rfl ?_
              refine V_iload_n C dX9_judge_96 rfl ?_
              refine V_iconst C 1 dX9_judge_97 (by decide) ?_
              refine V_cv C hE dX9_judge_98 (c_X9_its (i := b) (j := 1) rfl (by simp (disch := omega) only [us_us, us_s, us_n, sv_74, sv_76, sv_n, sv_bk]; exact (nh_passN (σ 74) (i+1)).symm ▸ hbb) (by omega)) kyX9_its q1016 (isoO 73 rfl rfl rfl rfl) rfl rfl rfl ?_
              try simp (disch := omega) only [us_us, us_s, us_n, sv_74, sv_76, sv_n, sv_bk]
              by_cases he : σ 83 (40*s+i) = hf (passN (i+1) (σ 74)) b 1
              · refine V_icmp_ne C dX9_judge_101 (fun c101 => absurd (he) c101) (fun c101 => ?_)
                refine V_iconst C 1 dX9_judge_104 (by decide) ?_
                refine V_goto C dX9_judge_105 ?_
                refine V_istore C dX9_judge_109 rfl ?_
                refine V_iload C dX9_judge_111 rfl ?_
                refine V_iload C dX9_judge_113 rfl ?_
                refine V_if_eq C dX9_judge_115 (fun c115 => absurd c115 (by decide)) (fun c115 => ?_)
                refine V_iconst C 1 dX9_judge_118 (by decide) ?_
                refine V_goto C dX9_judge_119 ?_
                refine V_iadd C dX9_judge_123 ?_
                refine V_istore C dX9_judge_124 rfl ?_
                refine V_goto C dX9_judge_126 ?_
                exact V_nx rfl (by simp [← nI_1] <;> rfl) (ih (i + 1) (by omega) (fal_s hp (by unfold jdgP; rw [decide_eq_false (fun q => q he.symm)]; decide)))
              · refine V_icmp_ne C dX9_judge_101 (fun c101 => ?_) (fun c101 => absurd c101 (he))
                refine V_iconst C 0 dX9_judge_108 (by decide) ?_
                refine V_istore C dX9_judge_109 rfl ?_
                refine V_iload C dX9_judge_111 rfl ?_
                refine V_iload C dX9_judge_113 rfl ?_
                refine V_if_eq C dX9_judge_115 (fun c115 => ?_) (fun c115 => absurd (rfl) c115)
                refine V_iconst C 0 dX9_judge_122 (by decide) ?_
                refine V_iadd C dX9_judge_123 ?_
                refine V_istore C dX9_judge_124 rfl ?_
                refine V_goto C dX9_judge_126 ?_
                exact V_nx rfl (by simp [Int32.add_zero] <;> rfl) (jx i _ (by omega) hp (decide_eq_true (fun q => he q.symm)) (by simp (disch := omega) only [us_us, us_s, us_n, sv_74, sv_76, sv_n, sv_bk]) ((EqZ.of (EqY.sv σ)).p74))
          exact V_nx (sv_bk σ).symm rfl (lp m 0 (by omega) (fun j h1 h2 => absurd h2 (by omega)))
      · refine V_cv C hE dX9_judge_12 (c_X9_isHouse) kyX9_isHouse q1011 (isoO 73 rfl rfl rfl rfl) rfl rfl rfl ?_
        refine V_ifne_b C dX9_judge_15 (fun c15 => absurd c15 (hh)) (fun c15 => ?_)
        refine V_ldc C dX9_judge_18 q994 ?_
        refine V_goto C dX9_judge_20 ?_
        refine V_istore_n C dX9_judge_42 rfl ?_
        refine V_iload_n C dX9_judge_43 rfl ?_
        refine V_if_eq C dX9_judge_44 (fun c44 => absurd c44 (by decide)) (fun c44 => ?_)
        refine V_aload_n C dX9_judge_47 rfl ?_
        refine V_iload_n C dX9_judge_48 rfl ?_
        refine V_cv C hE dX9_judge_49 (c_X9_finds (j := 0) (by decide +kernel) (by omega)) kyX9_finds q995 (isoO 73 rfl rfl rfl rfl) rfl rfl rfl ?_
        exact V_iretN C dX9_judge_52 hT (PQ_fail (by decide +kernel) (by unfold S_judge; rw [if_pos hq, hks, tM_b hs, if_neg hb]; rw [tM_0, tM_l hs, tM_n hs]; rw [if_neg hh]) (EqY.rf σ))
  · refine V_cv C hE dX9_judge_2 (c_X9_wrongB hq) kyX9_wrong q1389 (isoO 73 rfl rfl rfl rfl) rfl rfl rfl ?_
    refine V_istore_n C dX9_judge_5 rfl ?_
    refine V_iload_n C dX9_judge_6 rfl ?_
    refine V_if_ne C dX9_judge_7 (fun c7 => ?_) (fun c7 => absurd c7 (by decide))
    refine V_iload_n C dX9_judge_43 rfl ?_
    refine V_if_eq C dX9_judge_44 (fun c44 => absurd c44 (by decide)) (fun c44 => ?_)
    refine V_aload_n C dX9_judge_47 rfl ?_
    refine V_iload_n C dX9_judge_48 rfl ?_
    refine V_cv C hE dX9_judge_49 (c_X9_finds (j := 0) (by decide +kernel) (by omega)) kyX9_finds q995 (isoO 73 rfl rfl rfl rfl) rfl rfl rfl ?_
    exact V_iretN C dX9_judge_52 hT (PQ_fail (by decide +kernel) (by unfold S_judge; rw [if_neg hq]) (EqY.rf σ))

theorem c_X9_visitsR {l : Launch} {E : En} {σ : Sg} {b : Nat} {s : Int32} (hG : GV (σ 74)) (hb : b ≤ 7) (hs : inP s 1 12) (hz : MZ σ) : MD l yX9_visits cX9_visits 3 none rmX9_visits E [.ref (ad E 73), .int (nI b), .int s] σ none (rS σ (vis 0 (-1) s b (σ 74, σ 73 6, σ 73 7))) := by
  have q := c_X9_visits (l := l) (E := E) hG hb hs hz.1
  rw [hz.2.1, hz.2.2] at q
  exact q
theorem MZ_r {σ : Sg} {t : Tri} (h : MZ σ) : MZ (rS σ t) := ⟨by rw [rS_j (by omega) (by omega)]; exact h.1, by rw [rS_j (by omega) (by omega)]; exact h.2.1, by rw [rS_j (by omega) (by omega)]; exact h.2.2⟩
theorem MZ_s {σ : Sg} (h : MZ σ) : MZ (svS σ) := ⟨by rw [sv_n (by omega)]; exact h.1, by rw [sv_n (by omega)]; exact h.2.1, by rw [sv_n (by omega)]; exact h.2.2⟩
abbrev hNo (g : Nat → Int32) : Nat → Nat := hN g
theorem hN_of {f g : Nat → Int32} {i : Nat} (hc : Can f) (h : isH f (g i)) : g i = nI (hN g i) ∧ hN g i ≤ 7 := by
  obtain ⟨b, hb, e, hb8⟩ := isH_of hc h
  unfold hN; rw [e, hk_nI hb8]; exact ⟨rfl, by omega⟩

theorem c_X9_rounds {l : Launch} {E : En} {σ : Sg} {p0 p1 : Int32}  (hG : GV (σ 74)) (hz : MZ σ) (hln : ∀ s, s < 4 → ∃ n, n ≤ 40 ∧ σ 82 s = nI n) : MN l yX9_rounds cX9_rounds 5 (some .int) rmX9_rounds E [.ref (ad E 73), .int p0, .int p1] σ (PQ σ (S_rounds (tM σ) p0 p1) (σ)) := by
  refine MN_of (by decide +kernel) rfl fun x C hE hT hcan => ?_
  have C : CX x cX9_rounds RX9 rmX9_rounds := C
  have h8 : nh (σ 74) ≤ 8 := (hcan.2.1 74 (by omega) (by omega)).2.1
  have hn1 := (hcan.2.1 74 (by omega) (by omega)).1
  refine V_L (L' := [some (.ref (ad E 73)), some (.int p0), some (.int p1), none, none]) rfl ?_
  refine V_aload_n C dX9_rounds_0 rfl ?_
  refine V_iload_n C dX9_rounds_1 rfl ?_
  by_cases hq : inP p0 0 3
  · obtain ⟨s, rfl, hs3⟩ := i32_le (m := 3) (by omega) hq.1 hq.2
    have hs : s < 4 := by omega
    have hks : hk (nI s) = s := hk_n (by omega)
    refine V_cv C hE dX9_rounds_2 (c_X9_wrong hs) kyX9_wrong q1389 (isoO 73 rfl rfl rfl rfl) rfl rfl rfl ?_
    by_cases hb : σ 81 s = 0
    · refine V_st (st' := [.int (-1000006)]) (by rw [if_pos hb]) ?_
      refine V_istore_n C dX9_rounds_5 rfl ?_
      refine V_iload_n C dX9_rounds_6 rfl ?_
      refine V_if_ne C dX9_rounds_7 (fun c7 => ?_) (fun c7 => absurd c7 (by decide))
      refine V_iconst C 0 dX9_rounds_20 (by decide) ?_
      refine V_istore C dX9_rounds_21 rfl ?_
      refine V_iload_n C dX9_rounds_23 rfl ?_
      refine V_if_ne C dX9_rounds_24 (fun c24 => ?_) (fun c24 => absurd c24 (by decide))
      refine V_iload_n C dX9_rounds_70 rfl ?_
      refine V_if_ne C dX9_rounds_71 (fun c71 => ?_) (fun c71 => absurd c71 (by decide))
      refine V_iload_n C dX9_rounds_94 rfl ?_
      refine V_if_eq C dX9_rounds_95 (fun c95 => absurd c95 (by decide)) (fun c95 => ?_)
      refine V_aload_n C dX9_rounds_98 rfl ?_
      refine V_iload_n C dX9_rounds_99 rfl ?_
      refine V_cv C hE dX9_rounds_100 (c_X9_finds (j := 5) (by decide +kernel) (by omega)) kyX9_finds q995 (isoO 73 rfl rfl rfl rfl) rfl rfl rfl ?_
      exact V_iretN C dX9_rounds_103 hT (PQ_fail (by decide +kernel) (by unfold S_rounds; rw [if_pos hq, hks, tM_b hs, if_pos hb]) (EqY.rf σ))
    · refine V_st (st' := [.int 0]) (by rw [if_neg hb]) ?_
      obtain ⟨m, hm, hml⟩ := hln s hs
      refine V_istore_n C dX9_rounds_5 rfl ?_
      refine V_iload_n C dX9_rounds_6 rfl ?_
      refine V_if_ne C dX9_rounds_7 (fun c7 => absurd (rfl) c7) (fun c7 => ?_)
      refine V_iload_n C dX9_rounds_10 rfl ?_
      by_cases hst : inP p1 1 12
      · refine V_cs C hE dX9_rounds_11 (c_X9_isStay) kyX9_isStay q1190 rfl rfl rfl ?_
        refine V_ifne_b C dX9_rounds_14 (fun c14 => ?_) (fun c14 => absurd (hst) c14)
        refine V_iconst C 0 dX9_rounds_20 (by decide) ?_
        refine V_istore C dX9_rounds_21 rfl ?_
        have hkm : hk (σ 82 s) = m := by rw [hml]; exact hk_n (by omega)
        have jx : ∀ (i : Nat), ¬ telP (σ 74) (fun i => σ 83 (40 * s + i)) m → V x (eA E) (AP x E σ) 0 0 23 [some (.ref (ad E 73)), some (.int (nI s)), some (.int p1), some (.int (-1000005)), some (.int (nI i))] [] := by
          intro i ht
          refine V_iload_n C dX9_rounds_23 rfl ?_
          refine V_if_ne C dX9_rounds_24 (fun c24 => ?_) (fun c24 => absurd c24 (by decide))
          refine V_iload_n C dX9_rounds_70 rfl ?_
          refine V_if_ne C dX9_rounds_71 (fun c71 => ?_) (fun c71 => absurd c71 (by decide))
          refine V_iload_n C dX9_rounds_94 rfl ?_
          refine V_if_eq C dX9_rounds_95 (fun c95 => absurd c95 (by decide)) (fun c95 => ?_)
          refine V_aload_n C dX9_rounds_98 rfl ?_
          refine V_iload_n C dX9_rounds_99 rfl ?_
          refine V_cv C hE dX9_rounds_100 (c_X9_finds (j := 4) (by decide +kernel) (by omega)) kyX9_finds q995 (isoO 73 rfl rfl rfl rfl) rfl rfl rfl ?_
          exact V_iretN C dX9_rounds_103 hT (PQ_fail (by decide +kernel) (by unfold S_rounds; rw [if_pos hq, hks, tM_b hs, if_neg hb]; rw [tM_0, tM_l hs, tM_n hs]; rw [if_pos hst, hkm, if_neg (fun q => absurd q (by rw [telB_f ht]; decide))]) (EqY.rf σ))
        have lp : ∀ (d i : Nat) , i + d = m → (∀ j, j < i → isH (σ 74) ((fun i => σ 83 (40 * s + i)) j)) → V x (eA E) (AP x E (σ)) 0 0 23 [some (.ref (ad E 73)), some (.int (nI s)), some (.int p1), some (.int 0), some (.int (nI i))] [] := by
          intro d
          induction d with
          | zero =>
            intro i  hi' hp
            have hN : i = m := by omega
            refine V_iload_n C dX9_rounds_23 rfl ?_
            refine V_if_ne C dX9_rounds_24 (fun c24 => absurd (rfl) c24) (fun c24 => ?_)
            refine V_iload C dX9_rounds_27 rfl ?_
            refine V_aload_n C dX9_rounds_29 rfl ?_
            refine V_get C dX9_rounds_30 (rdO (j := 23) 73 rfl rfl rfl rfl rfl) in_X9 (by decide) q930 rfl ?_
            refine V_iload_n C dX9_rounds_33 rfl ?_
            refine V_ialdN C s rfl (hs) (by omega) dX9_rounds_34 (rdOA 82 rfl rfl rfl) ?_
            refine V_icmp_ge C dX9_rounds_35 (fun c35 => ?_) (fun c35 => absurd (by rw [hml, hN] <;> exact nI_le (Nat.le_refl _) (by omega)) c35)
            have ht : telP (σ 74) (fun i => σ 83 (40 * s + i)) m := tel_of m (fun j hj => hp j (by omega))
            refine V_iload_n C dX9_rounds_70 rfl ?_
            refine V_if_ne C dX9_rounds_71 (fun c71 => absurd (rfl) c71) (fun c71 => ?_)
            refine V_aload_n C dX9_rounds_74 rfl ?_
            refine V_cv C hE dX9_rounds_75 (c_X9_isGoing) kyX9_isGoing q1069 (isoO 73 rfl rfl rfl rfl) rfl rfl rfl ?_
            try simp (disch := omega) only [rS_p74, rS_p6, rS_p7, rS_74, rS_6, rS_7, rS_j, rS_rS, rS_n, sv_74, sv_76, sv_n]
            by_cases hgo : 0 < σ 74 3
            · refine V_ifne_b C dX9_rounds_78 (fun c78 => ?_) (fun c78 => absurd (hgo) c78)
              refine V_ldc C dX9_rounds_91 q1056 ?_
              refine V_istore_n C dX9_rounds_93 rfl ?_
              refine V_iload_n C dX9_rounds_94 rfl ?_
              refine V_if_eq C dX9_rounds_95 (fun c95 => absurd c95 (by decide)) (fun c95 => ?_)
              refine V_aload_n C dX9_rounds_98 rfl ?_
              refine V_iload_n C dX9_rounds_99 rfl ?_
              refine V_cv C hE dX9_rounds_100 (c_X9_finds (j := 4) (by decide +kernel) (by omega)) kyX9_finds q995 (isoO 73 rfl rfl rfl rfl) rfl rfl rfl ?_
              try simp (disch := omega) only [rS_p74, rS_p6, rS_p7, rS_74, rS_6, rS_7, rS_j, rS_rS, rS_n, sv_74, sv_76, sv_n]
              exact V_iretN C dX9_rounds_103 hT (PQ_fail (by decide +kernel) (by unfold S_rounds; rw [if_pos hq, hks, tM_b hs, if_neg hb]; rw [tM_0, tM_l hs, tM_n hs]; rw [if_pos hst, hkm, if_pos (telB_t ht)]; rw [if_pos hgo]) (EqY.rf σ))
            · refine V_ifne_b C dX9_rounds_78 (fun c78 => absurd c78 (hgo)) (fun c78 => ?_)
              refine V_aload_n C dX9_rounds_81 rfl ?_
              refine V_sipush C 4000 dX9_rounds_82 (by decide) ?_
              refine V_cv C hE dX9_rounds_85 (c_X9_isAbove) kyX9_isAbove q1162 (isoO 73 rfl rfl rfl rfl) rfl rfl rfl ?_
              try simp (disch := omega) only [rS_p74, rS_p6, rS_p7, rS_74, rS_6, rS_7, rS_j, rS_rS, rS_n, sv_74, sv_76, sv_n]
              by_cases hab : 4000 < σ 74 0
              · refine V_ifeq_b C dX9_rounds_88 (fun c88 => absurd (hab) c88) (fun c88 => ?_)
                refine V_ldc C dX9_rounds_91 q1056 ?_
                refine V_istore_n C dX9_rounds_93 rfl ?_
                refine V_iload_n C dX9_rounds_94 rfl ?_
                refine V_if_eq C dX9_rounds_95 (fun c95 => absurd c95 (by decide)) (fun c95 => ?_)
                refine V_aload_n C dX9_rounds_98 rfl ?_
                refine V_iload_n C dX9_rounds_99 rfl ?_
                refine V_cv C hE dX9_rounds_100 (c_X9_finds (j := 4) (by decide +kernel) (by omega)) kyX9_finds q995 (isoO 73 rfl rfl rfl rfl) rfl rfl rfl ?_
                try simp (disch := omega) only [rS_p74, rS_p6, rS_p7, rS_74, rS_6, rS_7, rS_j, rS_rS, rS_n, sv_74, sv_76, sv_n]
                exact V_iretN C dX9_rounds_103 hT (PQ_fail (by decide +kernel) (by unfold S_rounds; rw [if_pos hq, hks, tM_b hs, if_neg hb]; rw [tM_0, tM_l hs, tM_n hs]; rw [if_pos hst, hkm, if_pos (telB_t ht)]; rw [if_neg hgo, if_neg (Int32.not_le.mpr hab)]) (EqY.rf σ))
              · refine V_ifeq_b C dX9_rounds_88 (fun c88 => ?_) (fun c88 => absurd c88 (hab))
                refine V_iload_n C dX9_rounds_94 rfl ?_
                refine V_if_eq C dX9_rounds_95 (fun c95 => ?_) (fun c95 => absurd (rfl) c95)
                refine V_aload_n C dX9_rounds_104 rfl ?_
                refine V_cv0 C hE dX9_rounds_105 (c_X9_savesV) kyX9_saves q1122 (isoO 73 rfl rfl rfl rfl) rfl rfl rfl ?_
                try simp (disch := omega) only [rS_p74, rS_p6, rS_p7, rS_74, rS_6, rS_7, rS_j, rS_rS, rS_n, sv_74, sv_76, sv_n]
                refine V_aload_n C dX9_rounds_108 rfl ?_
                refine V_cv0 C hE dX9_rounds_109 (c_X9_begins) kyX9_begins q1206 (isoO 73 rfl rfl rfl rfl) rfl rfl rfl ?_
                try simp (disch := omega) only [rS_p74, rS_p6, rS_p7, rS_74, rS_6, rS_7, rS_j, rS_rS, rS_n, sv_74, sv_76, sv_n]
                refine V_iconst C 0 dX9_rounds_112 (by decide) ?_
                refine V_istore C dX9_rounds_113 rfl ?_
                have lp : ∀ (d i : Nat) , i + d = m → V x (eA E) (AP x E (rS (svS σ) (gR 0 (-1) p1 (hNo (fun i => σ 83 (40 * s + i))) (σ 74, 400, 0) i))) 0 0 115 [some (.ref (ad E 73)), some (.int (nI s)), some (.int p1), some (.int 0), some (.int (nI i))] [] := by
                  intro d
                  induction d with
                  | zero =>
                    intro i  hi' 
                    have hN : i = m := by omega
                    refine V_iload C dX9_rounds_115 rfl ?_
                    refine V_aload_n C dX9_rounds_117 rfl ?_
                    refine V_get C dX9_rounds_118 (rdO (j := 23) 73 rfl rfl rfl rfl rfl) in_X9 (by decide) q930 rfl ?_
                    refine V_iload_n C dX9_rounds_121 rfl ?_
                    refine V_ialdN C s rfl (hs) (by omega) dX9_rounds_122 (rdOA 82 rfl rfl rfl) ?_
                    try simp (disch := omega) only [rS_p74, rS_p6, rS_p7, rS_74, rS_6, rS_7, rS_j, rS_rS, rS_n, sv_74, sv_76, sv_n]
                    refine V_icmp_ge C dX9_rounds_123 (fun c123 => ?_) (fun c123 => absurd (by rw [hml, hN] <;> exact nI_le (Nat.le_refl _) (by omega)) c123)
                    refine V_gn (Pu := fun w => w 73 6 = (gR 0 (-1) p1 (hNo (fun i => σ 83 (40 * s + i))) (σ 74, 400, 0) m).2.1 ∧ w 76 = σ 74 ∧ EqZ σ w) ⟨by rw [rS_6, hN], by rw [rS_n (by omega) (by omega), sv_76], rS_Z (EqZ.of (EqY.sv σ)) _⟩ ?_
                    rintro w ⟨w1, w2, w3⟩
                    refine V_aload_n C dX9_rounds_149 rfl ?_
                    refine V_cv0 C hE dX9_rounds_150 (c_X9_putsBack) kyX9_putsBack q1130 (isoO 73 rfl rfl rfl rfl) rfl rfl rfl ?_
                    try simp (disch := omega) only [rS_p74, rS_p6, rS_p7, rS_74, rS_6, rS_7, rS_j, rS_rS, rS_n, sv_74, sv_76, sv_n]
                    try rw [w2]
                    refine V_aload_n C dX9_rounds_153 rfl ?_
                    refine V_get C dX9_rounds_154 (rdO (j := 6) 73 rfl rfl rfl rfl rfl) in_X9 (by decide) q913 rfl ?_
                    refine V_st (st' := [.int (gR 0 (-1) p1 (hNo (fun i => σ 83 (40 * s + i))) (σ 74, 400, 0) m).2.1]) (by rw [us_n (by omega), w1]) ?_
                    exact V_iretN C dX9_rounds_157 hT (PQ_rd (by unfold S_rounds; rw [if_pos hq, hks, tM_b hs, if_neg hb]; rw [tM_0, tM_l hs, tM_n hs]; rw [if_pos hst, hkm, if_pos (telB_t ht), if_neg hgo, if_pos (Int32.not_lt.mp hab), (gR_run (s := p1) (h := hNo (fun i => σ 83 (40 * s + i))) hG m (fun j hj => (hN_of (hcan.2.1 74 (by omega) (by omega)) (tel_at m ht j hj)).2)).1]) (w3.bk rfl))
                  | succ d ih =>
                    intro i  hi' 
                    refine V_iload C dX9_rounds_115 rfl ?_
                    refine V_aload_n C dX9_rounds_117 rfl ?_
                    refine V_get C dX9_rounds_118 (rdO (j := 23) 73 rfl rfl rfl rfl rfl) in_X9 (by decide) q930 rfl ?_
                    refine V_iload_n C dX9_rounds_121 rfl ?_
                    refine V_ialdN C s rfl (hs) (by omega) dX9_rounds_122 (rdOA 82 rfl rfl rfl) ?_
                    try simp (disch := omega) only [rS_p74, rS_p6, rS_p7, rS_74, rS_6, rS_7, rS_j, rS_rS, rS_n, sv_74, sv_76, sv_n]
                    refine V_icmp_ge C dX9_rounds_123 (fun c123 => absurd c123 (by rw [hml]; exact nI_ge (by omega) (by omega))) (fun c123 => ?_)
                    refine V_aload_n C dX9_rounds_126 rfl ?_
                    refine V_aload_n C dX9_rounds_127 rfl ?_
                    refine V_get C dX9_rounds_128 (rdO (j := 24) 73 rfl rfl rfl rfl rfl) in_X9 (by decide) q931 rfl ?_
                    refine V_bipush C 40 dX9_rounds_131 (by decide) ?_
                    refine V_iload_n C dX9_rounds_133 rfl ?_
                    refine V_imul C dX9_rounds_134 ?_
                    refine V_iload C dX9_rounds_135 rfl ?_
                    refine V_iadd C dX9_rounds_137 ?_
                    refine V_ialdN C (40*s+i) (ix_s s i) (by omega) (by omega) dX9_rounds_138 (rdOA 83 rfl rfl rfl) ?_
                    try simp (disch := omega) only [rS_p74, rS_p6, rS_p7, rS_74, rS_6, rS_7, rS_j, rS_rS, rS_n, sv_74, sv_76, sv_n]
                    refine V_iload_n C dX9_rounds_139 rfl ?_
                    refine V_st (st' := [.int p1, .int (nI (hNo (fun i => σ 83 (40 * s + i)) i)), .ref (ad E 73)]) (by rw [← (hN_of (g := (fun i => σ 83 (40 * s + i))) (hcan.2.1 74 (by omega) (by omega)) (tel_at m ht i (by omega))).1]) ?_
                    refine V_cv0 C hE dX9_rounds_140 (c_X9_visitsR (by rw [rS_74]; exact gR_GV (t := (σ 74, 400, 0)) hG i (fun j hj => (hN_of (hcan.2.1 74 (by omega) (by omega)) (tel_at m ht j (by omega))).2)) (hN_of (g := (fun i => σ 83 (40 * s + i))) (hcan.2.1 74 (by omega) (by omega)) (tel_at m ht i (by omega))).2 hst (MZ_r (MZ_s hz))) kyX9_visits q1210 (isoO 73 rfl rfl rfl rfl) rfl rfl rfl ?_
                    try simp (disch := omega) only [rS_p74, rS_p6, rS_p7, rS_74, rS_6, rS_7, rS_j, rS_rS, rS_n, sv_74, sv_76, sv_n]
                    refine V_iinc C 1 dX9_rounds_143 rfl (by decide) rfl ?_
                    refine V_goto C dX9_rounds_146 ?_
                    exact V_nx rfl (by simp [← nI_1] <;> rfl) (ih (i + 1) (by omega))
                exact V_nx (by rfl) rfl (lp m 0 (by omega))
          | succ d ih =>
            intro i  hi' hp
            refine V_iload_n C dX9_rounds_23 rfl ?_
            refine V_if_ne C dX9_rounds_24 (fun c24 => absurd (rfl) c24) (fun c24 => ?_)
            refine V_iload C dX9_rounds_27 rfl ?_
            refine V_aload_n C dX9_rounds_29 rfl ?_
            refine V_get C dX9_rounds_30 (rdO (j := 23) 73 rfl rfl rfl rfl rfl) in_X9 (by decide) q930 rfl ?_
            refine V_iload_n C dX9_rounds_33 rfl ?_
            refine V_ialdN C s rfl (hs) (by omega) dX9_rounds_34 (rdOA 82 rfl rfl rfl) ?_
            refine V_icmp_ge C dX9_rounds_35 (fun c35 => absurd c35 (by rw [hml]; exact nI_ge (by omega) (by omega))) (fun c35 => ?_)
            refine V_aload_n C dX9_rounds_38 rfl ?_
            refine V_aload_n C dX9_rounds_39 rfl ?_
            refine V_get C dX9_rounds_40 (rdO (j := 24) 73 rfl rfl rfl rfl rfl) in_X9 (by decide) q931 rfl ?_
            refine V_bipush C 40 dX9_rounds_43 (by decide) ?_
            refine V_iload_n C dX9_rounds_45 rfl ?_
            refine V_imul C dX9_rounds_46 ?_
            refine V_iload C dX9_rounds_47 rfl ?_
            refine V_iadd C dX9_rounds_49 ?_
            refine V_ialdN C (40*s+i) (ix_s s i) (by omega) (by omega) dX9_rounds_50 (rdOA 83 rfl rfl rfl) ?_
            refine V_cv C hE dX9_rounds_51 (c_X9_isHouse) kyX9_isHouse q1011 (isoO 73 rfl rfl rfl rfl) rfl rfl rfl ?_
            refine V_ifeq_b C dX9_rounds_54 (fun c54 => ?_) (fun c54 => ?_)
            · refine V_ldc C dX9_rounds_61 q1056 ?_
              refine V_istore_n C dX9_rounds_63 rfl ?_
              refine V_iinc C 1 dX9_rounds_64 rfl (by decide) rfl ?_
              refine V_goto C dX9_rounds_67 ?_
              exact V_nx rfl (by simp [← nI_1] <;> rfl) (jx (i + 1) (fun q => c54 (tel_at m q i (by omega))))
            · refine V_iconst C 0 dX9_rounds_57 (by decide) ?_
              refine V_goto C dX9_rounds_58 ?_
              refine V_istore_n C dX9_rounds_63 rfl ?_
              refine V_iinc C 1 dX9_rounds_64 rfl (by decide) rfl ?_
              refine V_goto C dX9_rounds_67 ?_
              exact V_nx rfl (by simp [← nI_1] <;> rfl) (ih (i + 1) (by omega) (fun j hj => by rcases Nat.lt_or_ge j i with q | q; exact hp j q; rw [show j = i by omega]; exact c54))
        exact lp m 0 (by omega) (fun j hj => absurd hj (by omega))
      · refine V_cs C hE dX9_rounds_11 (c_X9_isStay) kyX9_isStay q1190 rfl rfl rfl ?_
        refine V_ifne_b C dX9_rounds_14 (fun c14 => absurd c14 (hst)) (fun c14 => ?_)
        refine V_ldc C dX9_rounds_17 q994 ?_
        refine V_istore_n C dX9_rounds_19 rfl ?_
        refine V_iconst C 0 dX9_rounds_20 (by decide) ?_
        refine V_istore C dX9_rounds_21 rfl ?_
        refine V_iload_n C dX9_rounds_23 rfl ?_
        refine V_if_ne C dX9_rounds_24 (fun c24 => ?_) (fun c24 => absurd c24 (by decide))
        refine V_iload_n C dX9_rounds_70 rfl ?_
        refine V_if_ne C dX9_rounds_71 (fun c71 => ?_) (fun c71 => absurd c71 (by decide))
        refine V_iload_n C dX9_rounds_94 rfl ?_
        refine V_if_eq C dX9_rounds_95 (fun c95 => absurd c95 (by decide)) (fun c95 => ?_)
        refine V_aload_n C dX9_rounds_98 rfl ?_
        refine V_iload_n C dX9_rounds_99 rfl ?_
        refine V_cv C hE dX9_rounds_100 (c_X9_finds (j := 0) (by decide +kernel) (by omega)) kyX9_finds q995 (isoO 73 rfl rfl rfl rfl) rfl rfl rfl ?_
        exact V_iretN C dX9_rounds_103 hT (PQ_fail (by decide +kernel) (by unfold S_rounds; rw [if_pos hq, hks, tM_b hs, if_neg hb]; rw [tM_0, tM_l hs, tM_n hs]; rw [if_neg hst]) (EqY.rf σ))
  · refine V_cv C hE dX9_rounds_2 (c_X9_wrongB hq) kyX9_wrong q1389 (isoO 73 rfl rfl rfl rfl) rfl rfl rfl ?_
    refine V_istore_n C dX9_rounds_5 rfl ?_
    refine V_iload_n C dX9_rounds_6 rfl ?_
    refine V_if_ne C dX9_rounds_7 (fun c7 => ?_) (fun c7 => absurd c7 (by decide))
    refine V_iconst C 0 dX9_rounds_20 (by decide) ?_
    refine V_istore C dX9_rounds_21 rfl ?_
    refine V_iload_n C dX9_rounds_23 rfl ?_
    refine V_if_ne C dX9_rounds_24 (fun c24 => ?_) (fun c24 => absurd c24 (by decide))
    refine V_iload_n C dX9_rounds_70 rfl ?_
    refine V_if_ne C dX9_rounds_71 (fun c71 => ?_) (fun c71 => absurd c71 (by decide))
    refine V_iload_n C dX9_rounds_94 rfl ?_
    refine V_if_eq C dX9_rounds_95 (fun c95 => absurd c95 (by decide)) (fun c95 => ?_)
    refine V_aload_n C dX9_rounds_98 rfl ?_
    refine V_iload_n C dX9_rounds_99 rfl ?_
    refine V_cv C hE dX9_rounds_100 (c_X9_finds (j := 0) (by decide +kernel) (by omega)) kyX9_finds q995 (isoO 73 rfl rfl rfl rfl) rfl rfl rfl ?_
    exact V_iretN C dX9_rounds_103 hT (PQ_fail (by decide +kernel) (by unfold S_rounds; rw [if_neg hq]) (EqY.rf σ))

