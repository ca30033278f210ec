def jdgV : Option Nat → Int32
  | none => 0
  | some i => 1 + nI i
def jdgP (f g : Nat → Int32) (b : Nat) (i : Nat) : Bool := decide (¬ hf (passN (i+1) f) b 1 = g i)
def S_judge (σ : Sg) (s h : Int32) : Rs := if inP s 0 3 then (if σ (shc (hk s)) 1 = 0 then .inl 5 else if isH (σ 0) h then (if 9999 - σ (shc (hk s)) 2 < σ 0 0 then .inl 4 else .inr (jdgV (fstN (jdgP (σ 0) (σ (nmc (hk s))) (hk h)) (hk (σ (shc (hk s)) 2)) 0))) else .inl 0) else .inl 0
theorem nTR_sh {s : Nat} (h : s < 4) : ¬ TR (shc s) := by unfold shc; omega
theorem nTR_nm {s : Nat} (h : s < 4) : ¬ TR (nmc s) := by unfold nmc; omega

theorem c_X8_judge {l : Launch} {E : En} {σ : Sg} {p0 p1 : Int32}  (hG : GV (σ 0)) (hln : ∀ s, s < 4 → ∃ n, n ≤ 40 ∧ σ (shc s) 2 = nI n) : MN l yX8_judge cX8_judge 7 (some .int) rmX8_judge E [.ref (ad E 60), .int p0, .int p1] σ (PX σ (S_judge σ p0 p1) (σ 0)) := by
  refine MN_of (by decide +kernel) rfl fun x C hE hT hcan => ?_
  have C : CX x cX8_judge RX8 rmX8_judge := C
  refine V_L (L' := [some (.ref (ad E 60)), some (.int p0), some (.int p1), none, none, none, none]) rfl ?_
  refine V_aload_n C dX8_judge_0 rfl ?_
  refine V_iload_n C dX8_judge_1 rfl ?_
  by_cases hq : inP p0 0 3
  · obtain ⟨s, rfl, hs3⟩ := i32_le (m := 3) (by omega) hq.1 hq.2
    have hs : s < 4 := by omega
    refine V_cv C hE dX8_judge_2 (c_X8_sheetAt hs) kyX8_sheetAt q810 (isoO 60 rfl rfl rfl rfl) rfl rfl rfl ?_
    refine V_astore_n C dX8_judge_5 rfl ?_
    refine V_aload_n C dX8_judge_6 rfl ?_
    refine V_ifnonnull C dX8_judge_7 ?_
    have hks : hk (nI s) = s := hk_n (by omega)
    obtain ⟨n, hn40, hn⟩ := hln s hs
    refine V_aload_n C dX8_judge_16 rfl ?_
    refine V_cv C hE dX8_judge_17 (c_X3_isMissing hs) kyX3_isMissing q822 (isoSh (by first | assumption | omega)) rfl rfl rfl ?_
    refine V_ifeq_b C dX8_judge_20 (fun c20 => ?_) (fun c20 => ?_)
    · refine V_aload_n C dX8_judge_29 rfl ?_
      refine V_get C dX8_judge_30 (rdX8_live) in_X8 (by decide) q232 rfl ?_
      refine V_iload_n C dX8_judge_33 rfl ?_
      by_cases hh : isH (σ 0) p1
      · obtain ⟨b, hb, rfl, hb8⟩ := isH_of (hcan.1 0 (by omega)) hh
        refine V_cv C hE dX8_judge_34 (c_X5_get (v := 0) (i := b) (by omega) hb) kyX5_get q294 (isoV (by first | assumption | omega)) rfl rfl rfl ?_
        refine V_ifnonnull C dX8_judge_37 ?_
        refine V_aload_n C dX8_judge_46 rfl ?_
        refine V_aload_n C dX8_judge_47 rfl ?_
        refine V_getN C hE.nw dX8_judge_48 (rdShL (by first | assumption | omega)) in_X3 (by decide) q224 rfl ?_
        refine V_cv C hE dX8_judge_51 (c_X8_endsTooLate) kyX8_endsTooLate q377 (isoO 60 rfl rfl rfl rfl) rfl rfl rfl ?_
        refine V_ifeq_b C dX8_judge_54 (fun c54 => ?_) (fun c54 => ?_)
        · refine V_aload_n C dX8_judge_63 rfl ?_
          refine V_cv C hE dX8_judge_64 (c_X8_trial) kyX8_trial q443 (isoO 60 rfl rfl rfl rfl) rfl rfl rfl ?_
          refine V_astore C dX8_judge_67 rfl ?_
          refine V_aload C dX8_judge_69 rfl ?_
          refine V_iload_n C dX8_judge_71 rfl ?_
          refine V_cv C hE dX8_judge_72 (c_X5_get (v := 2) (i := b) (by omega) (by rw [trS_2]; exact hb)) kyX5_get q294 (isoV (by first | assumption | omega)) rfl rfl rfl ?_
          refine V_astore C dX8_judge_75 rfl ?_
          refine V_iconst C 0 dX8_judge_77 (by decide) ?_
          refine V_istore C dX8_judge_78 rfl ?_
          have lp : ∀ (d i : Nat) , i + d = n → (∀ j, 0 ≤ j → j < i → jdgP (σ 0) (σ (nmc s)) b j = false) → V x (eA E) (AP x E (us (trS σ) 2 (passN i (σ 0)))) 0 0 80 [some (.ref (ad E 60)), some (.int (nI s)), some (.int (nI b)), some (.ref (ad E (shc s))), some (.ref (ad E (vb 2))), some (.ref (ad E (hc 2 b))), some (.int (nI i))] [] := by
            intro d
            induction d with
            | zero =>
              intro i  hi' hp
              have hN : i = n := by omega
              refine V_iload C dX8_judge_80 rfl ?_
              refine V_aload_n C dX8_judge_82 rfl ?_
              refine V_getN C hE.nw dX8_judge_83 (rdShL (by first | assumption | omega)) in_X3 (by decide) q224 rfl ?_
              refine V_icmp_ge C dX8_judge_86 (fun c86 => ?_) (fun c86 => absurd (by rw [((EqX_tr σ).put (c := 2) (f := passN i (σ 0)) (by omega)) _ (nTR_sh hs), hn, hN]; exact nI_le (Nat.le_refl _) (by omega)) c86)
              refine V_iconst C 0 dX8_judge_125 (by decide) ?_
              exact V_iretN C dX8_judge_126 hT (PX_rd (by unfold S_judge; rw [hks, if_pos hq, if_neg c20, if_pos hh, if_neg c54, hk_nI hb8, hn, hk_n (by omega), fst_none n 0 (fun j h1 h2 => hp j h1 (by omega))]; rfl) ((EqX_tr σ).put (by omega)))
            | succ d ih =>
              intro i  hi' hp
              refine V_iload C dX8_judge_80 rfl ?_
              refine V_aload_n C dX8_judge_82 rfl ?_
              refine V_getN C hE.nw dX8_judge_83 (rdShL (by first | assumption | omega)) in_X3 (by decide) q224 rfl ?_
              refine V_icmp_ge C dX8_judge_86 (fun c86 => absurd c86 (by rw [((EqX_tr σ).put (c := 2) (f := passN i (σ 0)) (by omega)) _ (nTR_sh hs), hn]; exact nI_ge (by omega) (by omega))) (fun c86 => ?_)
              refine V_aload C dX8_judge_89 rfl ?_
              refine V_iconst C 1 dX8_judge_91 (by decide) ?_
              refine V_cv0 C hE dX8_judge_92 (c_X5_pass (v := 2) (n := 1) (by omega) (by omega) (by rw [us_s]; exact Inv_passN hG.1 i)) kyX5_pass q386 (isoV (by first | assumption | omega)) rfl rfl rfl ?_
              try simp only [us_us, us_s]
              have hnb : b < nh (passN 1 (passN i (σ 0))) := by rw [nh_passN, nh_passN]; exact hb
              refine V_aload C dX8_judge_95 rfl ?_
              refine V_ifnull C dX8_judge_97 ?_
              refine V_aload C dX8_judge_100 rfl ?_
              refine V_getN C hE.nw dX8_judge_102 (rdH (v := 2) (i := b) (by omega) (by rw [us_s]; exact hnb) 1 rfl) in_X1 (by decide) q103 rfl ?_
              refine V_aload_n C dX8_judge_105 rfl ?_
              refine V_iload C dX8_judge_106 rfl ?_
              refine V_cv C hE dX8_judge_108 (c_X3_get (s := s) (i := i) hs (by omega)) kyX3_get q842 (isoSh (by first | assumption | omega)) rfl rfl rfl ?_
              try simp only [us_us, us_s]
              rw [show us (trS σ) 2 (passN 1 (passN i (σ 0))) (nmc s) = σ (nmc s) from ((EqX_tr σ).put (c := 2) (f := passN (i+1) (σ 0)) (by omega)) _ (nTR_nm hs)]
              refine V_icmp_eq C dX8_judge_111 (fun c111 => ?_) (fun c111 => ?_)
              · refine V_iinc C 1 dX8_judge_119 rfl (by decide) rfl ?_
                refine V_goto C dX8_judge_122 ?_
                exact V_nx (by rfl) (by simp [← nI_1] <;> rfl) (ih (i + 1) (by omega) (fal_s hp (fun q => (of_decide_eq_true q) c111)))
              · refine V_iconst C 1 dX8_judge_114 (by decide) ?_
                refine V_iload C dX8_judge_115 rfl ?_
                refine V_iadd C dX8_judge_117 ?_
                exact V_iretN C dX8_judge_118 hT (PX_rd (by unfold S_judge; rw [hks, if_pos hq, if_neg c20, if_pos hh, if_neg c54, hk_nI hb8, hn, hk_n (by omega), fst_some n 0 i (by omega) (by omega) hp (decide_eq_true c111)]; rfl) ((EqX_tr σ).put (by omega)))
          exact V_nx (by show _ = us (trS σ) 2 (σ 0); have e := us_id (trS σ) 2; rw [trS_2] at e; exact e.symm) rfl (lp n 0 (by omega) (fun j h1 h2 => absurd h2 (by omega)))
        · refine V_aload_n C dX8_judge_57 rfl ?_
          refine V_iconst C 4 dX8_judge_58 (by decide) ?_
          refine V_cv C hE dX8_judge_59 (c_X8_fail (j := 4) (by omega)) kyX8_fail q273 (isoO 60 rfl rfl rfl rfl) rfl rfl rfl ?_
          exact V_iretN C dX8_judge_62 hT (PX_fail (by unfold S_judge; (try rw [hk_n (show s < 2 ^ 31 by omega)]); all_goals (first | rw [if_pos hq] | rw [if_neg hq]); all_goals (first | rw [if_pos c20] | rw [if_neg c20]); all_goals (first | rw [if_pos hh] | rw [if_neg hh]); all_goals (first | rw [if_pos c54] | rw [if_neg c54])) (EqX.rf σ))
      · refine V_cv C hE dX8_judge_34 (c_X5_getN (v := 0) (by omega) hh) kyX5_get q294 (isoV (by first | assumption | omega)) rfl rfl rfl ?_
        refine V_ifnonnullN C dX8_judge_37 ?_
        refine V_aload_n C dX8_judge_40 rfl ?_
        refine V_iconst C 0 dX8_judge_41 (by decide) ?_
        refine V_cv C hE dX8_judge_42 (c_X8_fail (j := 0) (by omega)) kyX8_fail q273 (isoO 60 rfl rfl rfl rfl) rfl rfl rfl ?_
        exact V_iretN C dX8_judge_45 hT (PX_fail (by unfold S_judge; (try rw [hk_n (show s < 2 ^ 31 by omega)]); all_goals (first | rw [if_pos hq] | rw [if_neg hq]); all_goals (first | rw [if_pos c20] | rw [if_neg c20]); all_goals (first | rw [if_pos hh] | rw [if_neg hh])) (EqX.rf σ))
    · refine V_aload_n C dX8_judge_23 rfl ?_
      refine V_iconst C 5 dX8_judge_24 (by decide) ?_
      refine V_cv C hE dX8_judge_25 (c_X8_fail (j := 5) (by omega)) kyX8_fail q273 (isoO 60 rfl rfl rfl rfl) rfl rfl rfl ?_
      exact V_iretN C dX8_judge_28 hT (PX_fail (by unfold S_judge; (try rw [hk_n (show s < 2 ^ 31 by omega)]); all_goals (first | rw [if_pos hq] | rw [if_neg hq]); all_goals (first | rw [if_pos c20] | rw [if_neg c20])) (EqX.rf σ))
  · refine V_cv C hE dX8_judge_2 (c_X8_sheetAtN hq) kyX8_sheetAt q810 (isoO 60 rfl rfl rfl rfl) rfl rfl rfl ?_
    refine V_astore_nN C dX8_judge_5 rfl ?_
    refine V_aload_nN C dX8_judge_6 rfl ?_
    refine V_ifnonnullN C dX8_judge_7 ?_
    refine V_aload_n C dX8_judge_10 rfl ?_
    refine V_iconst C 0 dX8_judge_11 (by decide) ?_
    refine V_cv C hE dX8_judge_12 (c_X8_fail (j := 0) (by omega)) kyX8_fail q273 (isoO 60 rfl rfl rfl rfl) rfl rfl rfl ?_
    exact V_iretN C dX8_judge_15 hT (PX_fail (by unfold S_judge; (try rw [hk_n (show s < 2 ^ 31 by omega)]); all_goals (first | rw [if_pos hq] | rw [if_neg hq])) (EqX.rf σ))

