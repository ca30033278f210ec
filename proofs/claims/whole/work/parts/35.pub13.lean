def hN (g : Nat → Int32) (j : Nat) : Nat := hk (g j)
def S_rounds (σ : Sg) (s p : Int32) : Rs := if inP s 0 3 then (if σ (shc (hk s)) 1 = 0 then .inl 5 else if inP p 1 12 then (if telB (σ 0) (σ (nmc (hk s))) (hk (σ (shc (hk s)) 2)) = 1 then (if 0 < σ 0 3 then .inl 4 else if σ 0 0 ≤ 4000 then .inr (rnA p (hN (σ (nmc (hk s)))) (σ 0) 400 (hk (σ (shc (hk s)) 2))) else .inl 4) else .inl 4) else .inl 0) else .inl 0

theorem c_X8_rounds {l : Launch} {E : En} {σ : Sg} {p0 p1 : Int32}  (hG : GV (σ 0)) (hln : ∀ s, s < 4 → ∃ n, n ≤ 40 ∧ σ (shc s) 2 = nI n) : MN l yX8_rounds cX8_rounds 5 (some .int) rmX8_rounds E [.ref (ad E 60), .int p0, .int p1] σ (PX σ (S_rounds σ p0 p1) (σ 0)) := by
  refine MN_of (by decide +kernel) rfl fun x C hE hT hcan => ?_
  have C : CX x cX8_rounds RX8 rmX8_rounds := C
  refine V_L (L' := [some (.ref (ad E 60)), some (.int p0), some (.int p1), none, none]) rfl ?_
  refine V_aload_n C dX8_rounds_0 rfl ?_
  refine V_iload_n C dX8_rounds_1 rfl ?_
  by_cases hq : inP p0 0 3
  · obtain ⟨s, rfl, hs3⟩ := i32_le (m := 3) (by omega) hq.1 hq.2
    have hs : s < 4 := by omega
    refine V_cv C hE dX8_rounds_2 (c_X8_sheetAt hs) kyX8_sheetAt q810 (isoO 60 rfl rfl rfl rfl) rfl rfl rfl ?_
    refine V_astore_n C dX8_rounds_5 rfl ?_
    refine V_aload_n C dX8_rounds_6 rfl ?_
    refine V_ifnonnull C dX8_rounds_7 ?_
    have hks : hk (nI s) = s := hk_n (by omega)
    obtain ⟨n, hn40, hn⟩ := hln s hs
    refine V_aload_n C dX8_rounds_16 rfl ?_
    refine V_cv C hE dX8_rounds_17 (c_X3_isMissing hs) kyX3_isMissing q822 (isoSh (by first | assumption | omega)) rfl rfl rfl ?_
    refine V_ifeq_b C dX8_rounds_20 (fun c20 => ?_) (fun c20 => ?_)
    · refine V_iload_n C dX8_rounds_29 rfl ?_
      refine V_iconst C 1 dX8_rounds_30 (by decide) ?_
      refine V_bipush C 12 dX8_rounds_31 (by decide) ?_
      refine V_cs C hE dX8_rounds_33 (c_X8_within) kyX8_within q270 rfl rfl rfl ?_
      refine V_ifne_b C dX8_rounds_36 (fun c36 => ?_) (fun c36 => ?_)
      · refine V_aload_n C dX8_rounds_45 rfl ?_
        refine V_aload_n C dX8_rounds_46 rfl ?_
        by_cases hT1 : telP (σ 0) (σ (nmc s)) n
        · refine V_cv C hE dX8_rounds_47 (c_X8_tellsHouses hs hn hn40) kyX8_tellsHouses q851 (isoO 60 rfl rfl rfl rfl) rfl rfl rfl ?_
          refine V_if_eq C dX8_rounds_50 (fun c50 => absurd c50 (by rw [telB_t hT1]; decide)) (fun c50 => ?_)
          refine V_aload_n C dX8_rounds_53 rfl ?_
          refine V_get C dX8_rounds_54 (rdX8_live) in_X8 (by decide) q232 rfl ?_
          refine V_getN C hE.nw dX8_rounds_57 (rdV (by first | assumption | omega) 7 3 rfl rfl rfl) in_X5 (by decide) q144 rfl ?_
          refine V_if_gt C dX8_rounds_60 (fun c60 => ?_) (fun c60 => ?_)
          · refine V_aload_n C dX8_rounds_76 rfl ?_
            refine V_iconst C 4 dX8_rounds_77 (by decide) ?_
            refine V_cv C hE dX8_rounds_78 (c_X8_fail (j := 4) (by omega)) kyX8_fail q273 (isoO 60 rfl rfl rfl rfl) rfl rfl rfl ?_
            exact V_iretN C dX8_rounds_81 hT (PX_fail (by unfold S_rounds; (try rw [hk_n (show s < 2 ^ 31 by omega)]); (try rw [hn, hk_n (show n < 2 ^ 31 by omega)]); (try rw [telB_t hT1]); (try rw [telB_f hT1]); all_goals (first | rw [if_pos hq] | rw [if_neg hq]); all_goals (first | rw [if_pos c20] | rw [if_neg c20]); all_goals (first | rw [if_pos c36] | rw [if_neg c36]); all_goals (first | rw [if_pos rfl] | rw [if_neg (by decide)]); all_goals (first | rw [if_pos c60] | rw [if_neg c60])) (EqX.rf σ))
          · refine V_aload_n C dX8_rounds_63 rfl ?_
            refine V_get C dX8_rounds_64 (rdX8_live) in_X8 (by decide) q232 rfl ?_
            refine V_getN C hE.nw dX8_rounds_67 (rdV (by first | assumption | omega) 8 0 rfl rfl rfl) in_X5 (by decide) q146 rfl ?_
            refine V_sipush C 4000 dX8_rounds_70 (by decide) ?_
            refine V_icmp_le C dX8_rounds_73 (fun c73 => ?_) (fun c73 => ?_)
            · refine V_aload_n C dX8_rounds_82 rfl ?_
              refine V_get C dX8_rounds_83 (rdX8_first) in_X8 (by decide) q234 rfl ?_
              refine V_aload_n C dX8_rounds_86 rfl ?_
              refine V_get C dX8_rounds_87 (rdX8_live) in_X8 (by decide) q232 rfl ?_
              refine V_cv0 C hE dX8_rounds_90 (c_X5_beginRound (v := 2) (w := 0) (by omega) (by omega) (by omega)) kyX5_beginRound q530 (isoV (by first | assumption | omega)) rfl rfl rfl ?_
              refine V_iconst C 0 dX8_rounds_93 (by decide) ?_
              refine V_istore C dX8_rounds_94 rfl ?_
              have lp : ∀ (d i : Nat) (u : Sg), i + d = n → (EqX σ u) → (u 2 = rnV p1 (hN (σ (nmc s))) (σ 0) i) → (u (5+2) 0 = rnA p1 (hN (σ (nmc s))) (σ 0) 400 i) → V x (eA E) (AP x E (u)) 0 0 96 [some (.ref (ad E 60)), some (.int (nI s)), some (.int p1), some (.ref (ad E (shc s))), some (.int (nI i))] [] := by
                intro d
                induction d with
                | zero =>
                  intro i u hi' hu h2 h7
                  have hN0 : i = n := by omega
                  refine V_iload C dX8_rounds_96 rfl ?_
                  refine V_aload_n C dX8_rounds_98 rfl ?_
                  refine V_getN C hE.nw dX8_rounds_99 (rdShL (by first | assumption | omega)) in_X3 (by decide) q224 rfl ?_
                  refine V_icmp_ge C dX8_rounds_102 (fun c102 => ?_) (fun c102 => absurd (by rw [hu _ (nTR_sh hs), hn, hN0]; exact nI_le (Nat.le_refl _) (by omega)) c102)
                  refine V_aload_n C dX8_rounds_125 rfl ?_
                  refine V_get C dX8_rounds_126 (rdX8_first) in_X8 (by decide) q234 rfl ?_
                  refine V_getN C hE.nw dX8_rounds_129 (rdLeast (by first | assumption | omega)) in_X5 (by decide) q154 rfl ?_
                  exact V_iretN C dX8_rounds_132 hT (PX_rd (by unfold S_rounds; rw [hks, if_pos hq, if_neg c20, if_pos c36, hn, hk_n (by omega), if_pos (telB_t hT1), if_neg c60, if_pos c73, h7, hN0]) hu)
                | succ d ih =>
                  intro i u hi' hu h2 h7
                  obtain ⟨b, hb, hbe, hb8⟩ := isH_of (hcan.1 0 (by omega)) (tel_at n hT1 i (by omega))
                  have hNb : hN (σ (nmc s)) i = b := by unfold hN; rw [hbe]; exact hk_n (by omega)
                  have hg : GV (rnV p1 (hN (σ (nmc s))) (σ 0) i) := GV_rnV hG i (fun j hj => by obtain ⟨b', _, hbe', hb8'⟩ := isH_of (hcan.1 0 (by omega)) (tel_at n hT1 j (by omega)); unfold hN; rw [hbe', hk_n (by omega)]; omega)
                  have hk2 := legK_b hg (b := b) (by omega) c36
                  refine V_iload C dX8_rounds_96 rfl ?_
                  refine V_aload_n C dX8_rounds_98 rfl ?_
                  refine V_getN C hE.nw dX8_rounds_99 (rdShL (by first | assumption | omega)) in_X3 (by decide) q224 rfl ?_
                  refine V_icmp_ge C dX8_rounds_102 (fun c102 => absurd c102 (by rw [hu _ (nTR_sh hs), hn]; exact nI_ge (by omega) (by omega))) (fun c102 => ?_)
                  refine V_aload_n C dX8_rounds_105 rfl ?_
                  refine V_get C dX8_rounds_106 (rdX8_first) in_X8 (by decide) q234 rfl ?_
                  refine V_aload_n C dX8_rounds_109 rfl ?_
                  refine V_iload C dX8_rounds_110 rfl ?_
                  refine V_cv C hE dX8_rounds_112 (c_X3_get (s := s) (i := i) hs (by omega)) kyX3_get q842 (isoSh (by first | assumption | omega)) rfl rfl rfl ?_
                  rw [hu _ (nTR_nm hs), hbe]
                  refine V_iload_n C dX8_rounds_115 rfl ?_
                  refine V_cv0 C hE dX8_rounds_116 (c_X5_leg (v := 2) (b := b) (n := legK p1 (rnV p1 (hN (σ (nmc s))) (σ 0) i) b) (p1 := p1) (by omega) (by rw [h2]; exact hg.2.2.1) (by rw [h2]; exact hg.2.2.2) (by omega) (by rw [h2]; exact hg.1) (by rw [h2]; obtain ⟨m, hm, hm2⟩ := wayF_b hg.2.1 hg.2.2.2 (b := b) (by omega); rw [hm]; exact nI_pos' (by omega)) (by rw [h2]; exact hk2.1) (by omega)) kyX5_leg q535 (isoV (by first | assumption | omega)) rfl rfl rfl ?_
                  refine V_iinc C 1 dX8_rounds_119 rfl (by decide) rfl ?_
                  refine V_goto C dX8_rounds_122 ?_
                  exact V_nx rfl (by simp [← nI_1] <;> rfl) (ih (i + 1) _ (by omega) ((hu.put (by omega)).put (by omega)) (by simp (disch := omega) only [us_s, us_n]; rw [h2]; show _ = legV p1 _ (hN _ i); rw [hNb]; rfl) (by rw [us_s, lw_0, h2, h7]; show _ = legA p1 _ _ (hN _ i); rw [hNb]; rfl))
              exact lp n 0 _ (by omega) (((EqX.rf σ).put (by omega)).put (by omega)) (by rw [us_n (by omega), us_s]; rfl) (by rw [us_s, lw_0]; rfl)
            · refine V_aload_n C dX8_rounds_76 rfl ?_
              refine V_iconst C 4 dX8_rounds_77 (by decide) ?_
              refine V_cv C hE dX8_rounds_78 (c_X8_fail (j := 4) (by omega)) kyX8_fail q273 (isoO 60 rfl rfl rfl rfl) rfl rfl rfl ?_
              exact V_iretN C dX8_rounds_81 hT (PX_fail (by unfold S_rounds; (try rw [hk_n (show s < 2 ^ 31 by omega)]); (try rw [hn, hk_n (show n < 2 ^ 31 by omega)]); (try rw [telB_t hT1]); (try rw [telB_f hT1]); all_goals (first | rw [if_pos hq] | rw [if_neg hq]); all_goals (first | rw [if_pos c20] | rw [if_neg c20]); all_goals (first | rw [if_pos c36] | rw [if_neg c36]); all_goals (first | rw [if_pos rfl] | rw [if_neg (by decide)]); all_goals (first | rw [if_pos c60] | rw [if_neg c60]); all_goals (first | rw [if_pos c73] | rw [if_neg c73])) (EqX.rf σ))
        · refine V_cv C hE dX8_rounds_47 (c_X8_tellsHouses hs hn hn40) kyX8_tellsHouses q851 (isoO 60 rfl rfl rfl rfl) rfl rfl rfl ?_
          refine V_if_eq C dX8_rounds_50 (fun c50 => ?_) (fun c50 => absurd (by rw [telB_f hT1]) c50)
          refine V_aload_n C dX8_rounds_76 rfl ?_
          refine V_iconst C 4 dX8_rounds_77 (by decide) ?_
          refine V_cv C hE dX8_rounds_78 (c_X8_fail (j := 4) (by omega)) kyX8_fail q273 (isoO 60 rfl rfl rfl rfl) rfl rfl rfl ?_
          exact V_iretN C dX8_rounds_81 hT (PX_fail (by unfold S_rounds; (try rw [hk_n (show s < 2 ^ 31 by omega)]); (try rw [hn, hk_n (show n < 2 ^ 31 by omega)]); (try rw [telB_t hT1]); (try rw [telB_f hT1]); all_goals (first | rw [if_pos hq] | rw [if_neg hq]); all_goals (first | rw [if_pos c20] | rw [if_neg c20]); all_goals (first | rw [if_pos c36] | rw [if_neg c36]); all_goals (first | rw [if_pos rfl] | rw [if_neg (by decide)])) (EqX.rf σ))
      · refine V_aload_n C dX8_rounds_39 rfl ?_
        refine V_iconst C 0 dX8_rounds_40 (by decide) ?_
        refine V_cv C hE dX8_rounds_41 (c_X8_fail (j := 0) (by omega)) kyX8_fail q273 (isoO 60 rfl rfl rfl rfl) rfl rfl rfl ?_
        exact V_iretN C dX8_rounds_44 hT (PX_fail (by unfold S_rounds; (try rw [hk_n (show s < 2 ^ 31 by omega)]); (try rw [hn, hk_n (show n < 2 ^ 31 by omega)]); (try rw [telB_t hT1]); (try rw [telB_f hT1]); all_goals (first | rw [if_pos hq] | rw [if_neg hq]); all_goals (first | rw [if_pos c20] | rw [if_neg c20]); all_goals (first | rw [if_pos c36] | rw [if_neg c36])) (EqX.rf σ))
    · refine V_aload_n C dX8_rounds_23 rfl ?_
      refine V_iconst C 5 dX8_rounds_24 (by decide) ?_
      refine V_cv C hE dX8_rounds_25 (c_X8_fail (j := 5) (by omega)) kyX8_fail q273 (isoO 60 rfl rfl rfl rfl) rfl rfl rfl ?_
      exact V_iretN C dX8_rounds_28 hT (PX_fail (by unfold S_rounds; (try rw [hk_n (show s < 2 ^ 31 by omega)]); (try rw [hn, hk_n (show n < 2 ^ 31 by omega)]); (try rw [telB_t hT1]); (try rw [telB_f hT1]); all_goals (first | rw [if_pos hq] | rw [if_neg hq]); all_goals (first | rw [if_pos c20] | rw [if_neg c20])) (EqX.rf σ))
  · refine V_cv C hE dX8_rounds_2 (c_X8_sheetAtN hq) kyX8_sheetAt q810 (isoO 60 rfl rfl rfl rfl) rfl rfl rfl ?_
    refine V_astore_nN C dX8_rounds_5 rfl ?_
    refine V_aload_nN C dX8_rounds_6 rfl ?_
    refine V_ifnonnullN C dX8_rounds_7 ?_
    refine V_aload_n C dX8_rounds_10 rfl ?_
    refine V_iconst C 0 dX8_rounds_11 (by decide) ?_
    refine V_cv C hE dX8_rounds_12 (c_X8_fail (j := 0) (by omega)) kyX8_fail q273 (isoO 60 rfl rfl rfl rfl) rfl rfl rfl ?_
    exact V_iretN C dX8_rounds_15 hT (PX_fail (by unfold S_rounds; (try rw [hk_n (show s < 2 ^ 31 by omega)]); (try rw [hn, hk_n (show n < 2 ^ 31 by omega)]); (try rw [telB_t hT1]); (try rw [telB_f hT1]); all_goals (first | rw [if_pos hq] | rw [if_neg hq])) (EqX.rf σ))

