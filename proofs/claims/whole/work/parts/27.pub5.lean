theorem c_X8_changed {l : Launch} {E : En} {σ : Sg} {i j q : Nat} {p2 : Int32} (hi : i < nh (σ 0)) (hj : j < 5) (hI : Inv (uh (σ 0) i j p2)) (hq : q < 2 ^ 31) : MN l yX8_changed cX8_changed 7 (some (.object "SledgeStove$House")) rmX8_changed E [.ref (ad E 60), .int (nI i), .int (nI j), .int p2, .int (nI q)] σ (fun r u => r = some (.ref (ad E (hc 2 i))) ∧ (u 2 = passN q (uh (σ 0) i j p2) ∧ EqX σ u)) := by
  refine MN_of (by decide +kernel) rfl fun x C hE hT hcan => ?_
  have C : CX x cX8_changed RX8 rmX8_changed := C
  have hn1 := (hcan.1 0 (by omega)).1
  have h8 := (hcan.1 0 (by omega)).2.1
  refine V_L (L' := [some (.ref (ad E 60)), some (.int (nI i)), some (.int (nI j)), some (.int p2), some (.int (nI q)), none, none]) rfl ?_
  refine V_aload_n C dX8_changed_0 rfl ?_
  refine V_cv C hE dX8_changed_1 (c_X8_trial) kyX8_trial q443 (isoO 60 rfl rfl rfl rfl) rfl rfl rfl ?_
  try simp only [us_us, us_s, trS_2]
  refine V_astore C dX8_changed_4 rfl ?_
  refine V_aload C dX8_changed_6 rfl ?_
  refine V_iload_n C dX8_changed_8 rfl ?_
  refine V_cv C hE dX8_changed_9 (c_X5_get (v := 2) (i := i) (by omega) (by rw [trS_2]; exact hi)) kyX5_get q294 (isoV (by first | assumption | omega)) rfl rfl rfl ?_
  try simp only [us_us, us_s, trS_2]
  refine V_astore C dX8_changed_12 rfl ?_
  refine V_aload C dX8_changed_14 rfl ?_
  refine V_ifnull C dX8_changed_16 ?_
  refine V_aload C dX8_changed_19 rfl ?_
  refine V_iload_n C dX8_changed_21 rfl ?_
  refine V_iload_n C dX8_changed_22 rfl ?_
  refine V_cv0 C hE dX8_changed_23 (c_X1_put (v := 2) (i := i) (j := j) (by omega) (by rw [trS_2]; exact hi) hj) kyX1_put q325 (isoH (by first | assumption | omega) (by first | assumption | omega)) rfl rfl rfl ?_
  try simp only [us_us, us_s, trS_2]
  refine V_aload C dX8_changed_26 rfl ?_
  refine V_iload C dX8_changed_28 rfl ?_
  refine V_cv0 C hE dX8_changed_30 (c_X5_pass (v := 2) (n := q) (by omega) hq (by rw [us_s]; exact hI)) kyX5_pass q386 (isoV (by first | assumption | omega)) rfl rfl rfl ?_
  try simp only [us_us, us_s, trS_2]
  refine V_aload C dX8_changed_33 rfl ?_
  exact V_aretR C dX8_changed_35 hT (⟨rfl, by rw [us_s], (EqX_tr σ).put (by omega)⟩)

/-- what logs() and wall() look for: j is the part, from lo on, cnt numbers -/
def S_lv (f : Nat → Int32) (h n : Int32) (j lo cnt : Nat) : Rs := if isH f h then (if inP n 1 96 then (if 9999 - n < f 0 then .inl 4 else rsO (fstN (lstP f (hk h) j (hk n)) cnt lo)) else .inl 0) else .inl 0
theorem lv_b {f : Nat → Int32} {b i j lo cnt : Nat} (h : Inv f) (hb : b < nh f) (hjl : (j = 3 ∧ lo = 0 ∧ cnt = 100) ∨ (j = 2 ∧ lo = 1 ∧ cnt = 40)) (hi : i < cnt) : Inv (uh f b j (nI (lo + i))) := by
  rcases hjl with ⟨rfl, rfl, rfl⟩ | ⟨rfl, rfl, rfl⟩
  · exact Inv_uh h hb (by omega) (by omega) (by omega) (fun _ => ⟨nI_pos' (by omega), nI_le (b := 99) (by omega) (by decide)⟩) (by omega)
  · exact Inv_uh2 h hb ⟨nI_le (a := 1) (by omega) (by omega), nI_le (b := 40) (by omega) (by decide)⟩

theorem c_X8_leastValue {l : Launch} {E : En} {σ : Sg} {p0 p1 : Int32} {j lo cnt : Nat}  (hG : GV (σ 0)) (hjl : (j = 3 ∧ lo = 0 ∧ cnt = 100) ∨ (j = 2 ∧ lo = 1 ∧ cnt = 40)) : MN l yX8_leastValue cX8_leastValue 6 (some .int) rmX8_leastValue E [.ref (ad E 60), .int p0, .int p1, .int (nI j)] σ (PX σ (S_lv (σ 0) p0 p1 j lo cnt) (σ 0)) := by
  refine MN_of (by decide +kernel) rfl fun x C hE hT hcan => ?_
  have C : CX x cX8_leastValue RX8 rmX8_leastValue := C
  have hLo : loV (nI j) = nI lo := by rcases hjl with ⟨rfl, rfl, rfl⟩ | ⟨rfl, rfl, rfl⟩ <;> rfl
  have hHi : hiV (nI j) = nI (lo + cnt - 1) := by rcases hjl with ⟨rfl, rfl, rfl⟩ | ⟨rfl, rfl, rfl⟩ <;> rfl
  have hc1 : 1 ≤ cnt ∧ cnt ≤ 100 ∧ lo ≤ 1 := by omega
  refine V_L (L' := [some (.ref (ad E 60)), some (.int p0), some (.int p1), some (.int (nI j)), none, none]) rfl ?_
  refine V_aload_n C dX8_leastValue_0 rfl ?_
  refine V_get C dX8_leastValue_1 (rdX8_live) in_X8 (by decide) q232 rfl ?_
  refine V_iload_n C dX8_leastValue_4 rfl ?_
  by_cases hh : isH (σ 0) p0
  · obtain ⟨b, hb, rfl, hb8⟩ := isH_of (hcan.1 0 (by omega)) hh
    refine V_cv C hE dX8_leastValue_5 (c_X5_get (v := 0) (i := b) (by omega) hb) kyX5_get q294 (isoV (by first | assumption | omega)) rfl rfl rfl ?_
    refine V_ifnull C dX8_leastValue_8 ?_
    refine V_iload_n C dX8_leastValue_11 rfl ?_
    refine V_iconst C 1 dX8_leastValue_12 (by decide) ?_
    refine V_bipush C 96 dX8_leastValue_13 (by decide) ?_
    refine V_cs C hE dX8_leastValue_15 (c_X8_within) kyX8_within q270 rfl rfl rfl ?_
    refine V_ifne_b C dX8_leastValue_18 (fun c18 => ?_) (fun c18 => ?_)
    · refine V_aload_n C dX8_leastValue_27 rfl ?_
      refine V_iload_n C dX8_leastValue_28 rfl ?_
      refine V_cv C hE dX8_leastValue_29 (c_X8_endsTooLate) kyX8_endsTooLate q377 (isoO 60 rfl rfl rfl rfl) rfl rfl rfl ?_
      refine V_ifeq_b C dX8_leastValue_32 (fun c32 => ?_) (fun c32 => ?_)
      · obtain ⟨q, rfl, hq⟩ := i32_le (m := 96) (by omega) (Int32.le_trans (by decide) c18.1) c18.2
        refine V_iload_n C dX8_leastValue_41 rfl ?_
        refine V_cs C hE dX8_leastValue_42 (c_X8_lowest) kyX8_lowest q319 rfl rfl rfl ?_
        rw [hLo]
        refine V_istore C dX8_leastValue_45 rfl ?_
        have lp : ∀ (d i : Nat) (u : Sg), i + d = cnt → (EqX σ u) → (∀ x, lo ≤ x → x < lo + i → lstP (σ 0) b j q x = false) → V x (eA E) (AP x E (u)) 0 0 47 [some (.ref (ad E 60)), some (.int (nI b)), some (.int (nI q)), some (.int (nI j)), some (.int (nI (lo + i))), none] [] := by
          intro d
          induction d with
          | zero =>
            intro i u hi' hu hp
            have hN : i = cnt := by omega
            refine V_iload C dX8_leastValue_47 rfl ?_
            refine V_iload_n C dX8_leastValue_49 rfl ?_
            refine V_cs C hE dX8_leastValue_50 (c_X8_highest) kyX8_highest q322 rfl rfl rfl ?_
            rw [hHi]
            refine V_icmp_gt C dX8_leastValue_53 (fun c53 => ?_) (fun c53 => absurd (nI_lt (by omega) (by omega)) c53)
            refine V_aload_n C dX8_leastValue_89 rfl ?_
            refine V_iconst C 3 dX8_leastValue_90 (by decide) ?_
            refine V_cv C hE dX8_leastValue_91 (c_X8_fail (j := 3) (by omega)) kyX8_fail q273 (isoO 60 rfl rfl rfl rfl) rfl rfl rfl ?_
            exact V_iretN C dX8_leastValue_94 hT (PX_fail (by unfold S_lv; rw [if_pos hh, if_pos c18, if_neg c32, hk_nI hb8, hk_n (by omega), fst_none cnt lo (fun x h1 h2 => hp x h1 (by omega))]; rfl) hu)
          | succ d ih =>
            intro i u hi' hu hp
            refine V_iload C dX8_leastValue_47 rfl ?_
            refine V_iload_n C dX8_leastValue_49 rfl ?_
            refine V_cs C hE dX8_leastValue_50 (c_X8_highest) kyX8_highest q322 rfl rfl rfl ?_
            rw [hHi]
            refine V_icmp_gt C dX8_leastValue_53 (fun c53 => absurd c53 (nI_nlt (by omega) (by omega))) (fun c53 => ?_)
            refine V_aload_n C dX8_leastValue_56 rfl ?_
            refine V_iload_n C dX8_leastValue_57 rfl ?_
            refine V_iload_n C dX8_leastValue_58 rfl ?_
            refine V_iload C dX8_leastValue_59 rfl ?_
            refine V_iload_n C dX8_leastValue_61 rfl ?_
            refine V_cq C hE dX8_leastValue_62 (c_X8_changed (i := b) (j := j) (q := q) (by rw [hu.z]; exact hb) (by omega) (by rw [hu.z]; exact lv_b hG.1 hb hjl (by omega)) (by omega)) kyX8_changed q500 (isoO 60 rfl rfl rfl rfl) rfl rfl rfl ?_
            rintro u2 ⟨h2, hu2⟩
            rw [hu.z] at h2
            refine V_astore C dX8_leastValue_65 rfl ?_
            refine V_aload C dX8_leastValue_67 rfl ?_
            refine V_ifnull C dX8_leastValue_69 ?_
            refine V_aload C dX8_leastValue_72 rfl ?_
            refine V_cv C hE dX8_leastValue_74 (c_X1_isCold (v := 2) (i := b) (by omega) (by rw [h2, nh_passN, nh_uh]; exact hb)) kyX1_isCold q504 (isoH (by first | assumption | omega) (by first | assumption | omega)) rfl rfl rfl ?_
            refine V_ifne_b C dX8_leastValue_77 (fun c77 => ?_) (fun c77 => ?_)
            · refine V_forget 5 ?_
              refine V_iinc C 1 dX8_leastValue_83 rfl (by decide) rfl ?_
              refine V_goto C dX8_leastValue_86 ?_
              exact V_nx rfl (by simp [← nI_1, ← Nat.add_assoc] <;> rfl) (ih (i + 1) u2 (by omega) (hu.tr hu2) (by rw [← Nat.add_assoc]; exact fal_s hp (by unfold lstP cldF; rw [← h2, decide_eq_true c77]; decide)))
            · refine V_iload C dX8_leastValue_80 rfl ?_
              exact V_iretN C dX8_leastValue_82 hT (PX_rd (by unfold S_lv; rw [if_pos hh, if_pos c18, if_neg c32, hk_nI hb8, hk_n (by omega), fst_some cnt lo (lo + i) (by omega) (by omega) hp (by unfold lstP cldF; rw [← h2, decide_eq_false c77]; rfl)]; rfl) (hu.tr hu2))
        exact lp cnt 0 σ (by omega) (EqX.rf σ) (fun x h1 h2 => absurd h2 (by omega))
      · refine V_aload_n C dX8_leastValue_35 rfl ?_
        refine V_iconst C 4 dX8_leastValue_36 (by decide) ?_
        refine V_cv C hE dX8_leastValue_37 (c_X8_fail (j := 4) (by omega)) kyX8_fail q273 (isoO 60 rfl rfl rfl rfl) rfl rfl rfl ?_
        exact V_iretN C dX8_leastValue_40 hT (PX_fail (by unfold S_lv; all_goals (first | rw [if_pos hh] | rw [if_neg hh]); all_goals (first | rw [if_pos c18] | rw [if_neg c18]); all_goals (first | rw [if_pos c32] | rw [if_neg c32])) (EqX.rf σ))
    · refine V_aload_n C dX8_leastValue_21 rfl ?_
      refine V_iconst C 0 dX8_leastValue_22 (by decide) ?_
      refine V_cv C hE dX8_leastValue_23 (c_X8_fail (j := 0) (by omega)) kyX8_fail q273 (isoO 60 rfl rfl rfl rfl) rfl rfl rfl ?_
      exact V_iretN C dX8_leastValue_26 hT (PX_fail (by unfold S_lv; all_goals (first | rw [if_pos hh] | rw [if_neg hh]); all_goals (first | rw [if_pos c18] | rw [if_neg c18])) (EqX.rf σ))
  · refine V_cv C hE dX8_leastValue_5 (c_X5_getN (v := 0) (by omega) hh) kyX5_get q294 (isoV (by first | assumption | omega)) rfl rfl rfl ?_
    refine V_ifnullN C dX8_leastValue_8 ?_
    refine V_aload_n C dX8_leastValue_21 rfl ?_
    refine V_iconst C 0 dX8_leastValue_22 (by decide) ?_
    refine V_cv C hE dX8_leastValue_23 (c_X8_fail (j := 0) (by omega)) kyX8_fail q273 (isoO 60 rfl rfl rfl rfl) rfl rfl rfl ?_
    exact V_iretN C dX8_leastValue_26 hT (PX_fail (by unfold S_lv; all_goals (first | rw [if_pos hh] | rw [if_neg hh])) (EqX.rf σ))

theorem c_X8_logs {l : Launch} {E : En} {σ : Sg} {p0 p1 : Int32} (hG : GV (σ 0)) : MN l yX8_logs cX8_logs 3 (some .int) rmX8_logs E [.ref (ad E 60), .int p0, .int p1] σ (PX σ (S_logs (σ 0) p0 p1) (σ 0)) := by
  refine MN_of (by decide +kernel) rfl fun x C hE hT hcan => ?_
  have C : CX x cX8_logs RX8 rmX8_logs := C
  refine V_L (L' := [some (.ref (ad E 60)), some (.int p0), some (.int p1)]) rfl ?_
  refine V_aload_n C dX8_logs_0 rfl ?_
  refine V_iload_n C dX8_logs_1 rfl ?_
  refine V_iload_n C dX8_logs_2 rfl ?_
  refine V_iconst C 3 dX8_logs_3 (by decide) ?_
  refine V_cq C hE dX8_logs_4 (c_X8_leastValue (j := 3) (lo := 0) (cnt := 100) hG (by omega)) kyX8_leastValue q496 (isoO 60 rfl rfl rfl rfl) rfl rfl rfl ?_
  intro u2 h2
  exact V_iretN C dX8_logs_7 hT (⟨rfl, h2⟩)

theorem c_X8_wall {l : Launch} {E : En} {σ : Sg} {p0 p1 : Int32} (hG : GV (σ 0)) : MN l yX8_wall cX8_wall 3 (some .int) rmX8_wall E [.ref (ad E 60), .int p0, .int p1] σ (PX σ (S_wall (σ 0) p0 p1) (σ 0)) := by
  refine MN_of (by decide +kernel) rfl fun x C hE hT hcan => ?_
  have C : CX x cX8_wall RX8 rmX8_wall := C
  refine V_L (L' := [some (.ref (ad E 60)), some (.int p0), some (.int p1)]) rfl ?_
  refine V_aload_n C dX8_wall_0 rfl ?_
  refine V_iload_n C dX8_wall_1 rfl ?_
  refine V_iload_n C dX8_wall_2 rfl ?_
  refine V_iconst C 2 dX8_wall_3 (by decide) ?_
  refine V_cq C hE dX8_wall_4 (c_X8_leastValue (j := 2) (lo := 1) (cnt := 40) hG (by omega)) kyX8_leastValue q496 (isoO 60 rfl rfl rfl rfl) rfl rfl rfl ?_
  intro u2 h2
  exact V_iretN C dX8_wall_7 hT (⟨rfl, h2⟩)

