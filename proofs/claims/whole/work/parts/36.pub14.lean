/-- the steps of a copy from s to t: i, j the first places, n the length -/
def cpyO (i j n k : Nat) : Nat := if i < j then n - 1 - k else k
def cpyS (σ : Sg) (s t i j n : Nat) : Nat → Sg
  | 0 => σ
  | k + 1 => us (cpyS σ s t i j n k) (nmc t) (upd (cpyS σ s t i j n k (nmc t)) (j + cpyO i j n k) (cutV (cpyS σ s t i j n k (shc t) 1) (cpyS σ s t i j n k (nmc s) (i + cpyO i j n k))))
theorem cpyS_o {σ : Sg} {s t i j n : Nat} {c : Nat} (h : c ≠ nmc t) : ∀ k, cpyS σ s t i j n k c = σ c := by
  intro k
  induction k with
  | zero => rfl
  | succ k ih => exact (us_n h).trans ih
theorem nI_msub {a b : Nat} (h : b ≤ a) : nI a - nI b = nI (a - b) := by simp [nI, Int32.ofNat_sub _ _ h]
theorem cpyO_l {i j n k : Nat} (h : k < n) : cpyO i j n k < n := by unfold cpyO; split <;> omega
def S_copy (σ : Sg) (s i t j n : Int32) : Rs := if inP s 0 3 then (if inP t 0 3 then (if σ (shc (hk s)) 1 = 0 then .inl 5 else if σ (shc (hk t)) 1 = 0 then .inl 5 else if σ (shc (hk s)) 1 = σ (shc (hk t)) 1 then (if hasP i n (σ (shc (hk s)) 2) then (if hasP j n (σ (shc (hk t)) 2) then .inr n else .inl 0) else .inl 0) else .inl 2) else .inl 0) else .inl 0
def N_copy (σ : Sg) (s i t j n : Int32) : Sg := cpyS σ (hk s) (hk t) (hk i) (hk j) (hk n) (hk n)
theorem has_n {i n l : Int32} {m : Nat} (hm : m ≤ 40) (hl : l = nI m) (h : hasP i n l) : ∃ a b, i = nI a ∧ n = nI b ∧ a + b ≤ m := by
  obtain ⟨h1, h2, h3, h4⟩ := h
  subst hl
  obtain ⟨b, rfl, hb⟩ := i32_le (m := m) (by omega) h2 h3
  have e : nI m - nI b = nI (m - b) := by
    simp [nI, Int32.ofNat_sub _ _ hb]
  rw [e] at h4
  obtain ⟨a, rfl, ha⟩ := i32_le (m := m - b) (by omega) h1 h4
  exact ⟨a, b, rfl, rfl, by omega⟩
theorem has_m {i l : Int32} {n m : Nat} (hn : n < 2 ^ 31) (hm : m ≤ 40) (hl : l = nI m) (h : hasP i (nI n) l) : ∃ a, i = nI a ∧ a + n ≤ m := by
  obtain ⟨a, b, ha, hb, hab⟩ := has_n hm hl h
  have e : n = b := by have q := congrArg hk hb; rwa [hk_n hn, hk_n (by omega)] at q
  exact ⟨a, ha, by omega⟩

theorem c_X8_copy {l : Launch} {E : En} {σ : Sg} {p0 p1 p2 p3 p4 : Int32}  (hln : ∀ s, s < 4 → ∃ n, n ≤ 40 ∧ σ (shc s) 2 = nI n) : MN l yX8_copy cX8_copy 10 (some .int) rmX8_copy E [.ref (ad E 60), .int p0, .int p1, .int p2, .int p3, .int p4] σ (PZ σ (S_copy σ p0 p1 p2 p3 p4) (N_copy σ p0 p1 p2 p3 p4)) := by
  refine MN_of (by decide +kernel) rfl fun x C hE hT hcan => ?_
  have C : CX x cX8_copy RX8 rmX8_copy := C
  refine V_L (L' := [some (.ref (ad E 60)), some (.int p0), some (.int p1), some (.int p2), some (.int p3), some (.int p4), none, none, none, none]) rfl ?_
  refine V_aload_n C dX8_copy_0 rfl ?_
  refine V_iload_n C dX8_copy_1 rfl ?_
  by_cases hq : inP p0 0 3
  · obtain ⟨s, rfl, hs3⟩ := i32_le (m := 3) (by omega) hq.1 hq.2
    have hs : s < 4 := by omega
    refine V_cv C hE dX8_copy_2 (c_X8_sheetAt hs) kyX8_sheetAt q810 (isoO 60 rfl rfl rfl rfl) rfl rfl rfl ?_
    refine V_astore C dX8_copy_5 rfl ?_
    refine V_aload_n C dX8_copy_7 rfl ?_
    refine V_iload_n C dX8_copy_8 rfl ?_
    by_cases hq2 : inP p2 0 3
    · obtain ⟨t, rfl, ht3⟩ := i32_le (m := 3) (by omega) hq2.1 hq2.2
      have ht : t < 4 := by omega
      refine V_cv C hE dX8_copy_9 (c_X8_sheetAt ht) kyX8_sheetAt q810 (isoO 60 rfl rfl rfl rfl) rfl rfl rfl ?_
      refine V_astore C dX8_copy_12 rfl ?_
      refine V_aload C dX8_copy_14 rfl ?_
      refine V_ifnull C dX8_copy_16 ?_
      refine V_aload C dX8_copy_19 rfl ?_
      refine V_ifnonnull C dX8_copy_21 ?_
      refine V_aload C dX8_copy_30 rfl ?_
      refine V_cv C hE dX8_copy_32 (c_X3_isMissing hs) kyX3_isMissing q822 (isoSh (by first | assumption | omega)) rfl rfl rfl ?_
      refine V_ifne_b C dX8_copy_35 (fun c35 => ?_) (fun c35 => ?_)
      · refine V_aload_n C dX8_copy_46 rfl ?_
        refine V_iconst C 5 dX8_copy_47 (by decide) ?_
        refine V_cv C hE dX8_copy_48 (c_X8_fail (j := 5) (by omega)) kyX8_fail q273 (isoO 60 rfl rfl rfl rfl) rfl rfl rfl ?_
        exact V_iretN C dX8_copy_51 hT (PZ_fail (by unfold S_copy; (try rw [hk_n (show s < 2 ^ 31 by omega)]); (try rw [hk_n (show t < 2 ^ 31 by omega)]); all_goals (first | rw [if_pos hq] | rw [if_neg hq]); all_goals (first | rw [if_pos hq2] | rw [if_neg hq2]); all_goals (first | rw [if_pos c35] | rw [if_neg c35])) (EqX.rf σ))
      · refine V_aload C dX8_copy_38 rfl ?_
        refine V_cv C hE dX8_copy_40 (c_X3_isMissing ht) kyX3_isMissing q822 (isoSh (by first | assumption | omega)) rfl rfl rfl ?_
        refine V_ifeq_b C dX8_copy_43 (fun c43 => ?_) (fun c43 => ?_)
        · refine V_aload C dX8_copy_52 rfl ?_
          refine V_getN C hE.nw dX8_copy_54 (rdShB (by first | assumption | omega)) in_X3 (by decide) q221 rfl ?_
          refine V_aload C dX8_copy_57 rfl ?_
          refine V_getN C hE.nw dX8_copy_59 (rdShB (by first | assumption | omega)) in_X3 (by decide) q221 rfl ?_
          refine V_icmp_eq C dX8_copy_62 (fun c62 => ?_) (fun c62 => ?_)
          · refine V_aload C dX8_copy_71 rfl ?_
            refine V_iload_n C dX8_copy_73 rfl ?_
            refine V_iload C dX8_copy_74 rfl ?_
            refine V_cv C hE dX8_copy_76 (c_X3_has hs) kyX3_has q838 (isoSh (by first | assumption | omega)) rfl rfl rfl ?_
            refine V_ifeq_b C dX8_copy_79 (fun c79 => ?_) (fun c79 => ?_)
            · refine V_aload_n C dX8_copy_94 rfl ?_
              refine V_iconst C 0 dX8_copy_95 (by decide) ?_
              refine V_cv C hE dX8_copy_96 (c_X8_fail (j := 0) (by omega)) kyX8_fail q273 (isoO 60 rfl rfl rfl rfl) rfl rfl rfl ?_
              exact V_iretN C dX8_copy_99 hT (PZ_fail (by unfold S_copy; (try rw [hk_n (show s < 2 ^ 31 by omega)]); (try rw [hk_n (show t < 2 ^ 31 by omega)]); all_goals (first | rw [if_pos hq] | rw [if_neg hq]); all_goals (first | rw [if_pos hq2] | rw [if_neg hq2]); all_goals (first | rw [if_pos c35] | rw [if_neg c35]); all_goals (first | rw [if_pos c43] | rw [if_neg c43]); all_goals (first | rw [if_pos c62] | rw [if_neg c62]); all_goals (first | rw [if_pos c79] | rw [if_neg c79])) (EqX.rf σ))
            · refine V_aload C dX8_copy_82 rfl ?_
              refine V_iload C dX8_copy_84 rfl ?_
              refine V_iload C dX8_copy_86 rfl ?_
              refine V_cv C hE dX8_copy_88 (c_X3_has ht) kyX3_has q838 (isoSh (by first | assumption | omega)) rfl rfl rfl ?_
              refine V_ifne_b C dX8_copy_91 (fun c91 => ?_) (fun c91 => ?_)
              · obtain ⟨ns, hns, hsl⟩ := hln s hs
                obtain ⟨nt, hnt, htl⟩ := hln t ht
                obtain ⟨a, n, rfl, rfl, han⟩ := has_n hns hsl c79
                obtain ⟨b, rfl, hbn⟩ := has_m (by omega) hnt htl c91
                refine V_iconst C 0 dX8_copy_100 (by decide) ?_
                refine V_istore C dX8_copy_101 rfl ?_
                have lp : ∀ (d i : Nat) , i + d = n → V x (eA E) (AP x E (cpyS σ s t a b n i)) 0 0 103 [some (.ref (ad E 60)), some (.int (nI s)), some (.int (nI a)), some (.int (nI t)), some (.int (nI b)), some (.int (nI n)), some (.ref (ad E (shc s))), some (.ref (ad E (shc t))), some (.int (nI i)), none] [] := by
                  intro d
                  induction d with
                  | zero =>
                    intro i  hi' 
                    have hN : i = n := by omega
                    refine V_iload C dX8_copy_103 rfl ?_
                    refine V_iload C dX8_copy_105 rfl ?_
                    refine V_icmp_ge C dX8_copy_107 (fun c107 => ?_) (fun c107 => absurd (by rw [hN]; exact nI_le (Nat.le_refl _) (by omega)) c107)
                    refine V_iload C dX8_copy_155 rfl ?_
                    exact V_iretN C dX8_copy_157 hT (PZ_ok (by unfold S_copy; rw [if_pos hq, if_pos hq2, hk_n (show s < 2 ^ 31 by omega), hk_n (show t < 2 ^ 31 by omega), if_neg c35, if_neg c43, if_pos c62, if_pos c79, if_pos c91]) (cpyS_o (by unfold nmc; omega) _) (by unfold N_copy; rw [hk_n (show s < 2 ^ 31 by omega), hk_n (show t < 2 ^ 31 by omega), hk_n (show a < 2 ^ 31 by omega), hk_n (show b < 2 ^ 31 by omega), hk_n (show n < 2 ^ 31 by omega), hN]; exact EqX.rf _))
                  | succ d ih =>
                    intro i  hi' 
                    have ho := cpyO_l (i := a) (j := b) (n := n) (k := i) (by omega)
                    refine V_iload C dX8_copy_103 rfl ?_
                    refine V_iload C dX8_copy_105 rfl ?_
                    refine V_icmp_ge C dX8_copy_107 (fun c107 => absurd c107 (nI_ge (by omega) (by omega))) (fun c107 => ?_)
                    refine V_iload_n C dX8_copy_110 rfl ?_
                    refine V_iload C dX8_copy_111 rfl ?_
                    refine V_icmp_ge C dX8_copy_113 (fun c113 => ?_) (fun c113 => ?_)
                    · refine V_iload C dX8_copy_126 rfl ?_
                      refine V_st (st' := [.int (nI (cpyO a b n i))]) (by unfold cpyO; first | (rw [if_pos (show a < b from (nI_ltI (by omega) (by omega)).mp (by first | exact c113 | exact Int32.not_le.mp c113)), nI_m1 (by omega), nI_msub (by omega)]) | (rw [if_neg (fun q => by have z := (nI_ltI (a := a) (b := b) (by omega) (by omega)).mpr q; first | exact c113 z | exact absurd z (Int32.not_lt.mpr c113))])) ?_
                      refine V_istore C dX8_copy_128 rfl ?_
                      refine V_aload C dX8_copy_130 rfl ?_
                      refine V_iload C dX8_copy_132 rfl ?_
                      refine V_iload C dX8_copy_134 rfl ?_
                      refine V_iadd C dX8_copy_136 ?_
                      refine V_aload C dX8_copy_137 rfl ?_
                      refine V_iload_n C dX8_copy_139 rfl ?_
                      refine V_iload C dX8_copy_140 rfl ?_
                      refine V_iadd C dX8_copy_142 ?_
                      simp only [nI_add]
                      refine V_cv C hE dX8_copy_143 (c_X3_get (s := s) (i := a + cpyO a b n i) hs (by omega)) kyX3_get q842 (isoSh (by first | assumption | omega)) rfl rfl rfl ?_
                      refine V_cv0 C hE dX8_copy_146 (c_X3_put (s := t) (i := b + cpyO a b n i) ht (by omega)) kyX3_put q826 (isoSh (by first | assumption | omega)) rfl rfl rfl ?_
                      refine V_forget 9 ?_
                      refine V_iinc C 1 dX8_copy_149 rfl (by decide) rfl ?_
                      refine V_goto C dX8_copy_152 ?_
                      exact V_nx rfl (by simp [← nI_1] <;> rfl) (ih (i + 1) (by omega))
                    · refine V_iload C dX8_copy_116 rfl ?_
                      refine V_iconst C 1 dX8_copy_118 (by decide) ?_
                      refine V_isub C dX8_copy_119 ?_
                      refine V_iload C dX8_copy_120 rfl ?_
                      refine V_isub C dX8_copy_122 ?_
                      refine V_goto C dX8_copy_123 ?_
                      refine V_st (st' := [.int (nI (cpyO a b n i))]) (by unfold cpyO; first | (rw [if_pos (show a < b from (nI_ltI (by omega) (by omega)).mp (by first | exact c113 | exact Int32.not_le.mp c113)), nI_m1 (by omega), nI_msub (by omega)]) | (rw [if_neg (fun q => by have z := (nI_ltI (a := a) (b := b) (by omega) (by omega)).mpr q; first | exact c113 z | exact absurd z (Int32.not_lt.mpr c113))])) ?_
                      refine V_istore C dX8_copy_128 rfl ?_
                      refine V_aload C dX8_copy_130 rfl ?_
                      refine V_iload C dX8_copy_132 rfl ?_
                      refine V_iload C dX8_copy_134 rfl ?_
                      refine V_iadd C dX8_copy_136 ?_
                      refine V_aload C dX8_copy_137 rfl ?_
                      refine V_iload_n C dX8_copy_139 rfl ?_
                      refine V_iload C dX8_copy_140 rfl ?_
                      refine V_iadd C dX8_copy_142 ?_
                      simp only [nI_add]
                      refine V_cv C hE dX8_copy_143 (c_X3_get (s := s) (i := a + cpyO a b n i) hs (by omega)) kyX3_get q842 (isoSh (by first | assumption | omega)) rfl rfl rfl ?_
                      refine V_cv0 C hE dX8_copy_146 (c_X3_put (s := t) (i := b + cpyO a b n i) ht (by omega)) kyX3_put q826 (isoSh (by first | assumption | omega)) rfl rfl rfl ?_
                      refine V_forget 9 ?_
                      refine V_iinc C 1 dX8_copy_149 rfl (by decide) rfl ?_
                      refine V_goto C dX8_copy_152 ?_
                      exact V_nx rfl (by simp [← nI_1] <;> rfl) (ih (i + 1) (by omega))
                exact lp n 0 (by omega)
              · refine V_aload_n C dX8_copy_94 rfl ?_
                refine V_iconst C 0 dX8_copy_95 (by decide) ?_
                refine V_cv C hE dX8_copy_96 (c_X8_fail (j := 0) (by omega)) kyX8_fail q273 (isoO 60 rfl rfl rfl rfl) rfl rfl rfl ?_
                exact V_iretN C dX8_copy_99 hT (PZ_fail (by unfold S_copy; (try rw [hk_n (show s < 2 ^ 31 by omega)]); (try rw [hk_n (show t < 2 ^ 31 by omega)]); all_goals (first | rw [if_pos hq] | rw [if_neg hq]); all_goals (first | rw [if_pos hq2] | rw [if_neg hq2]); all_goals (first | rw [if_pos c35] | rw [if_neg c35]); all_goals (first | rw [if_pos c43] | rw [if_neg c43]); all_goals (first | rw [if_pos c62] | rw [if_neg c62]); all_goals (first | rw [if_pos c79] | rw [if_neg c79]); all_goals (first | rw [if_pos c91] | rw [if_neg c91])) (EqX.rf σ))
          · refine V_aload_n C dX8_copy_65 rfl ?_
            refine V_iconst C 2 dX8_copy_66 (by decide) ?_
            refine V_cv C hE dX8_copy_67 (c_X8_fail (j := 2) (by omega)) kyX8_fail q273 (isoO 60 rfl rfl rfl rfl) rfl rfl rfl ?_
            exact V_iretN C dX8_copy_70 hT (PZ_fail (by unfold S_copy; (try rw [hk_n (show s < 2 ^ 31 by omega)]); (try rw [hk_n (show t < 2 ^ 31 by omega)]); all_goals (first | rw [if_pos hq] | rw [if_neg hq]); all_goals (first | rw [if_pos hq2] | rw [if_neg hq2]); all_goals (first | rw [if_pos c35] | rw [if_neg c35]); all_goals (first | rw [if_pos c43] | rw [if_neg c43]); all_goals (first | rw [if_pos c62] | rw [if_neg c62])) (EqX.rf σ))
        · refine V_aload_n C dX8_copy_46 rfl ?_
          refine V_iconst C 5 dX8_copy_47 (by decide) ?_
          refine V_cv C hE dX8_copy_48 (c_X8_fail (j := 5) (by omega)) kyX8_fail q273 (isoO 60 rfl rfl rfl rfl) rfl rfl rfl ?_
          exact V_iretN C dX8_copy_51 hT (PZ_fail (by unfold S_copy; (try rw [hk_n (show s < 2 ^ 31 by omega)]); (try rw [hk_n (show t < 2 ^ 31 by omega)]); all_goals (first | rw [if_pos hq] | rw [if_neg hq]); all_goals (first | rw [if_pos hq2] | rw [if_neg hq2]); all_goals (first | rw [if_pos c35] | rw [if_neg c35]); all_goals (first | rw [if_pos c43] | rw [if_neg c43])) (EqX.rf σ))
    · refine V_cv C hE dX8_copy_9 (c_X8_sheetAtN hq2) kyX8_sheetAt q810 (isoO 60 rfl rfl rfl rfl) rfl rfl rfl ?_
      refine V_astoreN C dX8_copy_12 rfl ?_
      refine V_aload C dX8_copy_14 rfl ?_
      refine V_ifnull C dX8_copy_16 ?_
      refine V_aloadN C dX8_copy_19 rfl ?_
      refine V_ifnonnullN C dX8_copy_21 ?_
      refine V_aload_n C dX8_copy_24 rfl ?_
      refine V_iconst C 0 dX8_copy_25 (by decide) ?_
      refine V_cv C hE dX8_copy_26 (c_X8_fail (j := 0) (by omega)) kyX8_fail q273 (isoO 60 rfl rfl rfl rfl) rfl rfl rfl ?_
      exact V_iretN C dX8_copy_29 hT (PZ_fail (by unfold S_copy; (try rw [hk_n (show s < 2 ^ 31 by omega)]); (try rw [hk_n (show t < 2 ^ 31 by omega)]); all_goals (first | rw [if_pos hq] | rw [if_neg hq]); all_goals (first | rw [if_pos hq2] | rw [if_neg hq2])) (EqX.rf σ))
  · refine V_cv C hE dX8_copy_2 (c_X8_sheetAtN hq) kyX8_sheetAt q810 (isoO 60 rfl rfl rfl rfl) rfl rfl rfl ?_
    refine V_astoreN C dX8_copy_5 rfl ?_
    refine V_aload_n C dX8_copy_7 rfl ?_
    refine V_iload_n C dX8_copy_8 rfl ?_
    by_cases hq2 : inP p2 0 3
    · obtain ⟨t, rfl, ht3⟩ := i32_le (m := 3) (by omega) hq2.1 hq2.2
      have ht : t < 4 := by omega
      refine V_cv C hE dX8_copy_9 (c_X8_sheetAt ht) kyX8_sheetAt q810 (isoO 60 rfl rfl rfl rfl) rfl rfl rfl ?_
      refine V_astore C dX8_copy_12 rfl ?_
      refine V_aloadN C dX8_copy_14 rfl ?_
      refine V_ifnullN C dX8_copy_16 ?_
      refine V_aload_n C dX8_copy_24 rfl ?_
      refine V_iconst C 0 dX8_copy_25 (by decide) ?_
      refine V_cv C hE dX8_copy_26 (c_X8_fail (j := 0) (by omega)) kyX8_fail q273 (isoO 60 rfl rfl rfl rfl) rfl rfl rfl ?_
      exact V_iretN C dX8_copy_29 hT (PZ_fail (by unfold S_copy; (try rw [hk_n (show s < 2 ^ 31 by omega)]); (try rw [hk_n (show t < 2 ^ 31 by omega)]); all_goals (first | rw [if_pos hq] | rw [if_neg hq])) (EqX.rf σ))
    · refine V_cv C hE dX8_copy_9 (c_X8_sheetAtN hq2) kyX8_sheetAt q810 (isoO 60 rfl rfl rfl rfl) rfl rfl rfl ?_
      refine V_astoreN C dX8_copy_12 rfl ?_
      refine V_aloadN C dX8_copy_14 rfl ?_
      refine V_ifnullN C dX8_copy_16 ?_
      refine V_aload_n C dX8_copy_24 rfl ?_
      refine V_iconst C 0 dX8_copy_25 (by decide) ?_
      refine V_cv C hE dX8_copy_26 (c_X8_fail (j := 0) (by omega)) kyX8_fail q273 (isoO 60 rfl rfl rfl rfl) rfl rfl rfl ?_
      exact V_iretN C dX8_copy_29 hT (PZ_fail (by unfold S_copy; (try rw [hk_n (show s < 2 ^ 31 by omega)]); (try rw [hk_n (show t < 2 ^ 31 by omega)]); all_goals (first | rw [if_pos hq] | rw [if_neg hq])) (EqX.rf σ))

