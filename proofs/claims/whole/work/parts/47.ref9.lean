/-- the reference's cells where the system's are -/
def tM (σ : Sg) : Sg := fun c => if c = 0 then σ 74 else if c = 1 then σ 75 else if c = 60 then (fun j => if j = 9 then σ 73 17 else σ 73 4) else if c = 63 then σ 80 else if c < 65 then σ c else if c < 69 then (fun j => if j = 1 then σ 81 (c - 65) else σ 82 (c - 65)) else if c < 73 then (fun i => σ 83 (40 * (c - 69) + i)) else σ c
theorem tM_0 (σ : Sg) : tM σ 0 = σ 74 := rfl
theorem tM_b {σ : Sg} {s : Nat} (h : s < 4) : tM σ (shc s) 1 = σ 81 s := by
  rcases (show s = 0 ∨ s = 1 ∨ s = 2 ∨ s = 3 by omega) with rfl | rfl | rfl | rfl <;> rfl
theorem tM_l {σ : Sg} {s : Nat} (h : s < 4) : tM σ (shc s) 2 = σ 82 s := by
  rcases (show s = 0 ∨ s = 1 ∨ s = 2 ∨ s = 3 by omega) with rfl | rfl | rfl | rfl <;> rfl
theorem tM_n {σ : Sg} {s : Nat} (h : s < 4) : tM σ (nmc s) = fun i => σ 83 (40 * s + i) := by
  rcases (show s = 0 ∨ s = 1 ∨ s = 2 ∨ s = 3 by omega) with rfl | rfl | rfl | rfl <;> rfl
theorem ix_s (s k : Nat) : (40 : Int32) * nI s + nI k = nI (40 * s + k) := by
  show nI 40 * nI s + nI k = _
  rw [nI_mul, nI_add]
theorem inL {f : Nat → Int32} {m : Nat} {l i : Int32} (hm : m ≤ 40) (hl : l = nI m) (h : inP i 0 (l - 1)) : ∃ k, i = nI k ∧ k < m := by
  subst hl
  obtain ⟨a, b⟩ := h
  cases m with
  | zero => exact absurd (Int32.le_trans a b) (by decide)
  | succ n =>
    rw [nI_pred] at b
    obtain ⟨k, rfl, hk⟩ := i32_le (m := n) (by omega) a b
    exact ⟨k, rfl, by omega⟩
def zO (f : Nat → Int32) (s : Nat) : Nat → Nat → Int32
  | 0 => f
  | k + 1 => upd (zO f s k) (40 * s + k) 0

theorem c_X9_write {l : Launch} {E : En} {σ : Sg} {p0 p1 p2 : Int32}  (hln : ∀ s, s < 4 → ∃ n, n ≤ 40 ∧ σ 82 s = nI n) : MN l yX9_write cX9_write 5 (some .int) rmX9_write E [.ref (ad E 73), .int p0, .int p1, .int p2] σ (PQ σ (S_write (tM σ) p0 p1) (us σ 83 (upd (σ 83) (40 * hk p0 + hk p1) (cutV (σ 81 (hk p0)) p2)))) := by
  refine MN_of (by decide +kernel) rfl fun x C hE hT hcan => ?_
  have C : CX x cX9_write RX9 rmX9_write := C
  refine V_L (L' := [some (.ref (ad E 73)), some (.int p0), some (.int p1), some (.int p2), none]) rfl ?_
  refine V_aload_n C dX9_write_0 rfl ?_
  refine V_iload_n C dX9_write_1 rfl ?_
  by_cases hq : inP p0 0 3
  · obtain ⟨s, rfl, hs3⟩ := i32_le (m := 3) (by omega) hq.1 hq.2
    have hs : s < 4 := by omega
    have hks : hk (nI s) = s := hk_n (by omega)
    refine V_cv C hE dX9_write_2 (c_X9_wrong hs) kyX9_wrong q1389 (isoO 73 rfl rfl rfl rfl) rfl rfl rfl ?_
    by_cases hb : σ 81 s = 0
    · refine V_st (st' := [.int (-1000006)]) (by rw [if_pos hb]) ?_
      refine V_istore C dX9_write_5 rfl ?_
      refine V_iload C dX9_write_7 rfl ?_
      refine V_if_eq C dX9_write_9 (fun c9 => absurd c9 (by decide)) (fun c9 => ?_)
      refine V_aload_n C dX9_write_12 rfl ?_
      refine V_iload C dX9_write_13 rfl ?_
      refine V_cv C hE dX9_write_15 (c_X9_finds (j := 5) (by decide +kernel) (by omega)) kyX9_finds q995 (isoO 73 rfl rfl rfl rfl) rfl rfl rfl ?_
      exact V_iretN C dX9_write_18 hT (PQ_fail (by decide +kernel) (by unfold S_write; rw [if_pos hq, hks, tM_b hs, if_pos hb]) (EqY.rf σ))
    · refine V_st (st' := [.int 0]) (by rw [if_neg hb]) ?_
      obtain ⟨m, hm, hml⟩ := hln s hs
      refine V_istore C dX9_write_5 rfl ?_
      refine V_iload C dX9_write_7 rfl ?_
      refine V_if_eq C dX9_write_9 (fun c9 => ?_) (fun c9 => absurd (rfl) c9)
      refine V_iload_n C dX9_write_19 rfl ?_
      refine V_i2l C dX9_write_20 ?_
      refine V_lconst C 0 dX9_write_21 (by decide) ?_
      refine V_aload_n C dX9_write_22 rfl ?_
      refine V_get C dX9_write_23 (rdO (j := 23) 73 rfl rfl rfl rfl rfl) in_X9 (by decide) q930 rfl ?_
      refine V_iload_n C dX9_write_26 rfl ?_
      refine V_ialdN C s rfl (hs) (by omega) dX9_write_27 (rdOA 82 rfl rfl rfl) ?_
      refine V_iconst C 1 dX9_write_28 (by decide) ?_
      refine V_isub C dX9_write_29 ?_
      refine V_i2l C dX9_write_30 ?_
      refine V_cs C hE dX9_write_31 (c_X9_in (a := p1) (lo := 0) (hi := σ 82 s - 1) (by decide +kernel) rfl) kyX9_in q991 rfl rfl rfl ?_
      refine V_ifne_b C dX9_write_34 (fun c34 => ?_) (fun c34 => ?_)
      · obtain ⟨k, rfl, hk2⟩ := inL (f := σ 83) hm hml c34
        have hkk : hk (nI k) = k := hk_n (by omega)
        refine V_aload_n C dX9_write_44 rfl ?_
        refine V_get C dX9_write_45 (rdO (j := 24) 73 rfl rfl rfl rfl rfl) in_X9 (by decide) q931 rfl ?_
        refine V_bipush C 40 dX9_write_48 (by decide) ?_
        refine V_iload_n C dX9_write_50 rfl ?_
        refine V_imul C dX9_write_51 ?_
        refine V_iload_n C dX9_write_52 rfl ?_
        refine V_iadd C dX9_write_53 ?_
        refine V_aload_n C dX9_write_54 rfl ?_
        refine V_get C dX9_write_55 (rdO (j := 22) 73 rfl rfl rfl rfl rfl) in_X9 (by decide) q929 rfl ?_
        refine V_iload_n C dX9_write_58 rfl ?_
        refine V_ialdN C s rfl (hs) (by omega) dX9_write_59 (rdOA 81 rfl rfl rfl) ?_
        refine V_iload_n C dX9_write_60 rfl ?_
        refine V_cs C hE dX9_write_61 (c_X9_narrowed) kyX9_narrowed q1393 rfl rfl rfl ?_
        refine V_iastN C (40*s+k) (ix_s s k) (by omega) (by omega) dX9_write_64 (wrOA 83 rfl rfl (fun _ => rfl)) ?_
        refine V_iconst C 1 dX9_write_65 (by decide) ?_
        exact V_iretN C dX9_write_66 hT (PQ_ok (by unfold S_write; rw [if_pos hq, hks, tM_b hs, if_neg hb, tM_l hs, if_pos c34]) rfl (by rw [hks, hkk]; exact EqY.rf _))
      · refine V_aload_n C dX9_write_37 rfl ?_
        refine V_ldc C dX9_write_38 q994 ?_
        refine V_cv C hE dX9_write_40 (c_X9_finds (j := 0) (by decide +kernel) (by omega)) kyX9_finds q995 (isoO 73 rfl rfl rfl rfl) rfl rfl rfl ?_
        exact V_iretN C dX9_write_43 hT (PQ_fail (by decide +kernel) (by unfold S_write; rw [if_pos hq, hks, tM_b hs, if_neg hb]; rw [tM_l hs, if_neg c34]) (EqY.rf σ))
  · refine V_cv C hE dX9_write_2 (c_X9_wrongB hq) kyX9_wrong q1389 (isoO 73 rfl rfl rfl rfl) rfl rfl rfl ?_
    refine V_istore C dX9_write_5 rfl ?_
    refine V_iload C dX9_write_7 rfl ?_
    refine V_if_eq C dX9_write_9 (fun c9 => absurd c9 (by decide)) (fun c9 => ?_)
    refine V_aload_n C dX9_write_12 rfl ?_
    refine V_iload C dX9_write_13 rfl ?_
    refine V_cv C hE dX9_write_15 (c_X9_finds (j := 0) (by decide +kernel) (by omega)) kyX9_finds q995 (isoO 73 rfl rfl rfl rfl) rfl rfl rfl ?_
    exact V_iretN C dX9_write_18 hT (PQ_fail (by decide +kernel) (by unfold S_write; rw [if_neg hq]) (EqY.rf σ))

theorem c_X9_sheet {l : Launch} {E : En} {σ : Sg} {p0 p1 p2 : Int32}  : MN l yX9_sheet cX9_sheet 5 (some .int) rmX9_sheet E [.ref (ad E 73), .int p0, .int p1, .int p2] σ (PQ σ (S_sheet p0 p1 p2) (us (us (us σ 81 (upd (σ 81) (hk p0) p1)) 82 (upd (σ 82) (hk p0) (if p1 = 0 then 0 else p2))) 83 (zO (σ 83) (hk p0) 40))) := by
  refine MN_of (by decide +kernel) rfl fun x C hE hT hcan => ?_
  have C : CX x cX9_sheet RX9 rmX9_sheet := C
  refine V_L (L' := [some (.ref (ad E 73)), some (.int p0), some (.int p1), some (.int p2), none]) rfl ?_
  refine V_iload_n C dX9_sheet_0 rfl ?_
  refine V_cs C hE dX9_sheet_1 (c_X9_isOne) kyX9_isOne q1380 rfl rfl rfl ?_
  refine V_ifeq_b C dX9_sheet_4 (fun c4 => ?_) (fun c4 => ?_)
  · refine V_aload_n C dX9_sheet_29 rfl ?_
    refine V_ldc C dX9_sheet_30 q994 ?_
    refine V_cv C hE dX9_sheet_32 (c_X9_finds (j := 0) (by decide +kernel) (by omega)) kyX9_finds q995 (isoO 73 rfl rfl rfl rfl) rfl rfl rfl ?_
    exact V_iretN C dX9_sheet_35 hT (PQ_fail (by decide +kernel) (by unfold S_sheet; rw [if_neg c4]) (EqY.rf σ))
  · obtain ⟨s, rfl, hs3⟩ := i32_le (m := 3) (by omega) c4.1 c4.2
    have hs : s < 4 := by omega
    have hks : hk (nI s) = s := hk_n (by omega)
    have j36 : (p1 = 0 ∨ p1 = 8 ∨ p1 = 16 ∨ p1 = 32) → V x (eA E) (AP x E σ) 0 0 36 [some (.ref (ad E 73)), some (.int (nI s)), some (.int p1), some (.int p2), none] [] := by
      intro hb4
      refine V_iload_n C dX9_sheet_36 rfl ?_
      refine V_if_ge C dX9_sheet_37 (fun c37 => ?_) (fun c37 => ?_)
      · refine V_iload_n C dX9_sheet_48 rfl ?_
        refine V_bipush C 40 dX9_sheet_49 (by decide) ?_
        refine V_icmp_le C dX9_sheet_51 (fun c51 => ?_) (fun c51 => ?_)
        · refine V_aload_n C dX9_sheet_61 rfl ?_
          refine V_get C dX9_sheet_62 (rdO (j := 22) 73 rfl rfl rfl rfl rfl) in_X9 (by decide) q929 rfl ?_
          refine V_iload_n C dX9_sheet_65 rfl ?_
          refine V_iload_n C dX9_sheet_66 rfl ?_
          refine V_iastN C s rfl (hs) (by omega) dX9_sheet_67 (wrOA 81 rfl rfl (fun _ => rfl)) ?_
          refine V_aload_n C dX9_sheet_68 rfl ?_
          refine V_get C dX9_sheet_69 (rdO (j := 23) 73 rfl rfl rfl rfl rfl) in_X9 (by decide) q930 rfl ?_
          refine V_iload_n C dX9_sheet_72 rfl ?_
          refine V_iload_n C dX9_sheet_73 rfl ?_
          refine V_if_ne C dX9_sheet_74 (fun c74 => ?_) (fun c74 => ?_)
          · refine V_iload_n C dX9_sheet_81 rfl ?_
            refine V_iastN C s rfl (hs) (by omega) dX9_sheet_82 (wrOA 82 rfl rfl (fun _ => rfl)) ?_
            refine V_iconst C 0 dX9_sheet_83 (by decide) ?_
            refine V_istore C dX9_sheet_84 rfl ?_
            have lp : ∀ (d i : Nat) , i + d = 40 → V x (eA E) (AP x E (us (us (us σ 81 (upd (σ 81) s p1)) 82 (upd (σ 82) s (if p1 = 0 then 0 else p2))) 83 (zO (σ 83) s i))) 0 0 86 [some (.ref (ad E 73)), some (.int (nI s)), some (.int p1), some (.int p2), some (.int (nI i))] [] := by
              intro d
              induction d with
              | zero =>
                intro i  hi' 
                have hN : i = 40 := by omega
                refine V_iload C dX9_sheet_86 rfl ?_
                refine V_bipush C 40 dX9_sheet_88 (by decide) ?_
                refine V_icmp_ge C dX9_sheet_90 (fun c90 => ?_) (fun c90 => absurd (by rw [hN]; decide) c90)
                refine V_aload_n C dX9_sheet_112 rfl ?_
                refine V_get C dX9_sheet_113 (rdO (j := 23) 73 rfl rfl rfl rfl rfl) in_X9 (by decide) q930 rfl ?_
                refine V_iload_n C dX9_sheet_116 rfl ?_
                refine V_ialdN C s rfl (hs) (by omega) dX9_sheet_117 (rdOA 82 rfl rfl rfl) ?_
                simp (disch := omega) only [us_us, us_s, us_n, upd_s]
                exact V_iretN C dX9_sheet_118 hT (PQ_ok (by unfold S_sheet; rw [if_pos c4, if_pos hb4, if_neg (Int32.not_lt.mpr c37), if_pos c51]) rfl (by rw [hks, hN]; exact EqY.rf _))
              | succ d ih =>
                intro i  hi' 
                refine V_iload C dX9_sheet_86 rfl ?_
                refine V_bipush C 40 dX9_sheet_88 (by decide) ?_
                refine V_icmp_ge C dX9_sheet_90 (fun c90 => absurd c90 (nI_ge (b := 40) (by omega) (by omega))) (fun c90 => ?_)
                refine V_aload_n C dX9_sheet_93 rfl ?_
                refine V_get C dX9_sheet_94 (rdO (j := 24) 73 rfl rfl rfl rfl rfl) in_X9 (by decide) q931 rfl ?_
                refine V_bipush C 40 dX9_sheet_97 (by decide) ?_
                refine V_iload_n C dX9_sheet_99 rfl ?_
                refine V_imul C dX9_sheet_100 ?_
                refine V_iload C dX9_sheet_101 rfl ?_
                refine V_iadd C dX9_sheet_103 ?_
                refine V_iconst C 0 dX9_sheet_104 (by decide) ?_
                refine V_iastN C (40*s+i) (ix_s s i) (by omega) (by omega) dX9_sheet_105 (wrOA 83 rfl rfl (fun _ => rfl)) ?_
                refine V_iinc C 1 dX9_sheet_106 rfl (by decide) rfl ?_
                refine V_goto C dX9_sheet_109 ?_
                exact V_nx (by simp only [us_us, us_s]; rfl) (by simp [← nI_1] <;> rfl) (ih (i + 1) (by omega))
            exact V_nx (by simp (disch := omega) only [us_n]; first | (rw [if_pos c74]; exact (us_id _ 83).symm) | (rw [if_neg c74]; exact (us_id _ 83).symm)) rfl (lp 40 0 (by omega))
          · refine V_iconst C 0 dX9_sheet_77 (by decide) ?_
            refine V_goto C dX9_sheet_78 ?_
            refine V_iastN C s rfl (hs) (by omega) dX9_sheet_82 (wrOA 82 rfl rfl (fun _ => rfl)) ?_
            refine V_iconst C 0 dX9_sheet_83 (by decide) ?_
            refine V_istore C dX9_sheet_84 rfl ?_
            have lp : ∀ (d i : Nat) , i + d = 40 → V x (eA E) (AP x E (us (us (us σ 81 (upd (σ 81) s p1)) 82 (upd (σ 82) s (if p1 = 0 then 0 else p2))) 83 (zO (σ 83) s i))) 0 0 86 [some (.ref (ad E 73)), some (.int (nI s)), some (.int p1), some (.int p2), some (.int (nI i))] [] := by
              intro d
              induction d with
              | zero =>
                intro i  hi' 
                have hN : i = 40 := by omega
                refine V_iload C dX9_sheet_86 rfl ?_
                refine V_bipush C 40 dX9_sheet_88 (by decide) ?_
                refine V_icmp_ge C dX9_sheet_90 (fun c90 => ?_) (fun c90 => absurd (by rw [hN]; decide) c90)
                refine V_aload_n C dX9_sheet_112 rfl ?_
                refine V_get C dX9_sheet_113 (rdO (j := 23) 73 rfl rfl rfl rfl rfl) in_X9 (by decide) q930 rfl ?_
                refine V_iload_n C dX9_sheet_116 rfl ?_
                refine V_ialdN C s rfl (hs) (by omega) dX9_sheet_117 (rdOA 82 rfl rfl rfl) ?_
                simp (disch := omega) only [us_us, us_s, us_n, upd_s]
                exact V_iretN C dX9_sheet_118 hT (PQ_ok (by unfold S_sheet; rw [if_pos c4, if_pos hb4, if_neg (Int32.not_lt.mpr c37), if_pos c51]) rfl (by rw [hks, hN]; exact EqY.rf _))
              | succ d ih =>
                intro i  hi' 
                refine V_iload C dX9_sheet_86 rfl ?_
                refine V_bipush C 40 dX9_sheet_88 (by decide) ?_
                refine V_icmp_ge C dX9_sheet_90 (fun c90 => absurd c90 (nI_ge (b := 40) (by omega) (by omega))) (fun c90 => ?_)
                refine V_aload_n C dX9_sheet_93 rfl ?_
                refine V_get C dX9_sheet_94 (rdO (j := 24) 73 rfl rfl rfl rfl rfl) in_X9 (by decide) q931 rfl ?_
                refine V_bipush C 40 dX9_sheet_97 (by decide) ?_
                refine V_iload_n C dX9_sheet_99 rfl ?_
                refine V_imul C dX9_sheet_100 ?_
                refine V_iload C dX9_sheet_101 rfl ?_
                refine V_iadd C dX9_sheet_103 ?_
                refine V_iconst C 0 dX9_sheet_104 (by decide) ?_
                refine V_iastN C (40*s+i) (ix_s s i) (by omega) (by omega) dX9_sheet_105 (wrOA 83 rfl rfl (fun _ => rfl)) ?_
                refine V_iinc C 1 dX9_sheet_106 rfl (by decide) rfl ?_
                refine V_goto C dX9_sheet_109 ?_
                exact V_nx (by simp only [us_us, us_s]; rfl) (by simp [← nI_1] <;> rfl) (ih (i + 1) (by omega))
            exact V_nx (by simp (disch := omega) only [us_n]; first | (rw [if_pos c74]; exact (us_id _ 83).symm) | (rw [if_neg c74]; exact (us_id _ 83).symm)) rfl (lp 40 0 (by omega))
        · refine V_aload_n C dX9_sheet_54 rfl ?_
          refine V_ldc C dX9_sheet_55 q994 ?_
          refine V_cv C hE dX9_sheet_57 (c_X9_finds (j := 0) (by decide +kernel) (by omega)) kyX9_finds q995 (isoO 73 rfl rfl rfl rfl) rfl rfl rfl ?_
          try simp (disch := omega) only [us_us, us_s, us_n, upd_s]
          exact V_iretN C dX9_sheet_60 hT (PQ_fail (by decide +kernel) (by unfold S_sheet; rw [if_pos c4, if_pos hb4, if_neg (Int32.not_lt.mpr c37), if_neg c51]) (EqY.rf σ))
      · refine V_aload_n C dX9_sheet_40 rfl ?_
        refine V_ldc_w C dX9_sheet_41 q1384 ?_
        refine V_cv C hE dX9_sheet_44 (c_X9_finds (j := 6) (by decide +kernel) (by omega)) kyX9_finds q995 (isoO 73 rfl rfl rfl rfl) rfl rfl rfl ?_
        try simp (disch := omega) only [us_us, us_s, us_n, upd_s]
        exact V_iretN C dX9_sheet_47 hT (PQ_fail (by decide +kernel) (by unfold S_sheet; rw [if_pos c4, if_pos hb4, if_pos (Int32.not_le.mp c37)]) (EqY.rf σ))
    refine V_iload_n C dX9_sheet_7 rfl ?_
    refine V_if_eq C dX9_sheet_8 (fun c8 => ?_) (fun c8 => ?_)
    · exact j36 (by first | exact Or.inl c8 | exact Or.inr (Or.inl c14) | exact Or.inr (Or.inr (Or.inl c20)) | exact Or.inr (Or.inr (Or.inr c26)))
    · refine V_iload_n C dX9_sheet_11 rfl ?_
      refine V_bipush C 8 dX9_sheet_12 (by decide) ?_
      refine V_icmp_eq C dX9_sheet_14 (fun c14 => ?_) (fun c14 => ?_)
      · exact j36 (by first | exact Or.inl c8 | exact Or.inr (Or.inl c14) | exact Or.inr (Or.inr (Or.inl c20)) | exact Or.inr (Or.inr (Or.inr c26)))
      · refine V_iload_n C dX9_sheet_17 rfl ?_
        refine V_bipush C 16 dX9_sheet_18 (by decide) ?_
        refine V_icmp_eq C dX9_sheet_20 (fun c20 => ?_) (fun c20 => ?_)
        · exact j36 (by first | exact Or.inl c8 | exact Or.inr (Or.inl c14) | exact Or.inr (Or.inr (Or.inl c20)) | exact Or.inr (Or.inr (Or.inr c26)))
        · refine V_iload_n C dX9_sheet_23 rfl ?_
          refine V_bipush C 32 dX9_sheet_24 (by decide) ?_
          refine V_icmp_eq C dX9_sheet_26 (fun c26 => ?_) (fun c26 => ?_)
          · exact j36 (by first | exact Or.inl c8 | exact Or.inr (Or.inl c14) | exact Or.inr (Or.inr (Or.inl c20)) | exact Or.inr (Or.inr (Or.inr c26)))
          · refine V_aload_n C dX9_sheet_29 rfl ?_
            refine V_ldc C dX9_sheet_30 q994 ?_
            refine V_cv C hE dX9_sheet_32 (c_X9_finds (j := 0) (by decide +kernel) (by omega)) kyX9_finds q995 (isoO 73 rfl rfl rfl rfl) rfl rfl rfl ?_
            exact V_iretN C dX9_sheet_35 hT (PQ_fail (by decide +kernel) (by unfold S_sheet; rw [if_pos c4, if_neg (fun q => q.elim c8 (fun q => q.elim c14 (fun q => q.elim c20 c26)))]) (EqY.rf σ))

theorem has_1 {b a m L M : Int32} (hL : inP L 0 40) (hM : inP M 0 40) (h1 : 0 ≤ b) (h2 : 0 ≤ a) (h3 : 0 ≤ m) (h4 : m ≤ L - b) (h5 : m ≤ M - a) : hasP b m L ∧ hasP a m M := by
  have key : ∀ {b m L : Int32}, inP L 0 40 → 0 ≤ b → 0 ≤ m → m ≤ L - b → hasP b m L := by
    intro b m L hL h1 h3 h4
    obtain ⟨x, rfl, hx⟩ := i32_le (m := 40) (by omega) hL.1 hL.2
    obtain ⟨y, rfl, hy, -⟩ := i32_nat h1
    obtain ⟨z, rfl, hz, -⟩ := i32_nat h3
    have e : y ≤ x := by
      rcases Nat.lt_or_ge x y with c | c
      · exfalso
        have e1 : (nI x - nI y).toInt = (x : Int) - y := by
          rw [Int32.toInt_sub, nI_toInt (by omega), nI_toInt hy, Int.bmod_def]; split <;> omega
        rw [Int32.le_iff_toInt_le, e1, nI_toInt hz] at h4; omega
      · exact c
    rw [nI_msub e] at h4
    have q := (nI_leI (a := z) (b := x - y) hz (by omega)).mp h4
    refine ⟨h1, h3, nI_le (by omega) (by omega), ?_⟩
    rw [nI_msub (show z ≤ x by omega)]
    exact nI_le (by omega) (by omega)
  exact ⟨key hL h1 h3 h4, key hM h2 h3 h5⟩
theorem has_2 {b m L : Int32} (hL : inP L 0 40) (h : hasP b m L) : m ≤ L - b := by
  obtain ⟨x, rfl, hx⟩ := i32_le (m := 40) (by omega) hL.1 hL.2
  obtain ⟨y, z, rfl, rfl, hyz⟩ := has_n (m := x) hx rfl h
  rw [nI_msub (show y ≤ x by omega)]
  exact nI_le (by omega) (by omega)
theorem has_f {b a m L M : Int32} (hL : inP L 0 40) (hM : inP M 0 40) (h : ¬ (hasP b m L ∧ hasP a m M)) {x : Rs} : (if hasP b m L then (if hasP a m M then x else .inl 0) else .inl 0) = (.inl 0 : Rs) := by
  by_cases c : hasP b m L
  · rw [if_pos c, if_neg (fun q => h ⟨c, q⟩)]
  · rw [if_neg c]
theorem inM {m : Nat} {l : Int32} (hm : m ≤ 40) (hl : l = nI m) : inP l 0 40 := by subst hl; exact ⟨nI_pos' (by omega), nI_le (b := 40) hm (by omega)⟩

theorem c_X9_copy {l : Launch} {E : En} {σ : Sg} {p0 p1 p2 p3 p4 : Int32}  (hln : ∀ s, s < 4 → ∃ n, n ≤ 40 ∧ σ 82 s = nI n) : MN l yX9_copy cX9_copy 7 (some .int) rmX9_copy E [.ref (ad E 73), .int p0, .int p1, .int p2, .int p3, .int p4] σ (PQ σ (S_copy (tM σ) p0 p1 p2 p3 p4) (us σ 83 (cpO (σ 83) (σ 83) (40 * hk p2 + hk p3) (40 * hk p0 + hk p1) (hk p4)))) := by
  refine MN_of (by decide +kernel) rfl fun x C hE hT hcan => ?_
  have C : CX x cX9_copy RX9 rmX9_copy := C
  refine V_L (L' := [some (.ref (ad E 73)), some (.int p0), some (.int p1), some (.int p2), some (.int p3), some (.int p4), none]) rfl ?_
  refine V_iload_n C dX9_copy_0 rfl ?_
  refine V_cs C hE dX9_copy_1 (c_X9_isOne) kyX9_isOne q1380 rfl rfl rfl ?_
  refine V_ifeq_b C dX9_copy_4 (fun c4 => ?_) (fun c4 => ?_)
  · refine V_aload_n C dX9_copy_14 rfl ?_
    refine V_ldc C dX9_copy_15 q994 ?_
    refine V_cv C hE dX9_copy_17 (c_X9_finds (j := 0) (by decide +kernel) (by omega)) kyX9_finds q995 (isoO 73 rfl rfl rfl rfl) rfl rfl rfl ?_
    exact V_iretN C dX9_copy_20 hT (PQ_fail (by decide +kernel) (by unfold S_copy; rw [if_neg c4]) (EqY.rf σ))
  · refine V_iload_n C dX9_copy_7 rfl ?_
    refine V_cs C hE dX9_copy_8 (c_X9_isOne) kyX9_isOne q1380 rfl rfl rfl ?_
    refine V_ifne_b C dX9_copy_11 (fun c11 => ?_) (fun c11 => ?_)
    · obtain ⟨s, rfl, hs3⟩ := i32_le (m := 3) (by omega) c4.1 c4.2
      obtain ⟨t, rfl, ht3⟩ := i32_le (m := 3) (by omega) c11.1 c11.2
      have hs : s < 4 := by omega
      have ht : t < 4 := by omega
      have hks : hk (nI s) = s := hk_n (by omega)
      have hkt : hk (nI t) = t := hk_n (by omega)
      obtain ⟨m1, hm1, hml1⟩ := hln s hs
      obtain ⟨m2, hm2, hml2⟩ := hln t ht
      have hL1 := inM hm1 hml1
      have hL2 := inM hm2 hml2
      refine V_aload_n C dX9_copy_21 rfl ?_
      refine V_get C dX9_copy_22 (rdO (j := 22) 73 rfl rfl rfl rfl rfl) in_X9 (by decide) q929 rfl ?_
      refine V_iload_n C dX9_copy_25 rfl ?_
      refine V_ialdN C s rfl (hs) (by omega) dX9_copy_26 (rdOA 81 rfl rfl rfl) ?_
      refine V_if_eq C dX9_copy_27 (fun c27 => ?_) (fun c27 => ?_)
      · refine V_aload_n C dX9_copy_39 rfl ?_
        refine V_ldc_w C dX9_copy_40 q1374 ?_
        refine V_cv C hE dX9_copy_43 (c_X9_finds (j := 5) (by decide +kernel) (by omega)) kyX9_finds q995 (isoO 73 rfl rfl rfl rfl) rfl rfl rfl ?_
        exact V_iretN C dX9_copy_46 hT (PQ_fail (by decide +kernel) (by unfold S_copy; rw [if_pos c4, if_pos c11, hks, hkt, tM_b hs, tM_b ht]; first | rw [if_pos c27] | rw [if_neg c27, if_pos c36]) (EqY.rf σ))
      · refine V_aload_n C dX9_copy_30 rfl ?_
        refine V_get C dX9_copy_31 (rdO (j := 22) 73 rfl rfl rfl rfl rfl) in_X9 (by decide) q929 rfl ?_
        refine V_iload_n C dX9_copy_34 rfl ?_
        refine V_ialdN C t rfl (ht) (by omega) dX9_copy_35 (rdOA 81 rfl rfl rfl) ?_
        refine V_if_ne C dX9_copy_36 (fun c36 => ?_) (fun c36 => ?_)
        · refine V_aload_n C dX9_copy_47 rfl ?_
          refine V_get C dX9_copy_48 (rdO (j := 22) 73 rfl rfl rfl rfl rfl) in_X9 (by decide) q929 rfl ?_
          refine V_iload_n C dX9_copy_51 rfl ?_
          refine V_ialdN C s rfl (hs) (by omega) dX9_copy_52 (rdOA 81 rfl rfl rfl) ?_
          refine V_aload_n C dX9_copy_53 rfl ?_
          refine V_get C dX9_copy_54 (rdO (j := 22) 73 rfl rfl rfl rfl rfl) in_X9 (by decide) q929 rfl ?_
          refine V_iload_n C dX9_copy_57 rfl ?_
          refine V_ialdN C t rfl (ht) (by omega) dX9_copy_58 (rdOA 81 rfl rfl rfl) ?_
          refine V_icmp_eq C dX9_copy_59 (fun c59 => ?_) (fun c59 => ?_)
          · refine V_iload_n C dX9_copy_70 rfl ?_
            refine V_if_lt C dX9_copy_71 (fun c71 => ?_) (fun c71 => ?_)
            · refine V_aload_n C dX9_copy_111 rfl ?_
              refine V_ldc C dX9_copy_112 q994 ?_
              refine V_cv C hE dX9_copy_114 (c_X9_finds (j := 0) (by decide +kernel) (by omega)) kyX9_finds q995 (isoO 73 rfl rfl rfl rfl) rfl rfl rfl ?_
              exact V_iretN C dX9_copy_117 hT (PQ_fail (by decide +kernel) (by unfold S_copy; rw [if_pos c4, if_pos c11, hks, hkt, tM_b hs, tM_b ht]; rw [if_neg c27, if_neg c36, if_pos c59]; rw [tM_l hs, tM_l ht]; exact has_f hL1 hL2 (fun q => absurd q.1.1 (Int32.not_le.mpr c71))) (EqY.rf σ))
            · refine V_iload C dX9_copy_74 rfl ?_
              refine V_if_lt C dX9_copy_76 (fun c76 => ?_) (fun c76 => ?_)
              · refine V_aload_n C dX9_copy_111 rfl ?_
                refine V_ldc C dX9_copy_112 q994 ?_
                refine V_cv C hE dX9_copy_114 (c_X9_finds (j := 0) (by decide +kernel) (by omega)) kyX9_finds q995 (isoO 73 rfl rfl rfl rfl) rfl rfl rfl ?_
                exact V_iretN C dX9_copy_117 hT (PQ_fail (by decide +kernel) (by unfold S_copy; rw [if_pos c4, if_pos c11, hks, hkt, tM_b hs, tM_b ht]; rw [if_neg c27, if_neg c36, if_pos c59]; rw [tM_l hs, tM_l ht]; exact has_f hL1 hL2 (fun q => absurd q.2.1 (Int32.not_le.mpr c76))) (EqY.rf σ))
              · refine V_iload C dX9_copy_79 rfl ?_
                refine V_if_lt C dX9_copy_81 (fun c81 => ?_) (fun c81 => ?_)
                · refine V_aload_n C dX9_copy_111 rfl ?_
                  refine V_ldc C dX9_copy_112 q994 ?_
                  refine V_cv C hE dX9_copy_114 (c_X9_finds (j := 0) (by decide +kernel) (by omega)) kyX9_finds q995 (isoO 73 rfl rfl rfl rfl) rfl rfl rfl ?_
                  exact V_iretN C dX9_copy_117 hT (PQ_fail (by decide +kernel) (by unfold S_copy; rw [if_pos c4, if_pos c11, hks, hkt, tM_b hs, tM_b ht]; rw [if_neg c27, if_neg c36, if_pos c59]; rw [tM_l hs, tM_l ht]; exact has_f hL1 hL2 (fun q => absurd q.1.2.1 (Int32.not_le.mpr c81))) (EqY.rf σ))
                · refine V_iload C dX9_copy_84 rfl ?_
                  refine V_aload_n C dX9_copy_86 rfl ?_
                  refine V_get C dX9_copy_87 (rdO (j := 23) 73 rfl rfl rfl rfl rfl) in_X9 (by decide) q930 rfl ?_
                  refine V_iload_n C dX9_copy_90 rfl ?_
                  refine V_ialdN C s rfl (hs) (by omega) dX9_copy_91 (rdOA 82 rfl rfl rfl) ?_
                  refine V_iload_n C dX9_copy_92 rfl ?_
                  refine V_isub C dX9_copy_93 ?_
                  refine V_icmp_gt C dX9_copy_94 (fun c94 => ?_) (fun c94 => ?_)
                  · refine V_aload_n C dX9_copy_111 rfl ?_
                    refine V_ldc C dX9_copy_112 q994 ?_
                    refine V_cv C hE dX9_copy_114 (c_X9_finds (j := 0) (by decide +kernel) (by omega)) kyX9_finds q995 (isoO 73 rfl rfl rfl rfl) rfl rfl rfl ?_
                    exact V_iretN C dX9_copy_117 hT (PQ_fail (by decide +kernel) (by unfold S_copy; rw [if_pos c4, if_pos c11, hks, hkt, tM_b hs, tM_b ht]; rw [if_neg c27, if_neg c36, if_pos c59]; rw [tM_l hs, tM_l ht]; exact has_f hL1 hL2 (fun q => Int32.not_le.mpr c94 (has_2 hL1 q.1))) (EqY.rf σ))
                  · refine V_iload C dX9_copy_97 rfl ?_
                    refine V_aload_n C dX9_copy_99 rfl ?_
                    refine V_get C dX9_copy_100 (rdO (j := 23) 73 rfl rfl rfl rfl rfl) in_X9 (by decide) q930 rfl ?_
                    refine V_iload_n C dX9_copy_103 rfl ?_
                    refine V_ialdN C t rfl (ht) (by omega) dX9_copy_104 (rdOA 82 rfl rfl rfl) ?_
                    refine V_iload C dX9_copy_105 rfl ?_
                    refine V_isub C dX9_copy_107 ?_
                    refine V_icmp_le C dX9_copy_108 (fun c108 => ?_) (fun c108 => ?_)
                    · have hh := has_1 hL1 hL2 (Int32.not_lt.mp c71) (Int32.not_lt.mp c76) (Int32.not_lt.mp c81) (Int32.not_lt.mp c94) c108
                      obtain ⟨b, n, rfl, rfl, hbn⟩ := has_n hm1 hml1 hh.1
                      obtain ⟨a, rfl, han⟩ := has_m (by omega) hm2 hml2 hh.2
                      refine V_iconst C 0 dX9_copy_118 (by decide) ?_
                      refine V_istore C dX9_copy_119 rfl ?_
                      have lp : ∀ (d i : Nat) , i + d = n → V x (eA E) (AP x E (us σ 84 (cpO (σ 84) (σ 83) 0 (40*s+b) i))) 0 0 121 [some (.ref (ad E 73)), some (.int (nI s)), some (.int (nI b)), some (.int (nI t)), some (.int (nI a)), some (.int (nI n)), some (.int (nI i))] [] := by
                        intro d
                        induction d with
                        | zero =>
                          intro i  hi' 
                          have hN : i = n := by omega
                          refine V_iload C dX9_copy_121 rfl ?_
                          refine V_iload C dX9_copy_123 rfl ?_
                          refine V_icmp_ge C dX9_copy_125 (fun c125 => ?_) (fun c125 => absurd (by rw [hN] <;> exact nI_le (Nat.le_refl _) (by omega)) c125)
                          refine V_iconst C 0 dX9_copy_155 (by decide) ?_
                          refine V_istore C dX9_copy_156 rfl ?_
                          have lp : ∀ (d i : Nat) , i + d = n → V x (eA E) (AP x E (us (us σ 84 (cpO (σ 84) (σ 83) 0 (40*s+b) n)) 83 (cpO (σ 83) (σ 83) (40*t+a) (40*s+b) i))) 0 0 158 [some (.ref (ad E 73)), some (.int (nI s)), some (.int (nI b)), some (.int (nI t)), some (.int (nI a)), some (.int (nI n)), some (.int (nI i))] [] := by
                            intro d
                            induction d with
                            | zero =>
                              intro i  hi' 
                              have hN : i = n := by omega
                              refine V_iload C dX9_copy_158 rfl ?_
                              refine V_iload C dX9_copy_160 rfl ?_
                              refine V_icmp_ge C dX9_copy_162 (fun c162 => ?_) (fun c162 => absurd (by rw [hN] <;> exact nI_le (Nat.le_refl _) (by omega)) c162)
                              refine V_iload C dX9_copy_193 rfl ?_
                              exact V_iretN C dX9_copy_195 hT (PQ_ok (by unfold S_copy; rw [if_pos c4, if_pos c11, hks, hkt, tM_b hs, tM_b ht, if_neg c27, if_neg c36, if_pos c59, tM_l hs, tM_l ht, if_pos hh.1, if_pos hh.2]) rfl (by rw [hks, hkt, hk_n (show a < 2 ^ 31 by omega), hk_n (show b < 2 ^ 31 by omega), hk_n (show n < 2 ^ 31 by omega), hN]; exact ((EqY.rf σ).put (by omega) (by omega)).both (by omega)))
                            | succ d ih =>
                              intro i  hi' 
                              refine V_iload C dX9_copy_158 rfl ?_
                              refine V_iload C dX9_copy_160 rfl ?_
                              refine V_icmp_ge C dX9_copy_162 (fun c162 => absurd c162 (nI_ge (by omega) (by omega))) (fun c162 => ?_)
                              refine V_aload_n C dX9_copy_165 rfl ?_
                              refine V_get C dX9_copy_166 (rdO (j := 24) 73 rfl rfl rfl rfl rfl) in_X9 (by decide) q931 rfl ?_
                              refine V_bipush C 40 dX9_copy_169 (by decide) ?_
                              refine V_iload_n C dX9_copy_171 rfl ?_
                              refine V_imul C dX9_copy_172 ?_
                              refine V_iload C dX9_copy_173 rfl ?_
                              refine V_iadd C dX9_copy_175 ?_
                              refine V_iload C dX9_copy_176 rfl ?_
                              refine V_iadd C dX9_copy_178 ?_
                              refine V_aload_n C dX9_copy_179 rfl ?_
                              refine V_get C dX9_copy_180 (rdO (j := 25) 73 rfl rfl rfl rfl rfl) in_X9 (by decide) q932 rfl ?_
                              refine V_iload C dX9_copy_183 rfl ?_
                              refine V_ialdN C i rfl (by omega) (by omega) dX9_copy_185 (rdOA 84 rfl rfl rfl) ?_
                              refine V_iastN C (40*t+a+i) (by rw [ix_s, nI_add]) (by omega) (by omega) dX9_copy_186 (wrOA 83 rfl rfl (fun _ => rfl)) ?_
                              refine V_iinc C 1 dX9_copy_187 rfl (by decide) rfl ?_
                              refine V_goto C dX9_copy_190 ?_
                              exact V_nx (by simp (disch := omega) only [us_us, us_s, us_n]; rw [show 40 * t + a + i = (40 * t + a) + i from rfl, cpO_s (by have e := cpO_a (g := σ 84) (f := σ 83) (a := 0) (b := 40*s+b) (n := n) (k := i) (by omega); rw [Nat.zero_add] at e; exact e)]) (by simp [← nI_1] <;> rfl) (ih (i + 1) (by omega))
                          exact V_nx (σ' := us (us σ 84 (cpO (σ 84) (σ 83) 0 (40*s+b) n)) 83 (cpO (σ 83) (σ 83) (40*t+a) (40*s+b) 0)) (by rw [hN, cpO_0]; have e := us_id (us σ 84 (cpO (σ 84) (σ 83) 0 (40*s+b) n)) 83; rw [us_n (show (83:Nat) ≠ 84 by omega)] at e; exact e.symm) rfl (lp n 0 (by omega))
                        | succ d ih =>
                          intro i  hi' 
                          refine V_iload C dX9_copy_121 rfl ?_
                          refine V_iload C dX9_copy_123 rfl ?_
                          refine V_icmp_ge C dX9_copy_125 (fun c125 => absurd c125 (nI_ge (by omega) (by omega))) (fun c125 => ?_)
                          refine V_aload_n C dX9_copy_128 rfl ?_
                          refine V_get C dX9_copy_129 (rdO (j := 25) 73 rfl rfl rfl rfl rfl) in_X9 (by decide) q932 rfl ?_
                          refine V_iload C dX9_copy_132 rfl ?_
                          refine V_aload_n C dX9_copy_134 rfl ?_
                          refine V_get C dX9_copy_135 (rdO (j := 24) 73 rfl rfl rfl rfl rfl) in_X9 (by decide) q931 rfl ?_
                          refine V_bipush C 40 dX9_copy_138 (by decide) ?_
                          refine V_iload_n C dX9_copy_140 rfl ?_
                          refine V_imul C dX9_copy_141 ?_
                          refine V_iload_n C dX9_copy_142 rfl ?_
                          refine V_iadd C dX9_copy_143 ?_
                          refine V_iload C dX9_copy_144 rfl ?_
                          refine V_iadd C dX9_copy_146 ?_
                          refine V_ialdN C (40*s+b+i) (by rw [ix_s, nI_add]) (by omega) (by omega) dX9_copy_147 (rdOA 83 rfl rfl rfl) ?_
                          refine V_iastN C i rfl (by omega) (by omega) dX9_copy_148 (wrOA 84 rfl rfl (fun _ => rfl)) ?_
                          refine V_iinc C 1 dX9_copy_149 rfl (by decide) rfl ?_
                          refine V_goto C dX9_copy_152 ?_
                          exact V_nx (by simp (disch := omega) only [us_us, us_s, us_n]; have e := cpO_s (g := σ 84) (f := σ 83) (a := 0) (b := 40*s+b) (i := i) (v := σ 83 (40*s+b+i)) rfl; rw [Nat.zero_add] at e; rw [e]) (by simp [← nI_1] <;> rfl) (ih (i + 1) (by omega))
                      exact V_nx (by rw [cpO_0, us_id]) rfl (lp n 0 (by omega))
                    · refine V_aload_n C dX9_copy_111 rfl ?_
                      refine V_ldc C dX9_copy_112 q994 ?_
                      refine V_cv C hE dX9_copy_114 (c_X9_finds (j := 0) (by decide +kernel) (by omega)) kyX9_finds q995 (isoO 73 rfl rfl rfl rfl) rfl rfl rfl ?_
                      exact V_iretN C dX9_copy_117 hT (PQ_fail (by decide +kernel) (by unfold S_copy; rw [if_pos c4, if_pos c11, hks, hkt, tM_b hs, tM_b ht]; rw [if_neg c27, if_neg c36, if_pos c59]; rw [tM_l hs, tM_l ht]; exact has_f hL1 hL2 (fun q => c108 (has_2 hL2 q.2))) (EqY.rf σ))
          · refine V_aload_n C dX9_copy_62 rfl ?_
            refine V_ldc_w C dX9_copy_63 q1375 ?_
            refine V_cv C hE dX9_copy_66 (c_X9_finds (j := 2) (by decide +kernel) (by omega)) kyX9_finds q995 (isoO 73 rfl rfl rfl rfl) rfl rfl rfl ?_
            exact V_iretN C dX9_copy_69 hT (PQ_fail (by decide +kernel) (by unfold S_copy; rw [if_pos c4, if_pos c11, hks, hkt, tM_b hs, tM_b ht]; rw [if_neg c27, if_neg c36, if_neg c59]) (EqY.rf σ))
        · refine V_aload_n C dX9_copy_39 rfl ?_
          refine V_ldc_w C dX9_copy_40 q1374 ?_
          refine V_cv C hE dX9_copy_43 (c_X9_finds (j := 5) (by decide +kernel) (by omega)) kyX9_finds q995 (isoO 73 rfl rfl rfl rfl) rfl rfl rfl ?_
          exact V_iretN C dX9_copy_46 hT (PQ_fail (by decide +kernel) (by unfold S_copy; rw [if_pos c4, if_pos c11, hks, hkt, tM_b hs, tM_b ht]; first | rw [if_pos c27] | rw [if_neg c27, if_pos c36]) (EqY.rf σ))
    · refine V_aload_n C dX9_copy_14 rfl ?_
      refine V_ldc C dX9_copy_15 q994 ?_
      refine V_cv C hE dX9_copy_17 (c_X9_finds (j := 0) (by decide +kernel) (by omega)) kyX9_finds q995 (isoO 73 rfl rfl rfl rfl) rfl rfl rfl ?_
      exact V_iretN C dX9_copy_20 hT (PQ_fail (by decide +kernel) (by unfold S_copy; rw [if_pos c4, if_neg c11]) (EqY.rf σ))

