theorem c_X9_seed {l : Launch} {E : En} {σ : Sg} {p0 : Int32}  : MN l yX9_seed cX9_seed 3 (some .int) rmX9_seed E [.ref (ad E 73), .int p0] σ (fun r u => r = some (.int (σ 74 7)) ∧ u = us σ 74 (upd (σ 74) 7 p0)) := by
  refine MN_of (by decide +kernel) rfl fun x C hE hT hcan => ?_
  have C : CX x cX9_seed RX9 rmX9_seed := C
  refine V_L (L' := [some (.ref (ad E 73)), some (.int p0), none]) rfl ?_
  refine V_aload_n C dX9_seed_0 rfl ?_
  refine V_get C dX9_seed_1 (rdO (j := 0) 73 rfl rfl rfl rfl rfl) in_X9 (by decide) q907 rfl ?_
  refine V_bipush C 7 dX9_seed_4 (by decide) ?_
  refine V_iald C 7 rfl rfl rfl dX9_seed_6 (rdM 74 7 rfl rfl rfl) ?_
  refine V_istore_n C dX9_seed_7 rfl ?_
  refine V_aload_n C dX9_seed_8 rfl ?_
  refine V_get C dX9_seed_9 (rdO (j := 0) 73 rfl rfl rfl rfl rfl) in_X9 (by decide) q907 rfl ?_
  refine V_bipush C 7 dX9_seed_12 (by decide) ?_
  refine V_iload_n C dX9_seed_14 rfl ?_
  refine V_iast C 7 rfl rfl rfl dX9_seed_15 (wrM 74 7 rfl rfl rfl rfl) ?_
  refine V_iload_n C dX9_seed_16 rfl ?_
  exact V_iretN C dX9_seed_17 hT (⟨rfl, rfl⟩)

theorem c_X9_wipe {l : Launch} {E : En} {σ : Sg}   : MN l yX9_wipe cX9_wipe 2 (some .int) rmX9_wipe E [.ref (ad E 73)] σ (fun r u => r = some (.int (σ 73 17)) ∧ u = us σ 73 (upd (σ 73) 17 0)) := by
  refine MN_of (by decide +kernel) rfl fun x C hE hT hcan => ?_
  have C : CX x cX9_wipe RX9 rmX9_wipe := C
  refine V_L (L' := [some (.ref (ad E 73)), none]) rfl ?_
  refine V_aload_n C dX9_wipe_0 rfl ?_
  refine V_get C dX9_wipe_1 (rdO (j := 17) 73 rfl rfl rfl rfl rfl) in_X9 (by decide) q924 rfl ?_
  refine V_istore_n C dX9_wipe_4 rfl ?_
  refine V_aload_n C dX9_wipe_5 rfl ?_
  refine V_iconst C 0 dX9_wipe_6 (by decide) ?_
  refine V_put C dX9_wipe_7 (wrO (j := 17) 73 rfl rfl rfl rfl rfl rfl) ft_X9 (by decide) q924 rfl rfl rfl rfl ?_
  refine V_iload_n C dX9_wipe_10 rfl ?_
  exact V_iretN C dX9_wipe_11 hT (⟨rfl, rfl⟩)

theorem c_X9_hold {l : Launch} {E : En} {σ : Sg} {p0 p1 : Int32}  : MN l yX9_hold cX9_hold 3 (some .int) rmX9_hold E [.ref (ad E 73), .int p0, .int p1] σ (PQ σ (S_hold (σ 74) p0 p1) (us σ 74 (upd (σ 74) (63 + hk p0) p1))) := by
  refine MN_of (by decide +kernel) rfl fun x C hE hT hcan => ?_
  have C : CX x cX9_hold RX9 rmX9_hold := C
  refine V_L (L' := [some (.ref (ad E 73)), some (.int p0), some (.int p1)]) rfl ?_
  refine V_iload_n C dX9_hold_0 rfl ?_
  refine V_i2l C dX9_hold_1 ?_
  refine V_lconst C 0 dX9_hold_2 (by decide) ?_
  refine V_ldc2 C dX9_hold_3 q1046 ?_
  refine V_cs C hE dX9_hold_6 (c_X9_in (a := p0) (lo := 0) (hi := 9) (by decide +kernel) (by decide +kernel)) kyX9_in q991 rfl rfl rfl ?_
  refine V_ifeq_b C dX9_hold_9 (fun c9 => ?_) (fun c9 => ?_)
  · refine V_aload_n C dX9_hold_25 rfl ?_
    refine V_ldc C dX9_hold_26 q994 ?_
    refine V_cv C hE dX9_hold_28 (c_X9_finds (j := 0) (by decide +kernel) (by omega)) kyX9_finds q995 (isoO 73 rfl rfl rfl rfl) rfl rfl rfl ?_
    exact V_iretN C dX9_hold_31 hT (PQ_fail (by decide +kernel) (by unfold S_hold; rw [if_neg c9]) (EqY.rf σ))
  · refine V_iload_n C dX9_hold_12 rfl ?_
    refine V_iconst C (-1) dX9_hold_13 (by decide) ?_
    refine V_icmp_eq C dX9_hold_14 (fun c14 => ?_) (fun c14 => ?_)
    · obtain ⟨w, rfl, hw⟩ := i32_le (m := 9) (by omega) c9.1 c9.2
      refine V_aload_n C dX9_hold_32 rfl ?_
      refine V_get C dX9_hold_33 (rdO (j := 0) 73 rfl rfl rfl rfl rfl) in_X9 (by decide) q907 rfl ?_
      refine V_bipush C 63 dX9_hold_36 (by decide) ?_
      refine V_iload_n C dX9_hold_38 rfl ?_
      refine V_iadd C dX9_hold_39 ?_
      refine V_iload_n C dX9_hold_40 rfl ?_
      refine V_iastN C (63+w) (nI_add 63 w) (by omega) (by omega) dX9_hold_41 (wrM 74 (63+w) rfl rfl (sc63 (by omega)) (q1n (by omega))) ?_
      refine V_iconst C 1 dX9_hold_42 (by decide) ?_
      exact V_iretN C dX9_hold_43 hT (PQ_ok (by unfold S_hold; rw [if_pos c9]; rw [if_pos c14]) rfl (by rw [hk_n (by omega)]; exact EqY.rf _))
    · refine V_aload_n C dX9_hold_17 rfl ?_
      refine V_iload_n C dX9_hold_18 rfl ?_
      refine V_cv C hE dX9_hold_19 (c_X9_isHouse) kyX9_isHouse q1011 (isoO 73 rfl rfl rfl rfl) rfl rfl rfl ?_
      refine V_ifne_b C dX9_hold_22 (fun c22 => ?_) (fun c22 => ?_)
      · obtain ⟨w, rfl, hw⟩ := i32_le (m := 9) (by omega) c9.1 c9.2
        refine V_aload_n C dX9_hold_32 rfl ?_
        refine V_get C dX9_hold_33 (rdO (j := 0) 73 rfl rfl rfl rfl rfl) in_X9 (by decide) q907 rfl ?_
        refine V_bipush C 63 dX9_hold_36 (by decide) ?_
        refine V_iload_n C dX9_hold_38 rfl ?_
        refine V_iadd C dX9_hold_39 ?_
        refine V_iload_n C dX9_hold_40 rfl ?_
        refine V_iastN C (63+w) (nI_add 63 w) (by omega) (by omega) dX9_hold_41 (wrM 74 (63+w) rfl rfl (sc63 (by omega)) (q1n (by omega))) ?_
        refine V_iconst C 1 dX9_hold_42 (by decide) ?_
        exact V_iretN C dX9_hold_43 hT (PQ_ok (by unfold S_hold; rw [if_pos c9]; rw [if_neg c14, if_pos c22]) rfl (by rw [hk_n (by omega)]; exact EqY.rf _))
      · refine V_aload_n C dX9_hold_25 rfl ?_
        refine V_ldc C dX9_hold_26 q994 ?_
        refine V_cv C hE dX9_hold_28 (c_X9_finds (j := 0) (by decide +kernel) (by omega)) kyX9_finds q995 (isoO 73 rfl rfl rfl rfl) rfl rfl rfl ?_
        exact V_iretN C dX9_hold_31 hT (PQ_fail (by decide +kernel) (by unfold S_hold; rw [if_pos c9, if_neg c14, if_neg c22]) (EqY.rf σ))

/-- the spots hold houses, or nothing -/
def SpV (f : Nat → Int32) : Prop := ∀ k, k < 10 → f (63 + k) = -1 ∨ isH f (f (63 + k))
theorem sp_n {f : Nat → Int32} (h : SpV f) {k : Nat} (hk : k < 10) (hn : f (63 + k) < 0) : f (63 + k) = -1 := by
  rcases h k hk with e | e
  · exact e
  · exact absurd hn (Int32.not_lt.mpr e.1)
theorem sp_p {f : Nat → Int32} (h : SpV f) {k : Nat} (hk : k < 10) (hn : 0 ≤ f (63 + k)) : isH f (f (63 + k)) := by
  rcases h k hk with e | e
  · rw [e] at hn; exact absurd hn (by decide)
  · exact e
theorem nH_m1 {f : Nat → Int32} {x : Int32} (h : x = -1) : ¬ isH f x := fun q => by rw [h] at q; exact absurd q.1 (by decide)
theorem as_y {o k : Int32} (h : k = 0 ∨ o = k ∨ (k = 1 ∧ o = 3) ∨ (k = 2 ∧ o = 4) ∨ (k = 5 ∧ o = 6)) : isAV o k := by
  unfold isAV
  rcases h with h | h | ⟨h, h2⟩ | ⟨h, h2⟩ | ⟨h, h2⟩
  · exact Or.inl h
  · subst h
    by_cases e0 : o = 0
    · exact Or.inl e0
    by_cases e1 : o = 1
    · exact Or.inr (Or.inl ⟨e1, Or.inl e1⟩)
    by_cases e2 : o = 2
    · exact Or.inr (Or.inr (Or.inl ⟨e2, Or.inl e2⟩))
    by_cases e5 : o = 5
    · exact Or.inr (Or.inr (Or.inr (Or.inl ⟨e5, Or.inl e5⟩)))
    exact Or.inr (Or.inr (Or.inr (Or.inr ⟨e0, e1, e2, e5, rfl⟩)))
  · exact Or.inr (Or.inl ⟨h, Or.inr h2⟩)
  · exact Or.inr (Or.inr (Or.inl ⟨h, Or.inr h2⟩))
  · exact Or.inr (Or.inr (Or.inr (Or.inl ⟨h, Or.inr h2⟩)))
theorem as_n {o k : Int32} (h0 : ¬ k = 0) (h1 : ¬ o = k) (h2 : ¬ (k = 1 ∧ o = 3)) (h3 : ¬ (k = 2 ∧ o = 4)) (h4 : ¬ (k = 5 ∧ o = 6)) : ¬ isAV o k := by
  unfold isAV
  rintro (h | ⟨h, h' | h'⟩ | ⟨h, h' | h'⟩ | ⟨h, h' | h'⟩ | ⟨-, -, -, -, h⟩)
  · exact h0 h
  · exact h1 (h'.trans h.symm)
  · exact h2 ⟨h, h'⟩
  · exact h1 (h'.trans h.symm)
  · exact h3 ⟨h, h'⟩
  · exact h1 (h'.trans h.symm)
  · exact h4 ⟨h, h'⟩
  · exact h1 h

theorem c_X9_as {l : Launch} {E : En} {σ : Sg} {p0 p1 : Int32}  (hS : SpV (σ 74)) : MN l yX9_as cX9_as 6 (some .int) rmX9_as E [.ref (ad E 73), .int p0, .int p1] σ (PQ σ (S_as (σ 74) p0 p1) (σ)) := by
  refine MN_of (by decide +kernel) rfl fun x C hE hT hcan => ?_
  have C : CX x cX9_as RX9 rmX9_as := C
  have h8 : nh (σ 74) ≤ 8 := (hcan.2.1 74 (by omega) (by omega)).2.1
  refine V_L (L' := [some (.ref (ad E 73)), some (.int p0), some (.int p1), none, none, none]) rfl ?_
  refine V_iload_n C dX9_as_0 rfl ?_
  refine V_i2l C dX9_as_1 ?_
  refine V_lconst C 0 dX9_as_2 (by decide) ?_
  refine V_ldc2 C dX9_as_3 q1046 ?_
  refine V_cs C hE dX9_as_6 (c_X9_in (a := p0) (lo := 0) (hi := 9) (by decide +kernel) (by decide +kernel)) kyX9_in q991 rfl rfl rfl ?_
  refine V_ifeq_b C dX9_as_9 (fun c9 => ?_) (fun c9 => ?_)
  · refine V_aload_n C dX9_as_24 rfl ?_
    refine V_ldc C dX9_as_25 q994 ?_
    refine V_cv C hE dX9_as_27 (c_X9_finds (j := 0) (by decide +kernel) (by omega)) kyX9_finds q995 (isoO 73 rfl rfl rfl rfl) rfl rfl rfl ?_
    exact V_iretN C dX9_as_30 hT (PQ_fail (by decide +kernel) (by unfold S_as; rw [if_neg c9]) (EqY.rf σ))
  · refine V_iload_n C dX9_as_12 rfl ?_
    refine V_i2l C dX9_as_13 ?_
    refine V_lconst C 0 dX9_as_14 (by decide) ?_
    refine V_ldc2 C dX9_as_15 q990 ?_
    refine V_cs C hE dX9_as_18 (c_X9_in (a := p1) (lo := 0) (hi := 6) (by decide +kernel) (by decide +kernel)) kyX9_in q991 rfl rfl rfl ?_
    refine V_ifne_b C dX9_as_21 (fun c21 => ?_) (fun c21 => ?_)
    · obtain ⟨w, rfl, hw⟩ := i32_le (m := 9) (by omega) c9.1 c9.2
      have hkw : hk (nI w) = w := hk_n (by omega)
      refine V_aload_n C dX9_as_31 rfl ?_
      refine V_get C dX9_as_32 (rdO (j := 0) 73 rfl rfl rfl rfl rfl) in_X9 (by decide) q907 rfl ?_
      refine V_bipush C 63 dX9_as_35 (by decide) ?_
      refine V_iload_n C dX9_as_37 rfl ?_
      refine V_iadd C dX9_as_38 ?_
      refine V_ialdN C (63+w) (nI_add 63 w) (by omega) (by omega) dX9_as_39 (rdM 74 (63+w) rfl rfl (sc63 (by omega))) ?_
      refine V_istore_n C dX9_as_40 rfl ?_
      refine V_iload_n C dX9_as_41 rfl ?_
      refine V_if_ge C dX9_as_42 (fun c42 => ?_) (fun c42 => ?_)
      · have hsp := sp_p hS (k := w) (by omega) c42
        obtain ⟨i, hi, hie, hi8⟩ := isH_of (hcan.2.1 74 (by omega) (by omega)) hsp
        refine V_L (L' := [some (.ref (ad E 73)), some (.int (nI w)), some (.int p1), some (.int (nI i)), none, none]) (by rw [← hie]; rfl) ?_
        have j110 : V x (eA E) (AP x E σ) 0 0 110 [some (.ref (ad E 73)), some (.int (nI w)), some (.int p1), some (.int (nI i)), some (.int (hf (σ 74) i 0)), none] [.int (bI (isAV (hf (σ 74) i 0) p1))] := by
            refine V_istore C dX9_as_110 rfl ?_
            refine V_iload C dX9_as_112 rfl ?_
            refine V_ifeq_b C dX9_as_114 (fun c114 => ?_) (fun c114 => ?_)
            · refine V_aload_n C dX9_as_121 rfl ?_
              refine V_ldc_w C dX9_as_122 q1375 ?_
              refine V_cv C hE dX9_as_125 (c_X9_finds (j := 2) (by decide +kernel) (by omega)) kyX9_finds q995 (isoO 73 rfl rfl rfl rfl) rfl rfl rfl ?_
              exact V_iretN C dX9_as_128 hT (PQ_fail (by decide +kernel) (by unfold S_as; rw [hkw, if_pos c9, if_pos c21, if_pos hsp, hie, hk_nI hi8, if_neg c114]) (EqY.rf σ))
            · refine V_iload_n C dX9_as_117 rfl ?_
              refine V_goto C dX9_as_118 ?_
              exact V_iretN C dX9_as_128 hT (PQ_rd (by unfold S_as; rw [hkw, if_pos c9, if_pos c21, if_pos hsp, hie, hk_nI hi8, if_pos c114]) (EqY.rf σ))
        refine V_aload_n C dX9_as_53 rfl ?_
        refine V_iload_n C dX9_as_54 rfl ?_
        refine V_iconst C 0 dX9_as_55 (by decide) ?_
        refine V_cv C hE dX9_as_56 (c_X9_its (j := 0) rfl (by first | assumption | omega | (simp (disch := omega) only [us_s, us_n, nh_uh, nh_upd, nh_passN, nh_goF, nh_quarterF]; assumption)) (by omega)) kyX9_its q1016 (isoO 73 rfl rfl rfl rfl) rfl rfl rfl ?_
        refine V_istore C dX9_as_59 rfl ?_
        refine V_iload_n C dX9_as_61 rfl ?_
        refine V_if_eq C dX9_as_62 (fun c62 => ?_) (fun c62 => ?_)
        · refine V_iconst C 1 dX9_as_105 (by decide) ?_
          refine V_goto C dX9_as_106 ?_
          exact V_st (by first | rw [bI_t (as_y (by first | exact Or.inl c62 | exact Or.inr (Or.inl c68) | exact Or.inr (Or.inr (Or.inl ⟨c73, c79⟩)) | exact Or.inr (Or.inr (Or.inr (Or.inl ⟨c84, c90⟩))) | exact Or.inr (Or.inr (Or.inr (Or.inr ⟨c95, c102⟩)))))] | rw [bI_f (as_n c62 c68 (by first | exact fun q => c73 q.1 | exact fun q => c79 q.2) (by first | exact fun q => c84 q.1 | exact fun q => c90 q.2) (by first | exact fun q => c95 q.1 | exact fun q => c102 q.2))]) j110
        · refine V_iload C dX9_as_65 rfl ?_
          refine V_iload_n C dX9_as_67 rfl ?_
          refine V_icmp_eq C dX9_as_68 (fun c68 => ?_) (fun c68 => ?_)
          · refine V_iconst C 1 dX9_as_105 (by decide) ?_
            refine V_goto C dX9_as_106 ?_
            exact V_st (by first | rw [bI_t (as_y (by first | exact Or.inl c62 | exact Or.inr (Or.inl c68) | exact Or.inr (Or.inr (Or.inl ⟨c73, c79⟩)) | exact Or.inr (Or.inr (Or.inr (Or.inl ⟨c84, c90⟩))) | exact Or.inr (Or.inr (Or.inr (Or.inr ⟨c95, c102⟩)))))] | rw [bI_f (as_n c62 c68 (by first | exact fun q => c73 q.1 | exact fun q => c79 q.2) (by first | exact fun q => c84 q.1 | exact fun q => c90 q.2) (by first | exact fun q => c95 q.1 | exact fun q => c102 q.2))]) j110
          · refine V_iload_n C dX9_as_71 rfl ?_
            refine V_iconst C 1 dX9_as_72 (by decide) ?_
            refine V_icmp_ne C dX9_as_73 (fun c73 => ?_) (fun c73 => ?_)
            · refine V_iload_n C dX9_as_82 rfl ?_
              refine V_iconst C 2 dX9_as_83 (by decide) ?_
              refine V_icmp_ne C dX9_as_84 (fun c84 => ?_) (fun c84 => ?_)
              · refine V_iload_n C dX9_as_93 rfl ?_
                refine V_iconst C 5 dX9_as_94 (by decide) ?_
                refine V_icmp_ne C dX9_as_95 (fun c95 => ?_) (fun c95 => ?_)
                · refine V_iconst C 0 dX9_as_109 (by decide) ?_
                  exact V_st (by first | rw [bI_t (as_y (by first | exact Or.inl c62 | exact Or.inr (Or.inl c68) | exact Or.inr (Or.inr (Or.inl ⟨c73, c79⟩)) | exact Or.inr (Or.inr (Or.inr (Or.inl ⟨c84, c90⟩))) | exact Or.inr (Or.inr (Or.inr (Or.inr ⟨c95, c102⟩)))))] | rw [bI_f (as_n c62 c68 (by first | exact fun q => c73 q.1 | exact fun q => c79 q.2) (by first | exact fun q => c84 q.1 | exact fun q => c90 q.2) (by first | exact fun q => c95 q.1 | exact fun q => c102 q.2))]) j110
                · refine V_iload C dX9_as_98 rfl ?_
                  refine V_bipush C 6 dX9_as_100 (by decide) ?_
                  refine V_icmp_ne C dX9_as_102 (fun c102 => ?_) (fun c102 => ?_)
                  · refine V_iconst C 0 dX9_as_109 (by decide) ?_
                    exact V_st (by first | rw [bI_t (as_y (by first | exact Or.inl c62 | exact Or.inr (Or.inl c68) | exact Or.inr (Or.inr (Or.inl ⟨c73, c79⟩)) | exact Or.inr (Or.inr (Or.inr (Or.inl ⟨c84, c90⟩))) | exact Or.inr (Or.inr (Or.inr (Or.inr ⟨c95, c102⟩)))))] | rw [bI_f (as_n c62 c68 (by first | exact fun q => c73 q.1 | exact fun q => c79 q.2) (by first | exact fun q => c84 q.1 | exact fun q => c90 q.2) (by first | exact fun q => c95 q.1 | exact fun q => c102 q.2))]) j110
                  · refine V_iconst C 1 dX9_as_105 (by decide) ?_
                    refine V_goto C dX9_as_106 ?_
                    exact V_st (by first | rw [bI_t (as_y (by first | exact Or.inl c62 | exact Or.inr (Or.inl c68) | exact Or.inr (Or.inr (Or.inl ⟨c73, c79⟩)) | exact Or.inr (Or.inr (Or.inr (Or.inl ⟨c84, c90⟩))) | exact Or.inr (Or.inr (Or.inr (Or.inr ⟨c95, c102⟩)))))] | rw [bI_f (as_n c62 c68 (by first | exact fun q => c73 q.1 | exact fun q => c79 q.2) (by first | exact fun q => c84 q.1 | exact fun q => c90 q.2) (by first | exact fun q => c95 q.1 | exact fun q => c102 q.2))]) j110
              · refine V_iload C dX9_as_87 rfl ?_
                refine V_iconst C 4 dX9_as_89 (by decide) ?_
                refine V_icmp_eq C dX9_as_90 (fun c90 => ?_) (fun c90 => ?_)
                · refine V_iconst C 1 dX9_as_105 (by decide) ?_
                  refine V_goto C dX9_as_106 ?_
                  exact V_st (by first | rw [bI_t (as_y (by first | exact Or.inl c62 | exact Or.inr (Or.inl c68) | exact Or.inr (Or.inr (Or.inl ⟨c73, c79⟩)) | exact Or.inr (Or.inr (Or.inr (Or.inl ⟨c84, c90⟩))) | exact Or.inr (Or.inr (Or.inr (Or.inr ⟨c95, c102⟩)))))] | rw [bI_f (as_n c62 c68 (by first | exact fun q => c73 q.1 | exact fun q => c79 q.2) (by first | exact fun q => c84 q.1 | exact fun q => c90 q.2) (by first | exact fun q => c95 q.1 | exact fun q => c102 q.2))]) j110
                · refine V_iload_n C dX9_as_93 rfl ?_
                  refine V_iconst C 5 dX9_as_94 (by decide) ?_
                  refine V_icmp_ne C dX9_as_95 (fun c95 => ?_) (fun c95 => ?_)
                  · refine V_iconst C 0 dX9_as_109 (by decide) ?_
                    exact V_st (by first | rw [bI_t (as_y (by first | exact Or.inl c62 | exact Or.inr (Or.inl c68) | exact Or.inr (Or.inr (Or.inl ⟨c73, c79⟩)) | exact Or.inr (Or.inr (Or.inr (Or.inl ⟨c84, c90⟩))) | exact Or.inr (Or.inr (Or.inr (Or.inr ⟨c95, c102⟩)))))] | rw [bI_f (as_n c62 c68 (by first | exact fun q => c73 q.1 | exact fun q => c79 q.2) (by first | exact fun q => c84 q.1 | exact fun q => c90 q.2) (by first | exact fun q => c95 q.1 | exact fun q => c102 q.2))]) j110
                  · refine V_iload C dX9_as_98 rfl ?_
                    refine V_bipush C 6 dX9_as_100 (by decide) ?_
                    refine V_icmp_ne C dX9_as_102 (fun c102 => ?_) (fun c102 => ?_)
                    · refine V_iconst C 0 dX9_as_109 (by decide) ?_
                      exact V_st (by first | rw [bI_t (as_y (by first | exact Or.inl c62 | exact Or.inr (Or.inl c68) | exact Or.inr (Or.inr (Or.inl ⟨c73, c79⟩)) | exact Or.inr (Or.inr (Or.inr (Or.inl ⟨c84, c90⟩))) | exact Or.inr (Or.inr (Or.inr (Or.inr ⟨c95, c102⟩)))))] | rw [bI_f (as_n c62 c68 (by first | exact fun q => c73 q.1 | exact fun q => c79 q.2) (by first | exact fun q => c84 q.1 | exact fun q => c90 q.2) (by first | exact fun q => c95 q.1 | exact fun q => c102 q.2))]) j110
                    · refine V_iconst C 1 dX9_as_105 (by decide) ?_
                      refine V_goto C dX9_as_106 ?_
                      exact V_st (by first | rw [bI_t (as_y (by first | exact Or.inl c62 | exact Or.inr (Or.inl c68) | exact Or.inr (Or.inr (Or.inl ⟨c73, c79⟩)) | exact Or.inr (Or.inr (Or.inr (Or.inl ⟨c84, c90⟩))) | exact Or.inr (Or.inr (Or.inr (Or.inr ⟨c95, c102⟩)))))] | rw [bI_f (as_n c62 c68 (by first | exact fun q => c73 q.1 | exact fun q => c79 q.2) (by first | exact fun q => c84 q.1 | exact fun q => c90 q.2) (by first | exact fun q => c95 q.1 | exact fun q => c102 q.2))]) j110
            · refine V_iload C dX9_as_76 rfl ?_
              refine V_iconst C 3 dX9_as_78 (by decide) ?_
              refine V_icmp_eq C dX9_as_79 (fun c79 => ?_) (fun c79 => ?_)
              · refine V_iconst C 1 dX9_as_105 (by decide) ?_
                refine V_goto C dX9_as_106 ?_
                exact V_st (by first | rw [bI_t (as_y (by first | exact Or.inl c62 | exact Or.inr (Or.inl c68) | exact Or.inr (Or.inr (Or.inl ⟨c73, c79⟩)) | exact Or.inr (Or.inr (Or.inr (Or.inl ⟨c84, c90⟩))) | exact Or.inr (Or.inr (Or.inr (Or.inr ⟨c95, c102⟩)))))] | rw [bI_f (as_n c62 c68 (by first | exact fun q => c73 q.1 | exact fun q => c79 q.2) (by first | exact fun q => c84 q.1 | exact fun q => c90 q.2) (by first | exact fun q => c95 q.1 | exact fun q => c102 q.2))]) j110
              · refine V_iload_n C dX9_as_82 rfl ?_
                refine V_iconst C 2 dX9_as_83 (by decide) ?_
                refine V_icmp_ne C dX9_as_84 (fun c84 => ?_) (fun c84 => ?_)
                · refine V_iload_n C dX9_as_93 rfl ?_
                  refine V_iconst C 5 dX9_as_94 (by decide) ?_
                  refine V_icmp_ne C dX9_as_95 (fun c95 => ?_) (fun c95 => ?_)
                  · refine V_iconst C 0 dX9_as_109 (by decide) ?_
                    exact V_st (by first | rw [bI_t (as_y (by first | exact Or.inl c62 | exact Or.inr (Or.inl c68) | exact Or.inr (Or.inr (Or.inl ⟨c73, c79⟩)) | exact Or.inr (Or.inr (Or.inr (Or.inl ⟨c84, c90⟩))) | exact Or.inr (Or.inr (Or.inr (Or.inr ⟨c95, c102⟩)))))] | rw [bI_f (as_n c62 c68 (by first | exact fun q => c73 q.1 | exact fun q => c79 q.2) (by first | exact fun q => c84 q.1 | exact fun q => c90 q.2) (by first | exact fun q => c95 q.1 | exact fun q => c102 q.2))]) j110
                  · refine V_iload C dX9_as_98 rfl ?_
                    refine V_bipush C 6 dX9_as_100 (by decide) ?_
                    refine V_icmp_ne C dX9_as_102 (fun c102 => ?_) (fun c102 => ?_)
                    · refine V_iconst C 0 dX9_as_109 (by decide) ?_
                      exact V_st (by first | rw [bI_t (as_y (by first | exact Or.inl c62 | exact Or.inr (Or.inl c68) | exact Or.inr (Or.inr (Or.inl ⟨c73, c79⟩)) | exact Or.inr (Or.inr (Or.inr (Or.inl ⟨c84, c90⟩))) | exact Or.inr (Or.inr (Or.inr (Or.inr ⟨c95, c102⟩)))))] | rw [bI_f (as_n c62 c68 (by first | exact fun q => c73 q.1 | exact fun q => c79 q.2) (by first | exact fun q => c84 q.1 | exact fun q => c90 q.2) (by first | exact fun q => c95 q.1 | exact fun q => c102 q.2))]) j110
                    · refine V_iconst C 1 dX9_as_105 (by decide) ?_
                      refine V_goto C dX9_as_106 ?_
                      exact V_st (by first | rw [bI_t (as_y (by first | exact Or.inl c62 | exact Or.inr (Or.inl c68) | exact Or.inr (Or.inr (Or.inl ⟨c73, c79⟩)) | exact Or.inr (Or.inr (Or.inr (Or.inl ⟨c84, c90⟩))) | exact Or.inr (Or.inr (Or.inr (Or.inr ⟨c95, c102⟩)))))] | rw [bI_f (as_n c62 c68 (by first | exact fun q => c73 q.1 | exact fun q => c79 q.2) (by first | exact fun q => c84 q.1 | exact fun q => c90 q.2) (by first | exact fun q => c95 q.1 | exact fun q => c102 q.2))]) j110
                · refine V_iload C dX9_as_87 rfl ?_
                  refine V_iconst C 4 dX9_as_89 (by decide) ?_
                  refine V_icmp_eq C dX9_as_90 (fun c90 => ?_) (fun c90 => ?_)
                  · refine V_iconst C 1 dX9_as_105 (by decide) ?_
                    refine V_goto C dX9_as_106 ?_
                    exact V_st (by first | rw [bI_t (as_y (by first | exact Or.inl c62 | exact Or.inr (Or.inl c68) | exact Or.inr (Or.inr (Or.inl ⟨c73, c79⟩)) | exact Or.inr (Or.inr (Or.inr (Or.inl ⟨c84, c90⟩))) | exact Or.inr (Or.inr (Or.inr (Or.inr ⟨c95, c102⟩)))))] | rw [bI_f (as_n c62 c68 (by first | exact fun q => c73 q.1 | exact fun q => c79 q.2) (by first | exact fun q => c84 q.1 | exact fun q => c90 q.2) (by first | exact fun q => c95 q.1 | exact fun q => c102 q.2))]) j110
                  · refine V_iload_n C dX9_as_93 rfl ?_
                    refine V_iconst C 5 dX9_as_94 (by decide) ?_
                    refine V_icmp_ne C dX9_as_95 (fun c95 => ?_) (fun c95 => ?_)
                    · refine V_iconst C 0 dX9_as_109 (by decide) ?_
                      exact V_st (by first | rw [bI_t (as_y (by first | exact Or.inl c62 | exact Or.inr (Or.inl c68) | exact Or.inr (Or.inr (Or.inl ⟨c73, c79⟩)) | exact Or.inr (Or.inr (Or.inr (Or.inl ⟨c84, c90⟩))) | exact Or.inr (Or.inr (Or.inr (Or.inr ⟨c95, c102⟩)))))] | rw [bI_f (as_n c62 c68 (by first | exact fun q => c73 q.1 | exact fun q => c79 q.2) (by first | exact fun q => c84 q.1 | exact fun q => c90 q.2) (by first | exact fun q => c95 q.1 | exact fun q => c102 q.2))]) j110
                    · refine V_iload C dX9_as_98 rfl ?_
                      refine V_bipush C 6 dX9_as_100 (by decide) ?_
                      refine V_icmp_ne C dX9_as_102 (fun c102 => ?_) (fun c102 => ?_)
                      · refine V_iconst C 0 dX9_as_109 (by decide) ?_
                        exact V_st (by first | rw [bI_t (as_y (by first | exact Or.inl c62 | exact Or.inr (Or.inl c68) | exact Or.inr (Or.inr (Or.inl ⟨c73, c79⟩)) | exact Or.inr (Or.inr (Or.inr (Or.inl ⟨c84, c90⟩))) | exact Or.inr (Or.inr (Or.inr (Or.inr ⟨c95, c102⟩)))))] | rw [bI_f (as_n c62 c68 (by first | exact fun q => c73 q.1 | exact fun q => c79 q.2) (by first | exact fun q => c84 q.1 | exact fun q => c90 q.2) (by first | exact fun q => c95 q.1 | exact fun q => c102 q.2))]) j110
                      · refine V_iconst C 1 dX9_as_105 (by decide) ?_
                        refine V_goto C dX9_as_106 ?_
                        exact V_st (by first | rw [bI_t (as_y (by first | exact Or.inl c62 | exact Or.inr (Or.inl c68) | exact Or.inr (Or.inr (Or.inl ⟨c73, c79⟩)) | exact Or.inr (Or.inr (Or.inr (Or.inl ⟨c84, c90⟩))) | exact Or.inr (Or.inr (Or.inr (Or.inr ⟨c95, c102⟩)))))] | rw [bI_f (as_n c62 c68 (by first | exact fun q => c73 q.1 | exact fun q => c79 q.2) (by first | exact fun q => c84 q.1 | exact fun q => c90 q.2) (by first | exact fun q => c95 q.1 | exact fun q => c102 q.2))]) j110
      · refine V_aload_n C dX9_as_45 rfl ?_
        refine V_ldc_w C dX9_as_46 q1374 ?_
        refine V_cv C hE dX9_as_49 (c_X9_finds (j := 5) (by decide +kernel) (by omega)) kyX9_finds q995 (isoO 73 rfl rfl rfl rfl) rfl rfl rfl ?_
        exact V_iretN C dX9_as_52 hT (PQ_fail (by decide +kernel) (by unfold S_as; rw [hkw, if_pos c9, if_pos c21, if_neg (nH_m1 (sp_n hS (by omega) (Int32.not_le.mp c42)))]) (EqY.rf σ))
    · refine V_aload_n C dX9_as_24 rfl ?_
      refine V_ldc C dX9_as_25 q994 ?_
      refine V_cv C hE dX9_as_27 (c_X9_finds (j := 0) (by decide +kernel) (by omega)) kyX9_finds q995 (isoO 73 rfl rfl rfl rfl) rfl rfl rfl ?_
      exact V_iretN C dX9_as_30 hT (PQ_fail (by decide +kernel) (by unfold S_as; rw [if_pos c9, if_neg c21]) (EqY.rf σ))

theorem held_p {f : Nat → Int32} (h : SpV f) {i : Nat} (hi : i < 10) (c : 0 ≤ f (63 + i)) : heldN f (i+1) = heldN f i + 1 := if_neg (fun e => by rw [e] at c; exact absurd c (by decide))
theorem held_n {f : Nat → Int32} (h : SpV f) {i : Nat} (hi : i < 10) (c : ¬ 0 ≤ f (63 + i)) : heldN f (i+1) = heldN f i + 0 := by
  have e : heldN f (i+1) = heldN f i := if_pos (sp_n h hi (Int32.not_le.mp c))
  rw [e, Int32.add_zero]

theorem c_X9_held {l : Launch} {E : En} {σ : Sg}  (hS : SpV (σ 74)) : MD l yX9_held cX9_held 3 (some .int) rmX9_held E [.ref (ad E 73)] σ (some (.int (heldN (σ 74) 10))) (σ) := by
  refine MD_of (by decide +kernel) rfl fun x C hE hT hcan => ?_
  have C : CX x cX9_held RX9 rmX9_held := C
  refine V_L (L' := [some (.ref (ad E 73)), none, none]) rfl ?_
  refine V_iconst C 0 dX9_held_0 (by decide) ?_
  refine V_istore_n C dX9_held_1 rfl ?_
  refine V_iconst C 0 dX9_held_2 (by decide) ?_
  refine V_istore_n C dX9_held_3 rfl ?_
  have lp : ∀ (d i : Nat) , i + d = 10 → V x (eA E) (AP x E (σ)) 0 0 4 [some (.ref (ad E 73)), some (.int (heldN (σ 74) i)), some (.int (nI i))] [] := by
    intro d
    induction d with
    | zero =>
      intro i  hi' 
      have hN : i = 10 := by omega
      refine V_iload_n C dX9_held_4 rfl ?_
      refine V_bipush C 10 dX9_held_5 (by decide) ?_
      refine V_icmp_ge C dX9_held_7 (fun c7 => ?_) (fun c7 => absurd (by rw [hN]; decide) c7)
      refine V_iload_n C dX9_held_36 rfl ?_
      exact V_iretD C dX9_held_37 hT (by rw [hN]) rfl
    | succ d ih =>
      intro i  hi' 
      refine V_iload_n C dX9_held_4 rfl ?_
      refine V_bipush C 10 dX9_held_5 (by decide) ?_
      refine V_icmp_ge C dX9_held_7 (fun c7 => absurd c7 (nI_ge (b := 10) (by omega) (by omega))) (fun c7 => ?_)
      refine V_iload_n C dX9_held_10 rfl ?_
      refine V_aload_n C dX9_held_11 rfl ?_
      refine V_get C dX9_held_12 (rdO (j := 0) 73 rfl rfl rfl rfl rfl) in_X9 (by decide) q907 rfl ?_
      refine V_bipush C 63 dX9_held_15 (by decide) ?_
      refine V_iload_n C dX9_held_17 rfl ?_
      refine V_iadd C dX9_held_18 ?_
      refine V_ialdN C (63+i) (nI_add 63 i) (by omega) (by omega) dX9_held_19 (rdM 74 (63+i) rfl rfl (sc63 (by omega))) ?_
      refine V_if_ge C dX9_held_20 (fun c20 => ?_) (fun c20 => ?_)
      · refine V_iconst C 1 dX9_held_27 (by decide) ?_
        refine V_iadd C dX9_held_28 ?_
        refine V_istore_n C dX9_held_29 rfl ?_
        refine V_iinc C 1 dX9_held_30 rfl (by decide) rfl ?_
        refine V_goto C dX9_held_33 ?_
        exact V_nx rfl (by simp only [List.set, nI_1]; first | rw [held_p hS (by omega) c20] | rw [held_n hS (by omega) c20]) (ih (i + 1) (by omega))
      · refine V_iconst C 0 dX9_held_23 (by decide) ?_
        refine V_goto C dX9_held_24 ?_
        refine V_iadd C dX9_held_28 ?_
        refine V_istore_n C dX9_held_29 rfl ?_
        refine V_iinc C 1 dX9_held_30 rfl (by decide) rfl ?_
        refine V_goto C dX9_held_33 ?_
        exact V_nx rfl (by simp only [List.set, nI_1]; first | rw [held_p hS (by omega) c20] | rw [held_n hS (by omega) c20]) (ih (i + 1) (by omega))
  exact lp 10 0 (by omega)

theorem c_X9_count {l : Launch} {E : En} {σ : Sg} {p0 : Int32}  (hS : SpV (σ 74)) : MN l yX9_count cX9_count 2 (some .int) rmX9_count E [.ref (ad E 73), .int p0] σ (PQ σ (S_count (σ 74) (σ 73 17) p0) (σ)) := by
  refine MN_of (by decide +kernel) rfl fun x C hE hT hcan => ?_
  have C : CX x cX9_count RX9 rmX9_count := C
  refine V_L (L' := [some (.ref (ad E 73)), some (.int p0)]) rfl ?_
  refine V_iload_n C dX9_count_0 rfl ?_
  rcases sw7 p0 with rfl | rfl | rfl | rfl | rfl | rfl | rfl | rfl | hsw
  · refine V_tableIn (tgt := 48) C dX9_count_1 (by decide) (by decide) rfl (by decide) ?_
    refine V_aload_n C dX9_count_48 rfl ?_
    refine V_get C dX9_count_49 (rdO (j := 0) 73 rfl rfl rfl rfl rfl) in_X9 (by decide) q907 rfl ?_
    refine V_iconst C 0 dX9_count_52 (by decide) ?_
    refine V_iald C 0 rfl rfl rfl dX9_count_53 (rdM 74 0 rfl rfl rfl) ?_
    exact V_iretN C dX9_count_54 hT (PQ_rd (by rfl) (EqY.rf σ))
  · refine V_tableIn (tgt := 55) C dX9_count_1 (by decide) (by decide) rfl (by decide) ?_
    refine V_aload_n C dX9_count_55 rfl ?_
    refine V_get C dX9_count_56 (rdO (j := 0) 73 rfl rfl rfl rfl rfl) in_X9 (by decide) q907 rfl ?_
    refine V_iconst C 1 dX9_count_59 (by decide) ?_
    refine V_iald C 1 rfl rfl rfl dX9_count_60 (rdM 74 1 rfl rfl rfl) ?_
    exact V_iretN C dX9_count_61 hT (PQ_rd (by rfl) (EqY.rf σ))
  · refine V_tableIn (tgt := 62) C dX9_count_1 (by decide) (by decide) rfl (by decide) ?_
    refine V_aload_n C dX9_count_62 rfl ?_
    refine V_iconst C 3 dX9_count_63 (by decide) ?_
    refine V_cv C hE dX9_count_64 (c_X9_sumOf (j := 3) rfl (by omega)) kyX9_sumOf q1086 (isoO 73 rfl rfl rfl rfl) rfl rfl rfl ?_
    exact V_iretN C dX9_count_67 hT (PQ_rd (by rfl) (EqY.rf σ))
  · refine V_tableIn (tgt := 68) C dX9_count_1 (by decide) (by decide) rfl (by decide) ?_
    refine V_aload_n C dX9_count_68 rfl ?_
    refine V_iconst C 5 dX9_count_69 (by decide) ?_
    refine V_cv C hE dX9_count_70 (c_X9_sumOf (j := 5) rfl (by omega)) kyX9_sumOf q1086 (isoO 73 rfl rfl rfl rfl) rfl rfl rfl ?_
    exact V_iretN C dX9_count_73 hT (PQ_rd (by rfl) (EqY.rf σ))
  · refine V_tableIn (tgt := 74) C dX9_count_1 (by decide) (by decide) rfl (by decide) ?_
    refine V_aload_n C dX9_count_74 rfl ?_
    refine V_iconst C 1 dX9_count_75 (by decide) ?_
    refine V_cv C hE dX9_count_76 (c_X9_sumOf (j := 1) rfl (by omega)) kyX9_sumOf q1086 (isoO 73 rfl rfl rfl rfl) rfl rfl rfl ?_
    exact V_iretN C dX9_count_79 hT (PQ_rd (by rfl) (EqY.rf σ))
  · refine V_tableIn (tgt := 80) C dX9_count_1 (by decide) (by decide) rfl (by decide) ?_
    refine V_aload_n C dX9_count_80 rfl ?_
    refine V_get C dX9_count_81 (rdO (j := 17) 73 rfl rfl rfl rfl rfl) in_X9 (by decide) q924 rfl ?_
    exact V_iretN C dX9_count_84 hT (PQ_rd (by rfl) (EqY.rf σ))
  · refine V_tableIn (tgt := 85) C dX9_count_1 (by decide) (by decide) rfl (by decide) ?_
    refine V_aload_n C dX9_count_85 rfl ?_
    refine V_get C dX9_count_86 (rdO (j := 0) 73 rfl rfl rfl rfl rfl) in_X9 (by decide) q907 rfl ?_
    refine V_bipush C 7 dX9_count_89 (by decide) ?_
    refine V_iald C 7 rfl rfl rfl dX9_count_91 (rdM 74 7 rfl rfl rfl) ?_
    exact V_iretN C dX9_count_92 hT (PQ_rd (by rfl) (EqY.rf σ))
  · refine V_tableIn (tgt := 93) C dX9_count_1 (by decide) (by decide) rfl (by decide) ?_
    refine V_aload_n C dX9_count_93 rfl ?_
    refine V_cv C hE dX9_count_94 (c_X9_held hS) kyX9_held q1432 (isoO 73 rfl rfl rfl rfl) rfl rfl rfl ?_
    exact V_iretN C dX9_count_97 hT (PQ_rd (by rfl) (EqY.rf σ))
  · refine V_tableOut (tgt := 98) C dX9_count_1 (hsw) (by decide) ?_
    refine V_aload_n C dX9_count_98 rfl ?_
    refine V_ldc C dX9_count_99 q994 ?_
    refine V_cv C hE dX9_count_101 (c_X9_finds (j := 0) (by decide +kernel) (by omega)) kyX9_finds q995 (isoO 73 rfl rfl rfl rfl) rfl rfl rfl ?_
    exact V_iretN C dX9_count_104 hT (PQ_fail (by decide +kernel) (by obtain ⟨a0, a1, a2, a3, a4, a5, a6, a7⟩ := sw7n hsw; unfold S_count; rw [if_neg a0, if_neg a1, if_neg a2, if_neg a3, if_neg a4, if_neg a5, if_neg a6, if_neg a7]) (EqY.rf σ))

/-- what status sums -/
def stN (t : Nat → Int32) (w : Int32) : Nat → Int32
  | 0 => 0
  | i + 1 => stN t w i + (if w < 0 ∨ nI i = w then t i else 0)
theorem stN_y {t : Nat → Int32} {w : Int32} {i : Nat} (h : w < 0 ∨ nI i = w) : stN t w (i+1) = stN t w i + t i := by
  show stN t w i + (if w < 0 ∨ nI i = w then t i else 0) = _
  rw [if_pos h]
theorem stN_n {t : Nat → Int32} {w : Int32} {i : Nat} (h : ¬ w < 0) (h2 : ¬ nI i = w) : stN t w (i+1) = stN t w i + 0 := by
  show stN t w i + (if w < 0 ∨ nI i = w then t i else 0) = _
  rw [if_neg (fun q => q.elim h h2)]
theorem stN_all (t : Nat → Int32) : ∀ i, stN t (-1) i = toN t i := by
  intro i
  induction i with
  | zero => rfl
  | succ i ih => show stN t (-1) i + (if (-1 : Int32) < 0 ∨ nI i = -1 then t i else 0) = toN t i + t i; rw [if_pos (Or.inl (by decide)), ih]
theorem stN_one (t : Nat → Int32) {w : Nat} (hw : w < 7) : ∀ i, i ≤ 7 → stN t (nI w) i = if w < i then t w else 0 := by
  intro i
  induction i with
  | zero => intro _; rw [if_neg (by omega)]; rfl
  | succ i ih =>
    intro hi
    show stN t (nI w) i + (if nI w < 0 ∨ nI i = nI w then t i else 0) = _
    rw [ih (by omega)]
    by_cases e : i = w
    · subst e; rw [if_neg (by omega), if_pos (Or.inr rfl), if_pos (by omega), Int32.zero_add]
    · rw [if_neg (show ¬ (nI w < 0 ∨ nI i = nI w) from fun q => q.elim (nI_pos (by omega)) (fun q => e ((nI_eq (by omega) (by omega)).mp q))), Int32.add_zero]
      by_cases q : w < i
      · rw [if_pos q, if_pos (by omega)]
      · rw [if_neg q, if_neg (by omega)]
theorem st_m1 {w : Int32} (h : inP w (-1) 6) : w = -1 ∨ inP w 0 6 := by
  by_cases c : 0 ≤ w
  · exact Or.inr ⟨c, h.2⟩
  · left
    have a := h.1
    have b := Int32.not_le.mp c
    rw [Int32.le_iff_toInt_le] at a
    rw [Int32.lt_iff_toInt_lt] at b
    apply Int32.toInt_inj.mp
    have e1 : (-1 : Int32).toInt = -1 := by decide
    have e0 : (0 : Int32).toInt = 0 := by decide
    rw [e1] at a ⊢; rw [e0] at b; omega
theorem st_eq {t : Nat → Int32} {w : Int32} (h : inP w (-1) 6) : S_status t w = .inr (stN t w 7) := by
  unfold S_status
  rcases st_m1 h with rfl | q
  · rw [if_neg (fun q => absurd q.1 (by decide)), if_pos rfl, stN_all]
  · rw [if_pos q]
    obtain ⟨k, rfl, hk⟩ := i32_le (m := 6) (by omega) q.1 q.2
    rw [hk_n (by omega), stN_one t (by omega) 7 (by omega), if_pos (by omega)]
theorem st_no {t : Nat → Int32} {w : Int32} (h : ¬ inP w (-1) 6) : S_status t w = .inl 0 := by
  unfold S_status
  rw [if_neg (fun q => h ⟨Int32.le_trans (by decide) q.1, q.2⟩), if_neg (fun e => h (by rw [e]; exact ⟨by decide, by decide⟩))]

theorem c_X9_status {l : Launch} {E : En} {σ : Sg} {p0 : Int32}  : MN l yX9_status cX9_status 4 (some .int) rmX9_status E [.ref (ad E 73), .int p0] σ (PQ σ (S_status (σ 77) p0) (σ)) := by
  refine MN_of (by decide +kernel) rfl fun x C hE hT hcan => ?_
  have C : CX x cX9_status RX9 rmX9_status := C
  refine V_L (L' := [some (.ref (ad E 73)), some (.int p0), none, none]) rfl ?_
  refine V_iload_n C dX9_status_0 rfl ?_
  refine V_i2l C dX9_status_1 ?_
  refine V_ldc2 C dX9_status_2 q1440 ?_
  refine V_ldc2 C dX9_status_5 q990 ?_
  refine V_cs C hE dX9_status_8 (c_X9_in (a := p0) (lo := (-1)) (hi := 6) (by decide +kernel) (by decide +kernel)) kyX9_in q991 rfl rfl rfl ?_
  refine V_ifne_b C dX9_status_11 (fun c11 => ?_) (fun c11 => ?_)
  · refine V_iconst C 0 dX9_status_21 (by decide) ?_
    refine V_istore_n C dX9_status_22 rfl ?_
    refine V_iconst C 0 dX9_status_23 (by decide) ?_
    refine V_istore_n C dX9_status_24 rfl ?_
    have lp : ∀ (d i : Nat) , i + d = 7 → V x (eA E) (AP x E (σ)) 0 0 25 [some (.ref (ad E 73)), some (.int p0), some (.int (stN (σ 77) p0 i)), some (.int (nI i))] [] := by
      intro d
      induction d with
      | zero =>
        intro i  hi' 
        have hN : i = 7 := by omega
        refine V_iload_n C dX9_status_25 rfl ?_
        refine V_bipush C 7 dX9_status_26 (by decide) ?_
        refine V_icmp_ge C dX9_status_28 (fun c28 => ?_) (fun c28 => absurd (by rw [hN]; decide) c28)
        refine V_iload_n C dX9_status_59 rfl ?_
        exact V_iretN C dX9_status_60 hT (PQ_rd (by rw [st_eq c11, hN]) (EqY.rf σ))
      | succ d ih =>
        intro i  hi' 
        refine V_iload_n C dX9_status_25 rfl ?_
        refine V_bipush C 7 dX9_status_26 (by decide) ?_
        refine V_icmp_ge C dX9_status_28 (fun c28 => absurd c28 (nI_ge (b := 7) (by omega) (by omega))) (fun c28 => ?_)
        refine V_iload_n C dX9_status_31 rfl ?_
        refine V_iload_n C dX9_status_32 rfl ?_
        refine V_if_lt C dX9_status_33 (fun c33 => ?_) (fun c33 => ?_)
        · refine V_aload_n C dX9_status_41 rfl ?_
          refine V_get C dX9_status_42 (rdO (j := 3) 73 rfl rfl rfl rfl rfl) in_X9 (by decide) q910 rfl ?_
          refine V_iload_n C dX9_status_45 rfl ?_
          refine V_ialdN C i rfl (by omega) (by omega) dX9_status_46 (rdOA 77 rfl rfl rfl) ?_
          try simp (disch := omega) only [us_us, us_s, us_n, sv_74, sv_76, sv_n, sv_bk]
          refine V_goto C dX9_status_47 ?_
          refine V_iadd C dX9_status_51 ?_
          refine V_istore_n C dX9_status_52 rfl ?_
          refine V_iinc C 1 dX9_status_53 rfl (by decide) rfl ?_
          refine V_goto C dX9_status_56 ?_
          exact V_nx rfl (by simp only [List.set, nI_1]; first | rw [stN_y (Or.inl c33)] | rw [stN_y (Or.inr c38)] | rw [stN_n c33 c38]) (ih (i + 1) (by omega))
        · refine V_iload_n C dX9_status_36 rfl ?_
          refine V_iload_n C dX9_status_37 rfl ?_
          refine V_icmp_ne C dX9_status_38 (fun c38 => ?_) (fun c38 => ?_)
          · refine V_iconst C 0 dX9_status_50 (by decide) ?_
            refine V_iadd C dX9_status_51 ?_
            refine V_istore_n C dX9_status_52 rfl ?_
            refine V_iinc C 1 dX9_status_53 rfl (by decide) rfl ?_
            refine V_goto C dX9_status_56 ?_
            exact V_nx rfl (by simp only [List.set, nI_1]; first | rw [stN_y (Or.inl c33)] | rw [stN_y (Or.inr c38)] | rw [stN_n c33 c38]) (ih (i + 1) (by omega))
          · refine V_aload_n C dX9_status_41 rfl ?_
            refine V_get C dX9_status_42 (rdO (j := 3) 73 rfl rfl rfl rfl rfl) in_X9 (by decide) q910 rfl ?_
            refine V_iload_n C dX9_status_45 rfl ?_
            refine V_ialdN C i rfl (by omega) (by omega) dX9_status_46 (rdOA 77 rfl rfl rfl) ?_
            try simp (disch := omega) only [us_us, us_s, us_n, sv_74, sv_76, sv_n, sv_bk]
            refine V_goto C dX9_status_47 ?_
            refine V_iadd C dX9_status_51 ?_
            refine V_istore_n C dX9_status_52 rfl ?_
            refine V_iinc C 1 dX9_status_53 rfl (by decide) rfl ?_
            refine V_goto C dX9_status_56 ?_
            exact V_nx rfl (by simp only [List.set, nI_1]; first | rw [stN_y (Or.inl c33)] | rw [stN_y (Or.inr c38)] | rw [stN_n c33 c38]) (ih (i + 1) (by omega))
    exact lp 7 0 (by omega)
  · refine V_aload_n C dX9_status_14 rfl ?_
    refine V_ldc C dX9_status_15 q994 ?_
    refine V_cv C hE dX9_status_17 (c_X9_finds (j := 0) (by decide +kernel) (by omega)) kyX9_finds q995 (isoO 73 rfl rfl rfl rfl) rfl rfl rfl ?_
    exact V_iretN C dX9_status_20 hT (PQ_fail (by decide +kernel) (st_no c11) (EqY.rf σ))

theorem c_X9_tear {l : Launch} {E : En} {σ : Sg}   : MN l yX9_tear cX9_tear 2 (some .int) rmX9_tear E [.ref (ad E 73)] σ (fun r u => r = some (.int (if σ 73 4 = 0 then 0 else 1)) ∧ u = us σ 73 (upd (σ 73) 4 0)) := by
  refine MN_of (by decide +kernel) rfl fun x C hE hT hcan => ?_
  have C : CX x cX9_tear RX9 rmX9_tear := C
  refine V_L (L' := [some (.ref (ad E 73)), none]) rfl ?_
  refine V_aload_n C dX9_tear_0 rfl ?_
  refine V_get C dX9_tear_1 (rdO (j := 4) 73 rfl rfl rfl rfl rfl) in_X9 (by decide) q911 rfl ?_
  refine V_if_eq C dX9_tear_4 (fun c4 => ?_) (fun c4 => ?_)
  · refine V_iconst C 0 dX9_tear_11 (by decide) ?_
    refine V_istore_n C dX9_tear_12 rfl ?_
    refine V_aload_n C dX9_tear_13 rfl ?_
    refine V_iconst C 0 dX9_tear_14 (by decide) ?_
    refine V_put C dX9_tear_15 (wrO (j := 4) 73 rfl rfl rfl rfl rfl rfl) ft_X9 (by decide) q911 rfl rfl rfl rfl ?_
    refine V_iload_n C dX9_tear_18 rfl ?_
    exact V_iretN C dX9_tear_19 hT (⟨by first | rw [if_pos c4] | rw [if_neg c4], rfl⟩)
  · refine V_iconst C 1 dX9_tear_7 (by decide) ?_
    refine V_goto C dX9_tear_8 ?_
    refine V_istore_n C dX9_tear_12 rfl ?_
    refine V_aload_n C dX9_tear_13 rfl ?_
    refine V_iconst C 0 dX9_tear_14 (by decide) ?_
    refine V_put C dX9_tear_15 (wrO (j := 4) 73 rfl rfl rfl rfl rfl rfl) ft_X9 (by decide) q911 rfl rfl rfl rfl ?_
    refine V_iload_n C dX9_tear_18 rfl ?_
    exact V_iretN C dX9_tear_19 hT (⟨by first | rw [if_pos c4] | rw [if_neg c4], rfl⟩)

theorem c_X9_image {l : Launch} {E : En} {σ : Sg}   : MN l yX9_image cX9_image 2 (some .int) rmX9_image E [.ref (ad E 73)] σ (fun r u => r = some (.int 1) ∧ u = us (us σ 75 (σ 74)) 73 (upd (σ 73) 4 1)) := by
  refine MN_of (by decide +kernel) rfl fun x C hE hT hcan => ?_
  have C : CX x cX9_image RX9 rmX9_image := C
  refine V_L (L' := [some (.ref (ad E 73)), none]) rfl ?_
  refine V_iconst C 0 dX9_image_0 (by decide) ?_
  refine V_istore_n C dX9_image_1 rfl ?_
  refine V_raw fun ρ hA => ?_
  have lp : ∀ (d i : Nat) , i + d = 73 → V x (eA E) (RP x E (us ρ 75 (cpO (ρ 75) (ρ 74) 0 0 i))) 0 0 2 [some (.ref (ad E 73)), some (.int (nI i))] [] := by
    intro d
    induction d with
    | zero =>
      intro i  hi' 
      have hN : i = 73 := by omega
      refine V_iload_n C dX9_image_2 rfl ?_
      refine V_bipush C 73 dX9_image_3 (by decide) ?_
      refine V_icmp_ge C dX9_image_5 (fun c5 => ?_) (fun c5 => absurd (by rw [hN]; decide) c5)
      subst hN
      refine V_pic (hA.cp (c := 75) (d := 74) (by omega) (by omega) (by omega) (by omega)) ?_
      refine V_aload_n C dX9_image_26 rfl ?_
      refine V_iconst C 1 dX9_image_27 (by decide) ?_
      refine V_put C dX9_image_28 (wrO (j := 4) 73 rfl rfl rfl rfl rfl rfl) ft_X9 (by decide) q911 rfl rfl rfl rfl ?_
      try simp only [us_us, us_s]
      refine V_iconst C 1 dX9_image_31 (by decide) ?_
      exact V_iretN C dX9_image_32 hT (⟨rfl, rfl⟩)
    | succ d ih =>
      intro i  hi' 
      refine V_iload_n C dX9_image_2 rfl ?_
      refine V_bipush C 73 dX9_image_3 (by decide) ?_
      refine V_icmp_ge C dX9_image_5 (fun c5 => absurd c5 (nI_ge (b := 73) (by omega) (by omega))) (fun c5 => ?_)
      refine V_aload_n C dX9_image_8 rfl ?_
      refine V_get C dX9_image_9 (rdF (j := 1) (c := 73) (by have := eN_ge E; omega) rfl rfl rfl) in_X9 (by decide) q908 rfl ?_
      refine V_iload_n C dX9_image_12 rfl ?_
      refine V_aload_n C dX9_image_13 rfl ?_
      refine V_get C dX9_image_14 (rdF (j := 0) (c := 73) (by have := eN_ge E; omega) rfl rfl rfl) in_X9 (by decide) q907 rfl ?_
      refine V_iload_n C dX9_image_17 rfl ?_
      refine V_ialdN C i rfl (by omega) (by omega) dX9_image_18 (rdA (c := 74) (by have := eN_ge E; omega) rfl) ?_
      refine V_iastN C i rfl (by omega) (by omega) dX9_image_19 (wrA (c := 75) (by have := eN_ge E; omega) (fun _ => rfl)) ?_
      refine V_iinc C 1 dX9_image_20 rfl (by decide) rfl ?_
      refine V_goto C dX9_image_23 ?_
      exact V_nR (by rw [us_us, us_s, us_n (show (74:Nat) ≠ 75 by decide)]; have e := cpO_s (g := ρ 75) (f := ρ 74) (a := 0) (b := 0) (i := i) (v := ρ 74 i) (by rw [Nat.zero_add]); rw [Nat.zero_add] at e; rw [e]) (by simp [← nI_1] <;> rfl) (ih (i + 1) (by omega))
  exact V_nR (by rw [cpO_0, us_id]) rfl (lp 73 0 (by omega))

def S_undo2 (σ : Sg) : Rs := if σ 73 4 = 0 then .inl 3 else .inr (σ 75 0)

theorem c_X9_undo {l : Launch} {E : En} {σ : Sg}   : MN l yX9_undo cX9_undo 2 (some .int) rmX9_undo E [.ref (ad E 73)] σ (PQ σ (S_undo2 σ) (us σ 74 (σ 75))) := by
  refine MN_of (by decide +kernel) rfl fun x C hE hT hcan => ?_
  have C : CX x cX9_undo RX9 rmX9_undo := C
  refine V_L (L' := [some (.ref (ad E 73)), none]) rfl ?_
  refine V_aload_n C dX9_undo_0 rfl ?_
  refine V_get C dX9_undo_1 (rdO (j := 4) 73 rfl rfl rfl rfl rfl) in_X9 (by decide) q911 rfl ?_
  refine V_if_ne C dX9_undo_4 (fun c4 => ?_) (fun c4 => ?_)
  · refine V_iconst C 0 dX9_undo_14 (by decide) ?_
    refine V_istore_n C dX9_undo_15 rfl ?_
    refine V_raw fun ρ hA => ?_
    have lp : ∀ (d i : Nat) , i + d = 73 → V x (eA E) (RP x E (us ρ 74 (cpO (ρ 74) (ρ 75) 0 0 i))) 0 0 16 [some (.ref (ad E 73)), some (.int (nI i))] [] := by
      intro d
      induction d with
      | zero =>
        intro i  hi' 
        have hN : i = 73 := by omega
        refine V_iload_n C dX9_undo_16 rfl ?_
        refine V_bipush C 73 dX9_undo_17 (by decide) ?_
        refine V_icmp_ge C dX9_undo_19 (fun c19 => ?_) (fun c19 => absurd (by rw [hN]; decide) c19)
        subst hN
        refine V_pic (hA.cp (c := 74) (d := 75) (by omega) (by omega) (by omega) (by omega)) ?_
        refine V_aload_n C dX9_undo_40 rfl ?_
        try rw [us_s]
        refine V_get C dX9_undo_41 (rdO (j := 0) 73 rfl rfl rfl rfl rfl) in_X9 (by decide) q907 rfl ?_
        refine V_iconst C 0 dX9_undo_44 (by decide) ?_
        refine V_iald C 0 rfl rfl rfl dX9_undo_45 (rdM 74 0 rfl rfl rfl) ?_
        try simp only [us_us, us_s]
        exact V_iretN C dX9_undo_46 hT (PQ_ok (by unfold S_undo2; rw [if_neg c4]) (us_n (by omega)) (EqY.rf _))
      | succ d ih =>
        intro i  hi' 
        refine V_iload_n C dX9_undo_16 rfl ?_
        refine V_bipush C 73 dX9_undo_17 (by decide) ?_
        refine V_icmp_ge C dX9_undo_19 (fun c19 => absurd c19 (nI_ge (b := 73) (by omega) (by omega))) (fun c19 => ?_)
        refine V_aload_n C dX9_undo_22 rfl ?_
        refine V_get C dX9_undo_23 (rdF (j := 0) (c := 73) (by have := eN_ge E; omega) rfl rfl rfl) in_X9 (by decide) q907 rfl ?_
        refine V_iload_n C dX9_undo_26 rfl ?_
        refine V_aload_n C dX9_undo_27 rfl ?_
        refine V_get C dX9_undo_28 (rdF (j := 1) (c := 73) (by have := eN_ge E; omega) rfl rfl rfl) in_X9 (by decide) q908 rfl ?_
        refine V_iload_n C dX9_undo_31 rfl ?_
        refine V_ialdN C i rfl (by omega) (by omega) dX9_undo_32 (rdA (c := 75) (by have := eN_ge E; omega) rfl) ?_
        refine V_iastN C i rfl (by omega) (by omega) dX9_undo_33 (wrA (c := 74) (by have := eN_ge E; omega) (fun _ => rfl)) ?_
        refine V_iinc C 1 dX9_undo_34 rfl (by decide) rfl ?_
        refine V_goto C dX9_undo_37 ?_
        exact V_nR (by rw [us_us, us_s, us_n (show (75:Nat) ≠ 74 by decide)]; have e := cpO_s (g := ρ 74) (f := ρ 75) (a := 0) (b := 0) (i := i) (v := ρ 75 i) (by rw [Nat.zero_add]); rw [Nat.zero_add] at e; rw [e]) (by simp [← nI_1] <;> rfl) (ih (i + 1) (by omega))
    exact V_nR (by rw [cpO_0, us_id]) rfl (lp 73 0 (by omega))
  · refine V_aload_n C dX9_undo_7 rfl ?_
    refine V_ldc C dX9_undo_8 q1138 ?_
    refine V_cv C hE dX9_undo_10 (c_X9_finds (j := 3) (by decide +kernel) (by omega)) kyX9_finds q995 (isoO 73 rfl rfl rfl rfl) rfl rfl rfl ?_
    exact V_iretN C dX9_undo_13 hT (PQ_fail (by decide +kernel) (by unfold S_undo2; rw [if_pos c4]) (EqY.rf σ))

