def cutV (b v : Int32) : Int32 := if b = 8 then v.toInt8.toInt32 else if b = 16 then v.toInt16.toInt32 else v
abbrev hasP (a n len : Int32) : Prop := 0 ≤ a ∧ 0 ≤ n ∧ n ≤ len ∧ a ≤ len - n
def zeroN (f : Nat → Int32) : Nat → Nat → Int32
  | 0 => f
  | i + 1 => upd (zeroN f i) i 0

theorem c_X3_isMissing {l : Launch} {E : En} {σ : Sg} {s : Nat} (hs : s < 4) : MD l yX3_isMissing cX3_isMissing 1 (some .boolean) rmX3_isMissing E [.ref (ad E (shc s))] σ (some (.int (bI (σ (shc s) 1 = 0)))) (σ) := by
  refine MD_of (by decide +kernel) rfl fun x C hE hT hcan => ?_
  have C : CX x cX3_isMissing RX3 rmX3_isMissing := C
  have hns : nmc s ≠ shc s := by unfold nmc shc; omega
  have hsn : shc s ≠ nmc s := by unfold nmc shc; omega
  refine V_L (L' := [some (.ref (ad E (shc s)))]) rfl ?_
  refine V_aload_n C dX3_isMissing_0 rfl ?_
  refine V_get C dX3_isMissing_1 (rdShB (by first | assumption | omega)) in_X3 (by decide) q220 rfl ?_
  refine V_if_ne C dX3_isMissing_4 (fun c4 => ?_) (fun c4 => ?_)
  · refine V_iconst C 0 dX3_isMissing_11 (by decide) ?_
    exact V_zretD C dX3_isMissing_12 hT (by simp [bI, c4]) rfl
  · refine V_iconst C 1 dX3_isMissing_7 (by decide) ?_
    refine V_goto C dX3_isMissing_8 ?_
    exact V_zretD C dX3_isMissing_12 hT (by simp [bI, c4]) rfl

theorem c_X3_has {l : Launch} {E : En} {σ : Sg} {s : Nat} {p0 p1 : Int32} (hs : s < 4) : MD l yX3_has cX3_has 3 (some .boolean) rmX3_has E [.ref (ad E (shc s)), .int p0, .int p1] σ (some (.int (bI (hasP p0 p1 (σ (shc s) 2))))) (σ) := by
  refine MD_of (by decide +kernel) rfl fun x C hE hT hcan => ?_
  have C : CX x cX3_has RX3 rmX3_has := C
  have hns : nmc s ≠ shc s := by unfold nmc shc; omega
  have hsn : shc s ≠ nmc s := by unfold nmc shc; omega
  refine V_L (L' := [some (.ref (ad E (shc s))), some (.int p0), some (.int p1)]) rfl ?_
  refine V_iload_n C dX3_has_0 rfl ?_
  refine V_if_lt C dX3_has_1 (fun c1 => ?_) (fun c1 => ?_)
  · refine V_iconst C 0 dX3_has_30 (by decide) ?_
    exact V_zretD C dX3_has_31 hT (by first | exact (bI_t ⟨Int32.not_lt.mp c1, Int32.not_lt.mp c5, Int32.not_lt.mp c13, Int32.not_lt.mp c23⟩).symm | exact (bI_f (fun q => absurd (Int32.lt_of_lt_of_le c1 q.1) (Int32.lt_irrefl _))).symm | exact (bI_f (fun q => absurd q.1 (Int32.not_le.mpr c1))).symm | exact (bI_f (fun q => absurd q.2.1 (Int32.not_le.mpr c5))).symm | exact (bI_f (fun q => absurd q.2.2.1 (Int32.not_le.mpr c13))).symm | exact (bI_f (fun q => absurd q.2.2.2 (Int32.not_le.mpr c23))).symm) rfl
  · refine V_iload_n C dX3_has_4 rfl ?_
    refine V_if_lt C dX3_has_5 (fun c5 => ?_) (fun c5 => ?_)
    · refine V_iconst C 0 dX3_has_30 (by decide) ?_
      exact V_zretD C dX3_has_31 hT (by first | exact (bI_t ⟨Int32.not_lt.mp c1, Int32.not_lt.mp c5, Int32.not_lt.mp c13, Int32.not_lt.mp c23⟩).symm | exact (bI_f (fun q => absurd (Int32.lt_of_lt_of_le c1 q.1) (Int32.lt_irrefl _))).symm | exact (bI_f (fun q => absurd q.1 (Int32.not_le.mpr c1))).symm | exact (bI_f (fun q => absurd q.2.1 (Int32.not_le.mpr c5))).symm | exact (bI_f (fun q => absurd q.2.2.1 (Int32.not_le.mpr c13))).symm | exact (bI_f (fun q => absurd q.2.2.2 (Int32.not_le.mpr c23))).symm) rfl
    · refine V_iload_n C dX3_has_8 rfl ?_
      refine V_aload_n C dX3_has_9 rfl ?_
      refine V_get C dX3_has_10 (rdShL (by first | assumption | omega)) in_X3 (by decide) q222 rfl ?_
      refine V_icmp_gt C dX3_has_13 (fun c13 => ?_) (fun c13 => ?_)
      · refine V_iconst C 0 dX3_has_30 (by decide) ?_
        exact V_zretD C dX3_has_31 hT (by first | exact (bI_t ⟨Int32.not_lt.mp c1, Int32.not_lt.mp c5, Int32.not_lt.mp c13, Int32.not_lt.mp c23⟩).symm | exact (bI_f (fun q => absurd (Int32.lt_of_lt_of_le c1 q.1) (Int32.lt_irrefl _))).symm | exact (bI_f (fun q => absurd q.1 (Int32.not_le.mpr c1))).symm | exact (bI_f (fun q => absurd q.2.1 (Int32.not_le.mpr c5))).symm | exact (bI_f (fun q => absurd q.2.2.1 (Int32.not_le.mpr c13))).symm | exact (bI_f (fun q => absurd q.2.2.2 (Int32.not_le.mpr c23))).symm) rfl
      · refine V_iload_n C dX3_has_16 rfl ?_
        refine V_aload_n C dX3_has_17 rfl ?_
        refine V_get C dX3_has_18 (rdShL (by first | assumption | omega)) in_X3 (by decide) q222 rfl ?_
        refine V_iload_n C dX3_has_21 rfl ?_
        refine V_isub C dX3_has_22 ?_
        refine V_icmp_gt C dX3_has_23 (fun c23 => ?_) (fun c23 => ?_)
        · refine V_iconst C 0 dX3_has_30 (by decide) ?_
          exact V_zretD C dX3_has_31 hT (by first | exact (bI_t ⟨Int32.not_lt.mp c1, Int32.not_lt.mp c5, Int32.not_lt.mp c13, Int32.not_lt.mp c23⟩).symm | exact (bI_f (fun q => absurd (Int32.lt_of_lt_of_le c1 q.1) (Int32.lt_irrefl _))).symm | exact (bI_f (fun q => absurd q.1 (Int32.not_le.mpr c1))).symm | exact (bI_f (fun q => absurd q.2.1 (Int32.not_le.mpr c5))).symm | exact (bI_f (fun q => absurd q.2.2.1 (Int32.not_le.mpr c13))).symm | exact (bI_f (fun q => absurd q.2.2.2 (Int32.not_le.mpr c23))).symm) rfl
        · refine V_iconst C 1 dX3_has_26 (by decide) ?_
          refine V_goto C dX3_has_27 ?_
          exact V_zretD C dX3_has_31 hT (by first | exact (bI_t ⟨Int32.not_lt.mp c1, Int32.not_lt.mp c5, Int32.not_lt.mp c13, Int32.not_lt.mp c23⟩).symm | exact (bI_f (fun q => absurd (Int32.lt_of_lt_of_le c1 q.1) (Int32.lt_irrefl _))).symm | exact (bI_f (fun q => absurd q.1 (Int32.not_le.mpr c1))).symm | exact (bI_f (fun q => absurd q.2.1 (Int32.not_le.mpr c5))).symm | exact (bI_f (fun q => absurd q.2.2.1 (Int32.not_le.mpr c13))).symm | exact (bI_f (fun q => absurd q.2.2.2 (Int32.not_le.mpr c23))).symm) rfl

theorem c_X3_cut {l : Launch} {E : En} {σ : Sg} {s : Nat} {p0 : Int32} (hs : s < 4) : MD l yX3_cut cX3_cut 2 (some .int) rmX3_cut E [.ref (ad E (shc s)), .int p0] σ (some (.int (cutV (σ (shc s) 1) p0))) (σ) := by
  refine MD_of (by decide +kernel) rfl fun x C hE hT hcan => ?_
  have C : CX x cX3_cut RX3 rmX3_cut := C
  have hns : nmc s ≠ shc s := by unfold nmc shc; omega
  have hsn : shc s ≠ nmc s := by unfold nmc shc; omega
  refine V_L (L' := [some (.ref (ad E (shc s))), some (.int p0)]) rfl ?_
  refine V_aload_n C dX3_cut_0 rfl ?_
  refine V_get C dX3_cut_1 (rdShB (by first | assumption | omega)) in_X3 (by decide) q220 rfl ?_
  refine V_bipush C 8 dX3_cut_4 (by decide) ?_
  refine V_icmp_ne C dX3_cut_6 (fun c6 => ?_) (fun c6 => ?_)
  · refine V_aload_n C dX3_cut_12 rfl ?_
    refine V_get C dX3_cut_13 (rdShB (by first | assumption | omega)) in_X3 (by decide) q220 rfl ?_
    refine V_bipush C 16 dX3_cut_16 (by decide) ?_
    refine V_icmp_ne C dX3_cut_18 (fun c18 => ?_) (fun c18 => ?_)
    · refine V_iload_n C dX3_cut_26 rfl ?_
      exact V_iretD C dX3_cut_27 hT (by simp [cutV, c6, c18]) rfl
    · refine V_iload_n C dX3_cut_21 rfl ?_
      refine V_i2s C dX3_cut_22 ?_
      refine V_goto C dX3_cut_23 ?_
      exact V_iretD C dX3_cut_27 hT (by simp [cutV, c6, c18]) rfl
  · refine V_iload_n C dX3_cut_9 rfl ?_
    refine V_i2b C dX3_cut_10 ?_
    exact V_iretD C dX3_cut_11 hT (by simp [cutV, c6]) rfl

theorem c_X3_get {l : Launch} {E : En} {σ : Sg} {s : Nat} {i : Nat} (hs : s < 4) (hi : i < 40) : MD l yX3_get cX3_get 2 (some .int) rmX3_get E [.ref (ad E (shc s)), .int (nI i)] σ (some (.int (σ (nmc s) i))) (σ) := by
  refine MD_of (by decide +kernel) rfl fun x C hE hT hcan => ?_
  have C : CX x cX3_get RX3 rmX3_get := C
  have hns : nmc s ≠ shc s := by unfold nmc shc; omega
  have hsn : shc s ≠ nmc s := by unfold nmc shc; omega
  refine V_L (L' := [some (.ref (ad E (shc s))), some (.int (nI i))]) rfl ?_
  refine V_iload_n C dX3_get_0 rfl ?_
  refine V_if_lt C dX3_get_1 (fun c1 => absurd c1 (nI_pos (by omega))) (fun c1 => ?_)
  refine V_iload_n C dX3_get_4 rfl ?_
  refine V_aload_n C dX3_get_5 rfl ?_
  refine V_get C dX3_get_6 (rdShN (by first | assumption | omega)) in_X3 (by decide) q219 rfl ?_
  refine V_alen C dX3_get_9 (rdNmL hs) rfl ?_
  refine V_icmp_ge C dX3_get_10 (fun c10 => absurd c10 (nI_ge (b := 40) (by omega) (by decide))) (fun c10 => ?_)
  refine V_aload_n C dX3_get_13 rfl ?_
  refine V_get C dX3_get_14 (rdShN (by first | assumption | omega)) in_X3 (by decide) q219 rfl ?_
  refine V_iload_n C dX3_get_17 rfl ?_
  refine V_ialdN C i rfl (hi) (by omega) dX3_get_18 (rdNm hs) ?_
  refine V_goto C dX3_get_19 ?_
  exact V_iretD C dX3_get_23 hT rfl rfl

theorem c_X3_put {l : Launch} {E : En} {σ : Sg} {s : Nat} {i : Nat} {p1 : Int32} (hs : s < 4) (hi : i < 40) : MD l yX3_put cX3_put 3 none rmX3_put E [.ref (ad E (shc s)), .int (nI i), .int p1] σ none (us σ (nmc s) (upd (σ (nmc s)) i (cutV (σ (shc s) 1) p1))) := by
  refine MD_of (by decide +kernel) rfl fun x C hE hT hcan => ?_
  have C : CX x cX3_put RX3 rmX3_put := C
  have hns : nmc s ≠ shc s := by unfold nmc shc; omega
  have hsn : shc s ≠ nmc s := by unfold nmc shc; omega
  refine V_L (L' := [some (.ref (ad E (shc s))), some (.int (nI i)), some (.int p1)]) rfl ?_
  refine V_iload_n C dX3_put_0 rfl ?_
  refine V_if_lt C dX3_put_1 (fun c1 => absurd c1 (nI_pos (by omega))) (fun c1 => ?_)
  refine V_iload_n C dX3_put_4 rfl ?_
  refine V_aload_n C dX3_put_5 rfl ?_
  refine V_get C dX3_put_6 (rdShN (by first | assumption | omega)) in_X3 (by decide) q219 rfl ?_
  refine V_alen C dX3_put_9 (rdNmL hs) rfl ?_
  refine V_icmp_ge C dX3_put_10 (fun c10 => absurd c10 (nI_ge (b := 40) (by omega) (by decide))) (fun c10 => ?_)
  refine V_aload_n C dX3_put_13 rfl ?_
  refine V_get C dX3_put_14 (rdShN (by first | assumption | omega)) in_X3 (by decide) q219 rfl ?_
  refine V_iload_n C dX3_put_17 rfl ?_
  refine V_aload_n C dX3_put_18 rfl ?_
  refine V_iload_n C dX3_put_19 rfl ?_
  refine V_cv C hE dX3_put_20 (c_X3_cut hs) kyX3_cut q830 (isoSh (by first | assumption | omega)) rfl rfl rfl ?_
  refine V_iastN C i rfl (hi) (by omega) dX3_put_23 (wrNm hs) ?_
  exact V_retD C dX3_put_24 hT rfl

theorem c_X3_begin {l : Launch} {E : En} {σ : Sg} {s : Nat} {p0 p1 : Int32} (hs : s < 4) : MD l yX3_begin cX3_begin 4 none rmX3_begin E [.ref (ad E (shc s)), .int p0, .int p1] σ none (us (us σ (shc s) (upd (upd (σ (shc s)) 1 p0) 2 p1)) (nmc s) (zeroN (σ (nmc s)) 40)) := by
  refine MD_of (by decide +kernel) rfl fun x C hE hT hcan => ?_
  have C : CX x cX3_begin RX3 rmX3_begin := C
  have hns : nmc s ≠ shc s := by unfold nmc shc; omega
  have hsn : shc s ≠ nmc s := by unfold nmc shc; omega
  refine V_L (L' := [some (.ref (ad E (shc s))), some (.int p0), some (.int p1), none]) rfl ?_
  have lp : ∀ (d i : Nat), i + d = 40 → V x (eA E) (AP x E (us (us σ (shc s) (upd (upd (σ (shc s)) 1 p0) 2 p1)) (nmc s) (zeroN (σ (nmc s)) i))) 0 0 12 [some (.ref (ad E (shc s))), some (.int p0), some (.int p1), some (.int (nI i))] [] := by
    intro d
    induction d with
    | zero =>
      intro i hi'
      have hN : i = 40 := by omega
      refine V_iload_n C dX3_begin_12 rfl ?_
      refine V_aload_n C dX3_begin_13 rfl ?_
      refine V_get C dX3_begin_14 (rdShN (by first | assumption | omega)) in_X3 (by decide) q219 rfl ?_
      refine V_alen C dX3_begin_17 (rdNmL hs) rfl ?_
      refine V_icmp_ge C dX3_begin_18 (fun c18 => ?_) (fun c18 => absurd (nI_le (a := 40) (by omega) (by omega)) c18)
      exact V_retD C dX3_begin_34 hT (by rw [hN])
    | succ d ih =>
      intro i hi'
      refine V_iload_n C dX3_begin_12 rfl ?_
      refine V_aload_n C dX3_begin_13 rfl ?_
      refine V_get C dX3_begin_14 (rdShN (by first | assumption | omega)) in_X3 (by decide) q219 rfl ?_
      refine V_alen C dX3_begin_17 (rdNmL hs) rfl ?_
      refine V_icmp_ge C dX3_begin_18 (fun c18 => absurd c18 (nI_ge (b := 40) (by omega) (by decide))) (fun c18 => ?_)
      refine V_aload_n C dX3_begin_21 rfl ?_
      refine V_get C dX3_begin_22 (rdShN (by first | assumption | omega)) in_X3 (by decide) q219 rfl ?_
      refine V_iload_n C dX3_begin_25 rfl ?_
      refine V_iconst C 0 dX3_begin_26 (by decide) ?_
      refine V_iastN C i rfl (by omega) (by omega) dX3_begin_27 (wrNm hs) ?_
      refine V_iinc C 1 dX3_begin_28 rfl (by decide) rfl ?_
      refine V_goto C dX3_begin_31 ?_
      exact V_nx (by simp only [us_us, us_s]; rfl) (by simp [← nI_1] <;> rfl) (ih (i + 1) (by omega))
  refine V_aload_n C dX3_begin_0 rfl ?_
  refine V_iload_n C dX3_begin_1 rfl ?_
  refine V_put C dX3_begin_2 (wrShB (by first | assumption | omega)) ft_X3 (by decide) q220 rfl rfl rfl rfl ?_
  try simp only [us_us, us_s]
  refine V_aload_n C dX3_begin_5 rfl ?_
  refine V_iload_n C dX3_begin_6 rfl ?_
  refine V_put C dX3_begin_7 (wrShL (by first | assumption | omega)) ft_X3 (by decide) q222 rfl rfl rfl rfl ?_
  try simp only [us_us, us_s]
  refine V_iconst C 0 dX3_begin_10 (by decide) ?_
  refine V_istore_n C dX3_begin_11 rfl ?_
  exact V_nx (by show _ = us (us σ (shc s) (upd (upd (σ (shc s)) 1 p0) 2 p1)) (nmc s) (σ (nmc s)); have e := us_id (us σ (shc s) (upd (upd (σ (shc s)) 1 p0) 2 p1)) (nmc s); rw [us_n hns] at e; exact e.symm) rfl (lp 40 0 (by omega))

