/-- what stands behind an item that is fit: the end, a sign and more, or a fault -/
def tlT (t : Nat → Int32) (n F c s : Nat) (r : Nat → Int32) : Nat ⊕ (Nat × (Nat → Int32)) := if s < n then (if t s = 59 then txT t n F (c + 1) (nxT t n s) r else .inl s) else .inr (c, r)
theorem tx_tl {t : Nat → Int32} {n F c s : Nat} {r : Nat → Int32} : txT t n (F + 1) c s r = bdT (itT t n s r) fun a => tlT t n F c a.1 a.2 := rfl
/-- what the text leaves of the reference -/
def N_textM (σ : Sg) (n : Nat) : Sg := us (us σ 73 (upd (σ 73) 17 0)) 74 (match S_text (σ 80) n (σ 74) with
  | .inl _ => σ 74
  | .inr a => a.2)
theorem VF_n {f : Nat → Int32} {a b c d : Int32} {j : Nat} (h : ¬ SY j) : VF f a b c d j = f j := by
  unfold VF
  rw [upd_n (fun e => h (by unfold SY; omega)), upd_n (fun e => h (by unfold SY; omega)), upd_n (fun e => h (by unfold SY; omega)), upd_n (fun e => h (by unfold SY; omega))]
theorem svS_n {σ : Sg} {c : Nat} (h : c ≠ 76) : svS σ c = σ c := us_n h
theorem tm_eq {σ : Sg} {n s : Nat} {v w : Int32} {g q : Nat → Int32} (hq : q = match S_text (σ 80) n (σ 74) with
  | .inl _ => σ 74
  | .inr a => a.2) : EqY (N_textM σ n) (us (us (ZQ (svS σ) (svS σ 73) n s v w g) 73 (upd (VF (svS σ 73) (nI s) (nI (enT (σ 80) n s)) v w) 17 0)) 74 q) := by
  subst hq
  refine ⟨fun c hc => ?_, fun j hj => ?_⟩
  · have hc' : ¬ (c = 73 ∨ c = 76 ∨ c = 10 ∨ c = 11 ∨ c = 79 ∨ c = 84) := hc
    unfold N_textM
    by_cases e : c = 74
    · subst e; rw [us_s, us_s]
    · rw [us_n e, us_n e, us_n (by omega), us_n (by omega)]
      unfold ZQ
      rw [us_n e, us_n (by omega), svS_n (by omega)]
  · unfold N_textM
    simp (disch := omega) only [us_n, us_s, svS_n]
    by_cases e : j = 17
    · subst e; rw [upd_s, upd_s]
    · rw [upd_n e, upd_n e, VF_n hj]
theorem ZQ_of {σ : Sg} {f : Nat → Int32} {n s : Nat} {v w : Int32} : us σ 73 (VF f (nI s) (nI (enT (σ 80) n s)) v w) = ZQ σ f n s v w (σ 74) := by
  unfold ZQ
  have e := us_id (us σ 73 (VF f (nI s) (nI (enT (σ 80) n s)) v w)) 74
  rw [us_n (by omega)] at e
  exact e.symm
theorem ZQ_id {σ : Sg} {f r : Nat → Int32} {n s : Nat} {v w : Int32} : us (us (ZQ σ f n s v w r) 73 (upd (VF f (nI s) (nI (enT (σ 80) n s)) v w) 17 0)) 74 r = us (ZQ σ f n s v w r) 73 (upd (VF f (nI s) (nI (enT (σ 80) n s)) v w) 17 0) := by
  unfold ZQ
  rw [us_comm (c := 74) (d := 73) (by omega), us_us, us_us]

theorem tm_fin {σ τ : Sg} {f g : Nat → Int32} {n p : Nat} {v : Int32} (hτ : τ = svS σ) (hf : f = τ 73) (hS : S_text (σ 80) n (σ 74) = .inl p) : EqY (N_textM σ n) (us (us (ZQ τ f n p v 1 g) 73 (upd (VF f (nI p) (nI (enT (τ 80) n p)) v 1) 17 0)) 74 (us (ZQ τ f n p v 1 g) 73 (upd (VF f (nI p) (nI (enT (τ 80) n p)) v 1) 17 0) 76)) := by
  subst hf hτ
  have e : us (ZQ (svS σ) (svS σ 73) n p v 1 g) 73 (upd (VF (svS σ 73) (nI p) (nI (enT (svS σ 80) n p)) v 1) 17 0) 76 = σ 74 := by
    rw [us_n (by omega)]; unfold ZQ; rw [us_n (by omega), us_n (by omega)]; exact us_s _ _ _
  rw [e, svS_n (c := 80) (by omega)]
  exact tm_eq (by rw [hS])
theorem tm_fit {σ τ : Sg} {f g : Nat → Int32} {n s c : Nat} {v : Int32} (hτ : τ = svS σ) (hf : f = τ 73) (hS : S_text (σ 80) n (σ 74) = .inr (c, g)) : EqY (N_textM σ n) (us (ZQ τ f n s v 0 g) 73 (upd (VF f (nI s) (nI (enT (τ 80) n s)) v 0) 17 0)) := by
  subst hf hτ
  rw [← ZQ_id, svS_n (c := 80) (by omega)]
  exact tm_eq (by rw [hS])

theorem c_X9_text {l : Launch} {E : En} {σ : Sg} {n : Nat} (hnl : σ 73 17 = nI n) (hn : n ≤ 120) : MN l yX9_text cX9_text 2 (some .int) rmX9_text E [.ref (ad E 73)] σ (PQ σ (.inr (rtT (S_text (σ 80) n (σ 74)))) (N_textM σ n)) := by
  refine MN_of (by decide +kernel) rfl fun x C hE hT hcan => ?_
  have C : CX x cX9_text RX9 rmX9_text := C
  refine V_L (L' := [some (.ref (ad E 73)), none]) rfl ?_
  refine V_aload_n C dX9_text_0 rfl ?_
  refine V_cv0 C hE dX9_text_1 (c_X9_savesV) kyX9_saves q1122 (isoO 73 rfl rfl rfl rfl) rfl rfl rfl ?_
  try simp only [us_us, us_s]
  obtain ⟨τ, hτ⟩ : ∃ τ, τ = svS σ := ⟨_, rfl⟩
  rw [← hτ]
  obtain ⟨f, hf⟩ : ∃ f, f = τ 73 := ⟨_, rfl⟩
  have h17 : f 17 = nI n := by rw [hf, hτ, svS_n (by omega)]; exact hnl
  have h80 : τ 80 = σ 80 := by rw [hτ, svS_n (by omega)]
  have h74 : τ 74 = σ 74 := by rw [hτ, svS_n (by omega)]
  have jw : ∀ (cnt p : Nat) (v : Int32) (g : Nat → Int32), p ≤ n → S_text (σ 80) n (σ 74) = .inl p → V x (eA E) (AP x E (ZQ τ f n p v 1 g)) 0 0 24 [some (.ref (ad E 73)), some (.int (nI cnt))] [] := by
    intro cnt p v g hp hS
    refine V_aload_n C dX9_text_24 rfl ?_
    refine V_get C dX9_text_25 (rdO (j := 21) 73 rfl rfl rfl rfl rfl) in_X9 (by decide) q928 rfl ?_
    try simp (disch := omega) only [ZQ_73, ZQ_74, ZQ_80, ZQ_u74, ZQ_u73, us_us, us_s, us_n, h17, VF_18, VF_19, VF_20, VF_21, VF_g17, VF_g18, VF_g19, VF_g20, VF_g21]
    refine V_if_ne C dX9_text_28 (fun c28 => ?_) (fun c28 => absurd c28 (by decide))
    refine V_aload_n C dX9_text_74 rfl ?_
    refine V_iconst C 0 dX9_text_75 (by decide) ?_
    refine V_put C dX9_text_76 (wrO (j := 17) 73 rfl rfl rfl rfl rfl rfl) ft_X9 (by decide) q924 rfl rfl rfl rfl ?_
    try simp (disch := omega) only [ZQ_73, ZQ_74, ZQ_80, ZQ_u74, ZQ_u73, us_us, us_s, us_n, h17, VF_18, VF_19, VF_20, VF_21, VF_g17, VF_g18, VF_g19, VF_g20, VF_g21]
    refine V_aload_n C dX9_text_79 rfl ?_
    refine V_get C dX9_text_80 (rdO (j := 21) 73 rfl rfl rfl rfl rfl) in_X9 (by decide) q928 rfl ?_
    try simp (disch := omega) only [ZQ_73, ZQ_74, ZQ_80, ZQ_u74, ZQ_u73, us_us, us_s, us_n, h17, VF_18, VF_19, VF_20, VF_21, VF_g17, VF_g18, VF_g19, VF_g20, VF_g21]
    refine V_if_eq C dX9_text_83 (fun c83 => absurd c83 (show ¬ (1 : Int32) = 0 by decide)) (fun c83 => ?_)
    refine V_aload_n C dX9_text_86 rfl ?_
    refine V_cv0 C hE dX9_text_87 (c_X9_putsBack) kyX9_putsBack q1130 (isoO 73 rfl rfl rfl rfl) rfl rfl rfl ?_
    try simp (disch := omega) only [ZQ_73, ZQ_74, ZQ_80, ZQ_u74, ZQ_u73, us_us, us_s, us_n, h17, VF_18, VF_19, VF_20, VF_21, VF_g17, VF_g18, VF_g19, VF_g20, VF_g21]
    refine V_iconst C (-1) dX9_text_90 (by decide) ?_
    refine V_aload_n C dX9_text_91 rfl ?_
    refine V_get C dX9_text_92 (rdO (j := 18) 73 rfl rfl rfl rfl rfl) in_X9 (by decide) q925 rfl ?_
    try simp (disch := omega) only [ZQ_73, ZQ_74, ZQ_80, ZQ_u74, ZQ_u73, us_us, us_s, us_n, h17, VF_18, VF_19, VF_20, VF_21, VF_g17, VF_g18, VF_g19, VF_g20, VF_g21]
    refine V_isub C dX9_text_95 ?_
    exact V_iretN C dX9_text_96 hT (PQ_ok (v := -1 - nI p) (by rw [hS]; rfl) rfl (tm_fin hτ hf hS))
  have lp : ∀ (F cnt s : Nat) (v : Int32) (g : Nat → Int32), s ≤ n → n < F + s → S_text (σ 80) n (σ 74) = tlT (τ 80) n F cnt s g → V x (eA E) (AP x E (ZQ τ f n s v 0 g)) 0 0 24 [some (.ref (ad E 73)), some (.int (nI cnt))] [] := by
    intro F
    induction F with
    | zero =>
      intro cnt s v g hs hF hS
      have hsn : ¬ s < n := by omega
      have hE : S_text (σ 80) n (σ 74) = .inr (cnt, g) := by rw [hS]; unfold tlT; rw [if_neg hsn]
      refine V_aload_n C dX9_text_24 rfl ?_
      refine V_get C dX9_text_25 (rdO (j := 21) 73 rfl rfl rfl rfl rfl) in_X9 (by decide) q928 rfl ?_
      try simp (disch := omega) only [ZQ_73, ZQ_74, ZQ_80, ZQ_u74, ZQ_u73, us_us, us_s, us_n, h17, VF_18, VF_19, VF_20, VF_21, VF_g17, VF_g18, VF_g19, VF_g20, VF_g21]
      refine V_if_ne C dX9_text_28 (fun c28 => absurd (rfl) c28) (fun c28 => ?_)
      refine V_aload_n C dX9_text_31 rfl ?_
      refine V_get C dX9_text_32 (rdO (j := 18) 73 rfl rfl rfl rfl rfl) in_X9 (by decide) q925 rfl ?_
      try simp (disch := omega) only [ZQ_73, ZQ_74, ZQ_80, ZQ_u74, ZQ_u73, us_us, us_s, us_n, h17, VF_18, VF_19, VF_20, VF_21, VF_g17, VF_g18, VF_g19, VF_g20, VF_g21]
      refine V_aload_n C dX9_text_35 rfl ?_
      refine V_get C dX9_text_36 (rdO (j := 17) 73 rfl rfl rfl rfl rfl) in_X9 (by decide) q924 rfl ?_
      try simp (disch := omega) only [ZQ_73, ZQ_74, ZQ_80, ZQ_u74, ZQ_u73, us_us, us_s, us_n, h17, VF_18, VF_19, VF_20, VF_21, VF_g17, VF_g18, VF_g19, VF_g20, VF_g21]
      refine V_icmp_ge C dX9_text_39 (fun c39 => ?_) (fun c39 => absurd (nI_le (by omega) (by omega)) c39)
      refine V_aload_n C dX9_text_74 rfl ?_
      refine V_iconst C 0 dX9_text_75 (by decide) ?_
      refine V_put C dX9_text_76 (wrO (j := 17) 73 rfl rfl rfl rfl rfl rfl) ft_X9 (by decide) q924 rfl rfl rfl rfl ?_
      try simp (disch := omega) only [ZQ_73, ZQ_74, ZQ_80, ZQ_u74, ZQ_u73, us_us, us_s, us_n, h17, VF_18, VF_19, VF_20, VF_21, VF_g17, VF_g18, VF_g19, VF_g20, VF_g21]
      refine V_aload_n C dX9_text_79 rfl ?_
      refine V_get C dX9_text_80 (rdO (j := 21) 73 rfl rfl rfl rfl rfl) in_X9 (by decide) q928 rfl ?_
      try simp (disch := omega) only [ZQ_73, ZQ_74, ZQ_80, ZQ_u74, ZQ_u73, us_us, us_s, us_n, h17, VF_18, VF_19, VF_20, VF_21, VF_g17, VF_g18, VF_g19, VF_g20, VF_g21]
      refine V_if_eq C dX9_text_83 (fun c83 => ?_) (fun c83 => absurd (rfl) c83)
      refine V_iload_n C dX9_text_97 rfl ?_
      exact V_iretN C dX9_text_98 hT (PQ_ok (v := nI cnt) (by rw [hE]; rfl) rfl (tm_fit hτ hf hE))
    | succ F ih =>
      intro cnt s v g hs hF hS
      by_cases hsn : s < n
      · by_cases h59 : τ 80 s = 59
        · refine V_aload_n C dX9_text_24 rfl ?_
          refine V_get C dX9_text_25 (rdO (j := 21) 73 rfl rfl rfl rfl rfl) in_X9 (by decide) q928 rfl ?_
          try simp (disch := omega) only [ZQ_73, ZQ_74, ZQ_80, ZQ_u74, ZQ_u73, us_us, us_s, us_n, h17, VF_18, VF_19, VF_20, VF_21, VF_g17, VF_g18, VF_g19, VF_g20, VF_g21]
          refine V_if_ne C dX9_text_28 (fun c28 => absurd (rfl) c28) (fun c28 => ?_)
          refine V_aload_n C dX9_text_31 rfl ?_
          refine V_get C dX9_text_32 (rdO (j := 18) 73 rfl rfl rfl rfl rfl) in_X9 (by decide) q925 rfl ?_
          try simp (disch := omega) only [ZQ_73, ZQ_74, ZQ_80, ZQ_u74, ZQ_u73, us_us, us_s, us_n, h17, VF_18, VF_19, VF_20, VF_21, VF_g17, VF_g18, VF_g19, VF_g20, VF_g21]
          refine V_aload_n C dX9_text_35 rfl ?_
          refine V_get C dX9_text_36 (rdO (j := 17) 73 rfl rfl rfl rfl rfl) in_X9 (by decide) q924 rfl ?_
          try simp (disch := omega) only [ZQ_73, ZQ_74, ZQ_80, ZQ_u74, ZQ_u73, us_us, us_s, us_n, h17, VF_18, VF_19, VF_20, VF_21, VF_g17, VF_g18, VF_g19, VF_g20, VF_g21]
          refine V_icmp_ge C dX9_text_39 (fun c39 => absurd c39 (nI_ge hsn (by omega))) (fun c39 => ?_)
          refine V_aload_n C dX9_text_42 rfl ?_
          refine V_aload_n C dX9_text_43 rfl ?_
          refine V_aload_n C dX9_text_44 rfl ?_
          refine V_get C dX9_text_45 (rdO (j := 18) 73 rfl rfl rfl rfl rfl) in_X9 (by decide) q925 rfl ?_
          try simp (disch := omega) only [ZQ_73, ZQ_74, ZQ_80, ZQ_u74, ZQ_u73, us_us, us_s, us_n, h17, VF_18, VF_19, VF_20, VF_21, VF_g17, VF_g18, VF_g19, VF_g20, VF_g21]
          refine V_cv C hE dX9_text_48 (c_X9_byteAt (n := n) (i := s) (by simp (disch := omega) only [ZQ_73, VF_g17, h17]) (by omega) (by omega)) kyX9_byteAt q1303 (isoO 73 rfl rfl rfl rfl) rfl rfl rfl ?_
          try simp (disch := omega) only [ZQ_73, ZQ_74, ZQ_80, ZQ_u74, ZQ_u73, us_us, us_s, us_n, h17, VF_18, VF_19, VF_20, VF_21, VF_g17, VF_g18, VF_g19, VF_g20, VF_g21]
          refine V_bipush C 59 dX9_text_51 (by decide) ?_
          refine V_icmp_ne C dX9_text_53 (fun c53 => absurd (by rw [bAT_in hsn]; exact h59) c53) (fun c53 => ?_)
          refine V_iconst C 1 dX9_text_56 (by decide) ?_
          refine V_goto C dX9_text_57 ?_
          refine V_cv0 C hE dX9_text_61 (c_needs1 h17 hs hn) kyX9_needs q1342 (isoO 73 rfl rfl rfl rfl) rfl rfl rfl ?_
          try simp (disch := omega) only [ZQ_73, ZQ_74, ZQ_80, ZQ_u74, ZQ_u73, us_us, us_s, us_n, h17, VF_18, VF_19, VF_20, VF_21, VF_g17, VF_g18, VF_g19, VF_g20, VF_g21]
          refine V_aload_n C dX9_text_64 rfl ?_
          refine V_cn C hE dX9_text_65 (c_X9_item h17 (nxT_le hs) hn) kyX9_item q1317 (isoO 73 rfl rfl rfl rfl) rfl rfl rfl ?_
          rintro q u ⟨rfl, v', g', rfl, hg⟩
          rcases hI : itT (τ 80) n (nxT (τ 80) n s) g with p | a
          · refine V_iinc C 1 dX9_text_68 rfl (by decide) rfl ?_
            refine V_goto C dX9_text_71 ?_
            exact V_nx rfl (by simp [← nI_1] <;> rfl) (jw (cnt + 1) p v' g' (it_lf (nxT_le hs) hI) (by rw [hS]; unfold tlT; rw [if_pos hsn, if_pos h59, tx_tl, hI]; rfl))
          · have hg := hg _ hI
            subst hg
            have hgt := it_gt (nxT_le hs) hI
            have hsx := nxT_gt (t := τ 80) hsn
            refine V_iinc C 1 dX9_text_68 rfl (by decide) rfl ?_
            refine V_goto C dX9_text_71 ?_
            exact V_nx rfl (by simp [← nI_1] <;> rfl) (ih (cnt + 1) a.1 v' a.2 hgt.2 (by omega) (by rw [hS]; unfold tlT; rw [if_pos hsn, if_pos h59, tx_tl, hI]; rfl))
        · refine V_aload_n C dX9_text_24 rfl ?_
          refine V_get C dX9_text_25 (rdO (j := 21) 73 rfl rfl rfl rfl rfl) in_X9 (by decide) q928 rfl ?_
          try simp (disch := omega) only [ZQ_73, ZQ_74, ZQ_80, ZQ_u74, ZQ_u73, us_us, us_s, us_n, h17, VF_18, VF_19, VF_20, VF_21, VF_g17, VF_g18, VF_g19, VF_g20, VF_g21]
          refine V_if_ne C dX9_text_28 (fun c28 => absurd (rfl) c28) (fun c28 => ?_)
          refine V_aload_n C dX9_text_31 rfl ?_
          refine V_get C dX9_text_32 (rdO (j := 18) 73 rfl rfl rfl rfl rfl) in_X9 (by decide) q925 rfl ?_
          try simp (disch := omega) only [ZQ_73, ZQ_74, ZQ_80, ZQ_u74, ZQ_u73, us_us, us_s, us_n, h17, VF_18, VF_19, VF_20, VF_21, VF_g17, VF_g18, VF_g19, VF_g20, VF_g21]
          refine V_aload_n C dX9_text_35 rfl ?_
          refine V_get C dX9_text_36 (rdO (j := 17) 73 rfl rfl rfl rfl rfl) in_X9 (by decide) q924 rfl ?_
          try simp (disch := omega) only [ZQ_73, ZQ_74, ZQ_80, ZQ_u74, ZQ_u73, us_us, us_s, us_n, h17, VF_18, VF_19, VF_20, VF_21, VF_g17, VF_g18, VF_g19, VF_g20, VF_g21]
          refine V_icmp_ge C dX9_text_39 (fun c39 => absurd c39 (nI_ge hsn (by omega))) (fun c39 => ?_)
          refine V_aload_n C dX9_text_42 rfl ?_
          refine V_aload_n C dX9_text_43 rfl ?_
          refine V_aload_n C dX9_text_44 rfl ?_
          refine V_get C dX9_text_45 (rdO (j := 18) 73 rfl rfl rfl rfl rfl) in_X9 (by decide) q925 rfl ?_
          try simp (disch := omega) only [ZQ_73, ZQ_74, ZQ_80, ZQ_u74, ZQ_u73, us_us, us_s, us_n, h17, VF_18, VF_19, VF_20, VF_21, VF_g17, VF_g18, VF_g19, VF_g20, VF_g21]
          refine V_cv C hE dX9_text_48 (c_X9_byteAt (n := n) (i := s) (by simp (disch := omega) only [ZQ_73, VF_g17, h17]) (by omega) (by omega)) kyX9_byteAt q1303 (isoO 73 rfl rfl rfl rfl) rfl rfl rfl ?_
          try simp (disch := omega) only [ZQ_73, ZQ_74, ZQ_80, ZQ_u74, ZQ_u73, us_us, us_s, us_n, h17, VF_18, VF_19, VF_20, VF_21, VF_g17, VF_g18, VF_g19, VF_g20, VF_g21]
          refine V_bipush C 59 dX9_text_51 (by decide) ?_
          refine V_icmp_ne C dX9_text_53 (fun c53 => ?_) (fun c53 => absurd c53 (by rw [bAT_in hsn]; exact h59))
          refine V_iconst C 0 dX9_text_60 (by decide) ?_
          refine V_cv0 C hE dX9_text_61 (c_needs0 h17 hs hn) kyX9_needs q1342 (isoO 73 rfl rfl rfl rfl) rfl rfl rfl ?_
          try simp (disch := omega) only [ZQ_73, ZQ_74, ZQ_80, ZQ_u74, ZQ_u73, us_us, us_s, us_n, h17, VF_18, VF_19, VF_20, VF_21, VF_g17, VF_g18, VF_g19, VF_g20, VF_g21]
          refine V_aload_n C dX9_text_64 rfl ?_
          refine V_cv0 C hE dX9_text_65 (c_itemW h17 hs hn) kyX9_item q1317 (isoO 73 rfl rfl rfl rfl) rfl rfl rfl ?_
          try simp (disch := omega) only [ZQ_73, ZQ_74, ZQ_80, ZQ_u74, ZQ_u73, us_us, us_s, us_n, h17, VF_18, VF_19, VF_20, VF_21, VF_g17, VF_g18, VF_g19, VF_g20, VF_g21]
          refine V_iinc C 1 dX9_text_68 rfl (by decide) rfl ?_
          refine V_goto C dX9_text_71 ?_
          exact V_nx rfl (by simp [← nI_1] <;> rfl) (jw (cnt + 1) s v (upd g 5 0) hs (by rw [hS]; unfold tlT; rw [if_pos hsn, if_neg h59]))
      · have hE : S_text (σ 80) n (σ 74) = .inr (cnt, g) := by rw [hS]; unfold tlT; rw [if_neg hsn]
        refine V_aload_n C dX9_text_24 rfl ?_
        refine V_get C dX9_text_25 (rdO (j := 21) 73 rfl rfl rfl rfl rfl) in_X9 (by decide) q928 rfl ?_
        try simp (disch := omega) only [ZQ_73, ZQ_74, ZQ_80, ZQ_u74, ZQ_u73, us_us, us_s, us_n, h17, VF_18, VF_19, VF_20, VF_21, VF_g17, VF_g18, VF_g19, VF_g20, VF_g21]
        refine V_if_ne C dX9_text_28 (fun c28 => absurd (rfl) c28) (fun c28 => ?_)
        refine V_aload_n C dX9_text_31 rfl ?_
        refine V_get C dX9_text_32 (rdO (j := 18) 73 rfl rfl rfl rfl rfl) in_X9 (by decide) q925 rfl ?_
        try simp (disch := omega) only [ZQ_73, ZQ_74, ZQ_80, ZQ_u74, ZQ_u73, us_us, us_s, us_n, h17, VF_18, VF_19, VF_20, VF_21, VF_g17, VF_g18, VF_g19, VF_g20, VF_g21]
        refine V_aload_n C dX9_text_35 rfl ?_
        refine V_get C dX9_text_36 (rdO (j := 17) 73 rfl rfl rfl rfl rfl) in_X9 (by decide) q924 rfl ?_
        try simp (disch := omega) only [ZQ_73, ZQ_74, ZQ_80, ZQ_u74, ZQ_u73, us_us, us_s, us_n, h17, VF_18, VF_19, VF_20, VF_21, VF_g17, VF_g18, VF_g19, VF_g20, VF_g21]
        refine V_icmp_ge C dX9_text_39 (fun c39 => ?_) (fun c39 => absurd (nI_le (by omega) (by omega)) c39)
        refine V_aload_n C dX9_text_74 rfl ?_
        refine V_iconst C 0 dX9_text_75 (by decide) ?_
        refine V_put C dX9_text_76 (wrO (j := 17) 73 rfl rfl rfl rfl rfl rfl) ft_X9 (by decide) q924 rfl rfl rfl rfl ?_
        try simp (disch := omega) only [ZQ_73, ZQ_74, ZQ_80, ZQ_u74, ZQ_u73, us_us, us_s, us_n, h17, VF_18, VF_19, VF_20, VF_21, VF_g17, VF_g18, VF_g19, VF_g20, VF_g21]
        refine V_aload_n C dX9_text_79 rfl ?_
        refine V_get C dX9_text_80 (rdO (j := 21) 73 rfl rfl rfl rfl rfl) in_X9 (by decide) q928 rfl ?_
        try simp (disch := omega) only [ZQ_73, ZQ_74, ZQ_80, ZQ_u74, ZQ_u73, us_us, us_s, us_n, h17, VF_18, VF_19, VF_20, VF_21, VF_g17, VF_g18, VF_g19, VF_g20, VF_g21]
        refine V_if_eq C dX9_text_83 (fun c83 => ?_) (fun c83 => absurd (rfl) c83)
        refine V_iload_n C dX9_text_97 rfl ?_
        exact V_iretN C dX9_text_98 hT (PQ_ok (v := nI cnt) (by rw [hE]; rfl) rfl (tm_fit hτ hf hE))
  refine V_aload_n C dX9_text_4 rfl ?_
  refine V_iconst C 0 dX9_text_5 (by decide) ?_
  refine V_put C dX9_text_6 (wrO (j := 19) 73 rfl rfl rfl rfl rfl rfl) ft_X9 (by decide) q926 rfl rfl rfl rfl ?_
  try simp only [us_us, us_s]
  refine V_aload_n C dX9_text_9 rfl ?_
  refine V_iconst C 0 dX9_text_10 (by decide) ?_
  refine V_put C dX9_text_11 (wrO (j := 21) 73 rfl rfl rfl rfl rfl rfl) ft_X9 (by decide) q928 rfl rfl rfl rfl ?_
  try simp only [us_us, us_s]
  rw [show upd (upd (τ 73) 19 0) 21 0 = VF f (f 18) (nI 0) (f 20) 0 from by rw [hf, ← VF_21 (d := τ 73 21), ← VF_19 (b := τ 73 19), VF_id]; rfl]
  refine V_aload_n C dX9_text_14 rfl ?_
  refine V_cv0 C hE dX9_text_15 (c_X9_token (f := f) (n := n) (e := 0) (a := f 18) (c := f 20) (g := 0) (by rw [us_s]) h17 (Nat.zero_le _) hn) kyX9_token q1299 (isoO 73 rfl rfl rfl rfl) rfl rfl rfl ?_
  rw [us_us, show us τ 73 (VF f (f 18) (nI 0) (f 20) 0) 80 = τ 80 from us_n (by omega), ZQ_of]
  refine V_iconst C 1 dX9_text_18 (by decide) ?_
  refine V_istore_n C dX9_text_19 rfl ?_
  refine V_aload_n C dX9_text_20 rfl ?_
  refine V_cn C hE dX9_text_21 (c_X9_item (σ := τ) (f := f) (n := n) (s := skT (τ 80) n 0) (v := f 20) (r := τ 74) h17 (skT_le (Nat.zero_le _)) hn) kyX9_item q1317 (isoO 73 rfl rfl rfl rfl) rfl rfl rfl ?_
  rintro q u ⟨rfl, v', g', rfl, hg⟩
  have hS1 : S_text (σ 80) n (σ 74) = bdT (itT (τ 80) n (skT (τ 80) n 0) (τ 74)) fun a => tlT (τ 80) n 120 1 a.1 a.2 := by rw [h80, h74]; rfl
  rcases hI : itT (τ 80) n (skT (τ 80) n 0) (τ 74) with p | a
  · exact jw 1 p v' g' (it_lf (skT_le (Nat.zero_le _)) hI) (by rw [hS1, hI]; rfl)
  · have hg := hg _ hI
    subst hg
    have hgt := it_gt (skT_le (Nat.zero_le _)) hI
    exact lp 120 1 a.1 v' a.2 hgt.2 (by omega) (by rw [hS1, hI]; rfl)

