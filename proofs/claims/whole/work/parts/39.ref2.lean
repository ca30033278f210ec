theorem c_X9_getsOf {l : Launch} {E : En} {σ : Sg} {i : Nat} {p1 : Int32} (hi : i < nh (σ 74)) : MD l yX9_getsOf cX9_getsOf 3 none rmX9_getsOf E [.ref (ad E 73), .int (nI i), .int p1] σ none (us σ 74 (getF (σ 74) i p1)) := by
  refine MD_of (by decide +kernel) rfl fun x C hE hT hcan => ?_
  have C : CX x cX9_getsOf RX9 rmX9_getsOf := C
  have h8 : nh (σ 74) ≤ 8 := (hcan.2.1 74 (by omega) (by omega)).2.1
  have hi8 : i < 8 := by omega
  refine V_L (L' := [some (.ref (ad E 73)), some (.int (nI i)), some (.int p1)]) rfl ?_
  refine V_aload_n C dX9_getsOf_0 rfl ?_
  refine V_iload_n C dX9_getsOf_1 rfl ?_
  refine V_cv C hE dX9_getsOf_2 (c_X9_isHouse) kyX9_isHouse q1011 (isoO 73 rfl rfl rfl rfl) rfl rfl rfl ?_
  refine V_ifeq_b C dX9_getsOf_5 (fun c5 => absurd (isH_lt (hcan.2.1 74 (by omega) (by omega)) hi) c5) (fun c5 => ?_)
  refine V_aload_n C dX9_getsOf_8 rfl ?_
  refine V_iload_n C dX9_getsOf_9 rfl ?_
  refine V_iconst C 0 dX9_getsOf_10 (by decide) ?_
  refine V_cv C hE dX9_getsOf_11 (c_X9_its (j := 0) rfl (by first | assumption | omega | (simp (disch := omega) only [us_s, us_n, nh_uh, nh_upd, nh_passN, nh_goF, nh_quarterF]; assumption)) (by omega)) kyX9_its q1016 (isoO 73 rfl rfl rfl rfl) rfl rfl rfl ?_
  refine V_iconst C 1 dX9_getsOf_14 (by decide) ?_
  refine V_icmp_eq C dX9_getsOf_15 (fun c15 => ?_) (fun c15 => ?_)
  · refine V_aload_n C dX9_getsOf_28 rfl ?_
    refine V_iload_n C dX9_getsOf_29 rfl ?_
    refine V_iload_n C dX9_getsOf_30 rfl ?_
    refine V_iconst C 4 dX9_getsOf_31 (by decide) ?_
    refine V_idiv C dX9_getsOf_32 (by decide) ?_
    refine V_cv0 C hE dX9_getsOf_33 (c_X9_warms hi) kyX9_warms q1098 (isoO 73 rfl rfl rfl rfl) rfl rfl rfl ?_
    exact V_retD C dX9_getsOf_36 hT (by unfold getF; first | rw [if_pos (Or.inl c15)] | rw [if_pos (Or.inr c25)] | (rw [if_neg (by rintro (q | q); exact c15 q; exact c25 q), us_id]))
  · refine V_aload_n C dX9_getsOf_18 rfl ?_
    refine V_iload_n C dX9_getsOf_19 rfl ?_
    refine V_iconst C 0 dX9_getsOf_20 (by decide) ?_
    refine V_cv C hE dX9_getsOf_21 (c_X9_its (j := 0) rfl (by first | assumption | omega | (simp (disch := omega) only [us_s, us_n, nh_uh, nh_upd, nh_passN, nh_goF, nh_quarterF]; assumption)) (by omega)) kyX9_its q1016 (isoO 73 rfl rfl rfl rfl) rfl rfl rfl ?_
    refine V_iconst C 3 dX9_getsOf_24 (by decide) ?_
    refine V_icmp_ne C dX9_getsOf_25 (fun c25 => ?_) (fun c25 => ?_)
    · exact V_retD C dX9_getsOf_36 hT (by unfold getF; first | rw [if_pos (Or.inl c15)] | rw [if_pos (Or.inr c25)] | (rw [if_neg (by rintro (q | q); exact c15 q; exact c25 q), us_id]))
    · refine V_aload_n C dX9_getsOf_28 rfl ?_
      refine V_iload_n C dX9_getsOf_29 rfl ?_
      refine V_iload_n C dX9_getsOf_30 rfl ?_
      refine V_iconst C 4 dX9_getsOf_31 (by decide) ?_
      refine V_idiv C dX9_getsOf_32 (by decide) ?_
      refine V_cv0 C hE dX9_getsOf_33 (c_X9_warms hi) kyX9_warms q1098 (isoO 73 rfl rfl rfl rfl) rfl rfl rfl ?_
      exact V_retD C dX9_getsOf_36 hT (by unfold getF; first | rw [if_pos (Or.inl c15)] | rw [if_pos (Or.inr c25)] | (rw [if_neg (by rintro (q | q); exact c15 q; exact c25 q), us_id]))

theorem c_X9_getsOfN {l : Launch} {E : En} {σ : Sg} {p0 p1 : Int32} (hn : ¬ isH (σ 74) p0) : MD l yX9_getsOf cX9_getsOf 3 none rmX9_getsOf E [.ref (ad E 73), .int p0, .int p1] σ none (σ) := by
  refine MD_of (by decide +kernel) rfl fun x C hE hT hcan => ?_
  have C : CX x cX9_getsOf RX9 rmX9_getsOf := C
  refine V_L (L' := [some (.ref (ad E 73)), some (.int p0), some (.int p1)]) rfl ?_
  refine V_aload_n C dX9_getsOf_0 rfl ?_
  refine V_iload_n C dX9_getsOf_1 rfl ?_
  refine V_cv C hE dX9_getsOf_2 (c_X9_isHouse) kyX9_isHouse q1011 (isoO 73 rfl rfl rfl rfl) rfl rfl rfl ?_
  refine V_ifeq_b C dX9_getsOf_5 (fun c5 => ?_) (fun c5 => absurd c5 (hn))
  exact V_retD C dX9_getsOf_36 hT rfl

theorem tick_a {f : Nat → Int32} (h : 0 < f 3) : upd (upd f 3 (f 3 - 1)) 0 (upd f 3 (f 3 - 1) 0 + 1) = tickF f := by
  unfold tickF; rw [if_pos h]
theorem tick_b {f : Nat → Int32} (h : ¬ 0 < f 3) : upd (upd f 3 (f 3 - 0)) 0 (upd f 3 (f 3 - 0) 0 + 1) = tickF f := by
  unfold tickF; rw [if_neg h]
  have e : upd f 3 (f 3 - 0) = f := by rw [Int32.sub_zero, upd_id]
  rw [e]
theorem kool_a {w l : Int32} (h : ¬ 0 ≤ w - l) : 0 = coolV w l := by unfold coolV; rw [if_pos (Int32.not_le.mp h)]
theorem kool_b {w l : Int32} (h : 0 ≤ w - l) : w - l = coolV w l := by unfold coolV; rw [if_neg (Int32.not_lt.mpr h)]
theorem isH_no {f : Nat → Int32} {i m : Nat} (h1 : f 1 = nI m) (hm : m ≤ 8) (hi : ¬ i < m) (hi2 : i < 2 ^ 31) : ¬ isH f (nI i) := by
  rintro ⟨-, q⟩
  rw [h1] at q
  exact hi ((nI_ltI hi2 (by omega)).mp q)
theorem p_of {f : Nat → Int32} {p : Prop} {a : Int32} (hp : p ↔ canB f ∧ a = 0) (h : p) : hx f < nh f ∨ ¬ Can f := by
  by_cases c : Can f
  · exact Or.inl (hx_of c (hp.mp h).1.1).1
  · exact Or.inr c

theorem c_X9_quarter {l : Launch} {E : En} {σ : Sg} {p : Prop} [hdp : Decidable p] (hI : Inv (σ 74)) (hp : p ↔ canB (σ 74) ∧ σ 73 5 = 0) : MD l yX9_quarter cX9_quarter 5 none rmX9_quarter E [.ref (ad E 73)] σ none (us σ 74 (qF p (σ 74))) := by
  refine MD_of (by decide +kernel) rfl fun x C hE hT hcan => ?_
  have C : CX x cX9_quarter RX9 rmX9_quarter := C
  have h8 : nh (σ 74) ≤ 8 := (hcan.2.1 74 (by omega) (by omega)).2.1
  refine V_L (L' := [some (.ref (ad E 73)), none, none, none, none]) rfl ?_
  have j196 : ∀ g2 : Nat → Int32, us σ 74 (qF p (σ 74)) = us σ 74 (tickF g2) → V x (eA E) (AP x E (us σ 74 g2)) 0 0 196 [some (.ref (ad E 73)), some (.int (σ 74 2)), some (.int (bI p)), none, none] [] := by
    intro g2 hg
    refine V_aload_n C dX9_quarter_196 rfl ?_
    refine V_get C dX9_quarter_197 (rdO (j := 0) 73 rfl rfl rfl rfl rfl) in_X9 (by decide) q907 rfl ?_
    refine V_iconst C 3 dX9_quarter_200 (by decide) ?_
    refine V_dup2 C dX9_quarter_201 rfl rfl ?_
    refine V_iald C 3 rfl rfl rfl dX9_quarter_202 (rdM 74 3 rfl rfl rfl) ?_
    try simp only [us_us, us_s]
    refine V_aload_n C dX9_quarter_203 rfl ?_
    refine V_cv C hE dX9_quarter_204 (c_X9_isGoing) kyX9_isGoing q1069 (isoO 73 rfl rfl rfl rfl) rfl rfl rfl ?_
    try simp only [us_us, us_s]
    refine V_ifeq_b C dX9_quarter_207 (fun c207 => ?_) (fun c207 => ?_)
    · refine V_iconst C 0 dX9_quarter_214 (by decide) ?_
      refine V_isub C dX9_quarter_215 ?_
      refine V_iast C 3 rfl rfl rfl dX9_quarter_216 (wrM 74 3 rfl rfl rfl rfl) ?_
      try simp only [us_us, us_s]
      refine V_aload_n C dX9_quarter_217 rfl ?_
      refine V_get C dX9_quarter_218 (rdO (j := 0) 73 rfl rfl rfl rfl rfl) in_X9 (by decide) q907 rfl ?_
      refine V_iconst C 0 dX9_quarter_221 (by decide) ?_
      refine V_dup2 C dX9_quarter_222 rfl rfl ?_
      refine V_iald C 0 rfl rfl rfl dX9_quarter_223 (rdM 74 0 rfl rfl rfl) ?_
      try simp only [us_us, us_s]
      refine V_iconst C 1 dX9_quarter_224 (by decide) ?_
      refine V_iadd C dX9_quarter_225 ?_
      refine V_iast C 0 rfl rfl rfl dX9_quarter_226 (wrM 74 0 rfl rfl rfl rfl) ?_
      try simp only [us_us, us_s]
      exact V_retD C dX9_quarter_227 hT (by rw [hg]; first | rw [← tick_a c207] | rw [← tick_b c207])
    · refine V_iconst C 1 dX9_quarter_210 (by decide) ?_
      refine V_goto C dX9_quarter_211 ?_
      refine V_isub C dX9_quarter_215 ?_
      refine V_iast C 3 rfl rfl rfl dX9_quarter_216 (wrM 74 3 rfl rfl rfl rfl) ?_
      try simp only [us_us, us_s]
      refine V_aload_n C dX9_quarter_217 rfl ?_
      refine V_get C dX9_quarter_218 (rdO (j := 0) 73 rfl rfl rfl rfl rfl) in_X9 (by decide) q907 rfl ?_
      refine V_iconst C 0 dX9_quarter_221 (by decide) ?_
      refine V_dup2 C dX9_quarter_222 rfl rfl ?_
      refine V_iald C 0 rfl rfl rfl dX9_quarter_223 (rdM 74 0 rfl rfl rfl) ?_
      try simp only [us_us, us_s]
      refine V_iconst C 1 dX9_quarter_224 (by decide) ?_
      refine V_iadd C dX9_quarter_225 ?_
      refine V_iast C 0 rfl rfl rfl dX9_quarter_226 (wrM 74 0 rfl rfl rfl rfl) ?_
      try simp only [us_us, us_s]
      exact V_retD C dX9_quarter_227 hT (by rw [hg]; first | rw [← tick_a c207] | rw [← tick_b c207])
  have j113 : V x (eA E) (AP x E (us σ 74 (if p then burnF (σ 74) (hx (σ 74)) else σ 74))) 0 0 113 [some (.ref (ad E 73)), some (.int (σ 74 2)), some (.int (bI p)), none, none] [] := by
    have hng : nh (if p then burnF (σ 74) (hx (σ 74)) else σ 74) = nh (σ 74) := by split <;> first | exact nh_burnF | rfl
    have hIg : Inv (if p then burnF (σ 74) (hx (σ 74)) else σ 74) := by
      split
      · rename_i q; exact Inv_burnF hI (hx_of (hcan.2.1 74 (by omega) (by omega)) (hp.mp q).1.1).1 (hp.mp q).1.2.2
      · exact hI
    have hg1 : (if p then burnF (σ 74) (hx (σ 74)) else σ 74) 1 = nI (nh (σ 74)) := by rw [← hng]; exact hIg.1.1
    have lp : ∀ (d i : Nat) , i + d = nh (σ 74) → V x (eA E) (AP x E (us σ 74 (coolN i (if p then burnF (σ 74) (hx (σ 74)) else σ 74)))) 0 0 115 [some (.ref (ad E 73)), some (.int (σ 74 2)), some (.int (bI p)), some (.int (nI i)), none] [] := by
      intro d
      induction d with
      | zero =>
        intro i  hi' 
        have hN : i = nh (σ 74) := by omega
        have hn1i : coolN i (if p then burnF (σ 74) (hx (σ 74)) else σ 74) 1 = nI (nh (σ 74)) := by rw [coolN_lo (by omega), hg1]
        refine V_iload_n C dX9_quarter_115 rfl ?_
        refine V_aload_n C dX9_quarter_116 rfl ?_
        refine V_get C dX9_quarter_117 (rdO (j := 0) 73 rfl rfl rfl rfl rfl) in_X9 (by decide) q907 rfl ?_
        refine V_iconst C 1 dX9_quarter_120 (by decide) ?_
        refine V_iald C 1 rfl rfl rfl dX9_quarter_121 (rdM 74 1 rfl rfl rfl) ?_
        try simp only [us_us, us_s]
        refine V_icmp_ge C dX9_quarter_122 (fun c122 => ?_) (fun c122 => absurd (by rw [hn1i, hN] <;> exact nI_le (Nat.le_refl _) (by omega)) c122)
        subst hN
        refine V_iload_n C dX9_quarter_166 rfl ?_
        refine V_ifeq_b C dX9_quarter_167 (fun c167 => ?_) (fun c167 => ?_)
        · refine V_forget 3 ?_
          refine V_L (L' := [some (.ref (ad E 73)), some (.int (σ 74 2)), some (.int (bI p)), none, none]) (by first | rfl | (rw [hxv.2]; rfl)) ?_
          exact V_nx rfl rfl (j196 _ (by unfold qF brdF; first | rw [if_pos (show p ∧ 180 ≤ hf (coolN (nh (σ 74)) (if p then burnF (σ 74) (hx (σ 74)) else σ 74)) (hx (σ 74)) 1 from ⟨c167, by first | exact c179 | exact Int32.not_lt.mp c179⟩)] | rw [if_neg (fun q => absurd q.1 c167)] | rw [if_neg (fun q => absurd c179 (Int32.not_lt.mpr q.2))]))
        · have hxv := hx_of (hcan.2.1 74 (by omega) (by omega)) (hp.mp c167).1.1
          have hxl : hx (σ 74) < nh (σ 74) := hxv.1
          have hx8 : hx (σ 74) < 8 := by omega
          refine V_L (L' := [some (.ref (ad E 73)), some (.int (nI (hx (σ 74)))), some (.int (bI p)), some (.int (nI (nh (σ 74)))), none]) (by rw [← hxv.2]) ?_
          refine V_aload_n C dX9_quarter_170 rfl ?_
          refine V_iload_n C dX9_quarter_171 rfl ?_
          refine V_iconst C 1 dX9_quarter_172 (by decide) ?_
          refine V_cv C hE dX9_quarter_173 (c_X9_its (j := 1) rfl (by first | assumption | (simp only [us_s, coolN_nh, hng]; assumption) | (simp only [us_s, coolN_nh, hng]; omega) | (simp (disch := omega) only [us_s, us_n, nh_uh, nh_upd, coolN_nh]; assumption) | (simp (disch := omega) only [us_s, us_n, nh_uh, nh_upd, coolN_nh]; omega)) (by omega)) kyX9_its q1016 (isoO 73 rfl rfl rfl rfl) rfl rfl rfl ?_
          try simp only [us_us, us_s]
          refine V_sipush C 180 dX9_quarter_176 (by decide) ?_
          refine V_icmp_lt C dX9_quarter_179 (fun c179 => ?_) (fun c179 => ?_)
          · refine V_forget 3 ?_
            refine V_L (L' := [some (.ref (ad E 73)), some (.int (σ 74 2)), some (.int (bI p)), none, none]) (by first | rfl | (rw [hxv.2]; rfl)) ?_
            exact V_nx rfl rfl (j196 _ (by unfold qF brdF; first | rw [if_pos (show p ∧ 180 ≤ hf (coolN (nh (σ 74)) (if p then burnF (σ 74) (hx (σ 74)) else σ 74)) (hx (σ 74)) 1 from ⟨c167, by first | exact c179 | exact Int32.not_lt.mp c179⟩)] | rw [if_neg (fun q => absurd q.1 c167)] | rw [if_neg (fun q => absurd c179 (Int32.not_lt.mpr q.2))]))
          · refine V_aload_n C dX9_quarter_182 rfl ?_
            refine V_get C dX9_quarter_183 (rdO (j := 0) 73 rfl rfl rfl rfl rfl) in_X9 (by decide) q907 rfl ?_
            refine V_iload_n C dX9_quarter_186 rfl ?_
            refine V_iconst C 5 dX9_quarter_187 (by decide) ?_
            refine V_cs C hE dX9_quarter_188 (c_X9_at rfl) kyX9_at q1004 rfl rfl rfl ?_
            try simp only [us_us, us_s]
            refine V_dup2 C dX9_quarter_191 rfl rfl ?_
            refine V_ialdN C (15+6*(hx (σ 74))+5) rfl (by omega) (by omega) dX9_quarter_192 (rdMh 74 rfl rfl (by first | assumption | (simp only [us_s, coolN_nh, hng]; assumption) | (simp only [us_s, coolN_nh, hng]; omega) | (simp (disch := omega) only [us_s, us_n, nh_uh, nh_upd, coolN_nh]; assumption) | (simp (disch := omega) only [us_s, us_n, nh_uh, nh_upd, coolN_nh]; omega)) 5 (by omega)) ?_
            try simp only [us_us, us_s]
            refine V_iconst C 1 dX9_quarter_193 (by decide) ?_
            refine V_iadd C dX9_quarter_194 ?_
            refine V_iastN C (15+6*(hx (σ 74))+5) rfl (by omega) (by omega) dX9_quarter_195 (wrMh 74 rfl rfl (by first | assumption | (simp only [us_s, coolN_nh, hng]; assumption) | (simp only [us_s, coolN_nh, hng]; omega) | (simp (disch := omega) only [us_s, us_n, nh_uh, nh_upd, coolN_nh]; assumption) | (simp (disch := omega) only [us_s, us_n, nh_uh, nh_upd, coolN_nh]; omega)) 5 (by omega)) ?_
            try simp only [us_us, us_s]
            refine V_forget 3 ?_
            refine V_L (L' := [some (.ref (ad E 73)), some (.int (σ 74 2)), some (.int (bI p)), none, none]) (by first | rfl | (rw [hxv.2]; rfl)) ?_
            exact V_nx rfl rfl (j196 _ (by unfold qF brdF; first | rw [if_pos (show p ∧ 180 ≤ hf (coolN (nh (σ 74)) (if p then burnF (σ 74) (hx (σ 74)) else σ 74)) (hx (σ 74)) 1 from ⟨c167, by first | exact c179 | exact Int32.not_lt.mp c179⟩)] | rw [if_neg (fun q => absurd q.1 c167)] | rw [if_neg (fun q => absurd c179 (Int32.not_lt.mpr q.2))]))
      | succ d ih =>
        intro i  hi' 
        have hn1i : coolN i (if p then burnF (σ 74) (hx (σ 74)) else σ 74) 1 = nI (nh (σ 74)) := by rw [coolN_lo (by omega), hg1]
        refine V_iload_n C dX9_quarter_115 rfl ?_
        refine V_aload_n C dX9_quarter_116 rfl ?_
        refine V_get C dX9_quarter_117 (rdO (j := 0) 73 rfl rfl rfl rfl rfl) in_X9 (by decide) q907 rfl ?_
        refine V_iconst C 1 dX9_quarter_120 (by decide) ?_
        refine V_iald C 1 rfl rfl rfl dX9_quarter_121 (rdM 74 1 rfl rfl rfl) ?_
        try simp only [us_us, us_s]
        refine V_icmp_ge C dX9_quarter_122 (fun c122 => absurd c122 (by rw [hn1i]; exact nI_ge (by omega) (by omega))) (fun c122 => ?_)
        refine V_aload_n C dX9_quarter_125 rfl ?_
        refine V_iload_n C dX9_quarter_126 rfl ?_
        refine V_iconst C 1 dX9_quarter_127 (by decide) ?_
        refine V_cv C hE dX9_quarter_128 (c_X9_its (i := i) (j := 1) rfl (by rw [us_s, coolN_nh, hng]; omega) (by omega)) kyX9_its q1016 (isoO 73 rfl rfl rfl rfl) rfl rfl rfl ?_
        try simp only [us_us, us_s]
        refine V_aload_n C dX9_quarter_131 rfl ?_
        refine V_iload_n C dX9_quarter_132 rfl ?_
        refine V_cv C hE dX9_quarter_133 (c_X9_loses (i := i) (by rw [us_s, coolN_nh, hng]; omega) (by rw [us_s]; exact ((Inv_coolN hIg i (by omega)).2.1 i (by rw [coolN_nh, hng]; omega)).2.1.1)) kyX9_loses q1024 (isoO 73 rfl rfl rfl rfl) rfl rfl rfl ?_
        try simp only [us_us, us_s]
        refine V_isub C dX9_quarter_136 ?_
        refine V_istore C dX9_quarter_137 rfl ?_
        refine V_aload_n C dX9_quarter_139 rfl ?_
        refine V_get C dX9_quarter_140 (rdO (j := 0) 73 rfl rfl rfl rfl rfl) in_X9 (by decide) q907 rfl ?_
        refine V_iload_n C dX9_quarter_143 rfl ?_
        refine V_iconst C 1 dX9_quarter_144 (by decide) ?_
        refine V_cs C hE dX9_quarter_145 (c_X9_at rfl) kyX9_at q1004 rfl rfl rfl ?_
        try simp only [us_us, us_s]
        refine V_iload C dX9_quarter_148 rfl ?_
        refine V_if_ge C dX9_quarter_150 (fun c150 => ?_) (fun c150 => ?_)
        · refine V_iload C dX9_quarter_157 rfl ?_
          refine V_iastN C (15+6*i+1) rfl (by omega) (by omega) dX9_quarter_159 (wrMh 74 rfl rfl (by rw [us_s, coolN_nh, hng]; omega) 1 (by omega)) ?_
          try simp only [us_us, us_s]
          refine V_forget 4 ?_
          refine V_iinc C 1 dX9_quarter_160 rfl (by decide) rfl ?_
          refine V_goto C dX9_quarter_163 ?_
          exact V_nx (congrArg (fun z => us σ 74 (uh (coolN i (if p then burnF (σ 74) (hx (σ 74)) else σ 74)) i 1 z)) (by first | exact kool_a c150 | exact kool_b c150)) (by simp [← nI_1] <;> rfl) (ih (i + 1) (by omega))
        · refine V_iconst C 0 dX9_quarter_153 (by decide) ?_
          refine V_goto C dX9_quarter_154 ?_
          refine V_iastN C (15+6*i+1) rfl (by omega) (by omega) dX9_quarter_159 (wrMh 74 rfl rfl (by rw [us_s, coolN_nh, hng]; omega) 1 (by omega)) ?_
          try simp only [us_us, us_s]
          refine V_forget 4 ?_
          refine V_iinc C 1 dX9_quarter_160 rfl (by decide) rfl ?_
          refine V_goto C dX9_quarter_163 ?_
          exact V_nx (congrArg (fun z => us σ 74 (uh (coolN i (if p then burnF (σ 74) (hx (σ 74)) else σ 74)) i 1 z)) (by first | exact kool_a c150 | exact kool_b c150)) (by simp [← nI_1] <;> rfl) (ih (i + 1) (by omega))
    refine V_iconst C 0 dX9_quarter_113 (by decide) ?_
    refine V_istore_n C dX9_quarter_114 rfl ?_
    exact lp (nh (σ 74)) 0 (by omega)
  have j48 : V x (eA E) (AP x E σ) 0 0 48 [some (.ref (ad E 73)), some (.int (σ 74 2)), none, none, none] [.int (bI p)] := by
    refine V_istore_n C dX9_quarter_48 rfl ?_
    refine V_iload_n C dX9_quarter_49 rfl ?_
    refine V_ifeq_b C dX9_quarter_50 (fun c50 => ?_) (fun c50 => ?_)
    · refine V_forget 3 ?_
      refine V_L (L' := [some (.ref (ad E 73)), some (.int (σ 74 2)), some (.int (bI p)), none, none]) (by first | rfl | (rw [hxv.2]; rfl)) ?_
      exact V_nx (by rw [if_neg c50, us_id]) rfl j113
    · have hxv := hx_of (hcan.2.1 74 (by omega) (by omega)) (hp.mp c50).1.1
      have hxl : hx (σ 74) < nh (σ 74) := hxv.1
      have hx8 : hx (σ 74) < 8 := by omega
      refine V_L (L' := [some (.ref (ad E 73)), some (.int (nI (hx (σ 74)))), some (.int (bI p)), none, none]) (by rw [← hxv.2]; rfl) ?_
      refine V_aload_n C dX9_quarter_53 rfl ?_
      refine V_iload_n C dX9_quarter_54 rfl ?_
      refine V_cv C hE dX9_quarter_55 (c_X9_heats (i := (hx (σ 74))) hxl) kyX9_heats q1020 (isoO 73 rfl rfl rfl rfl) rfl rfl rfl ?_
      try simp (disch := omega) only [us_us, us_s, us_n, hf_uh_s, hf_uh_n, hf_upd, uh_lo]
      refine V_istore_n C dX9_quarter_58 rfl ?_
      refine V_aload_n C dX9_quarter_59 rfl ?_
      refine V_get C dX9_quarter_60 (rdO (j := 0) 73 rfl rfl rfl rfl rfl) in_X9 (by decide) q907 rfl ?_
      refine V_iload_n C dX9_quarter_63 rfl ?_
      refine V_iconst C 3 dX9_quarter_64 (by decide) ?_
      refine V_cs C hE dX9_quarter_65 (c_X9_at rfl) kyX9_at q1004 rfl rfl rfl ?_
      try simp (disch := omega) only [us_us, us_s, us_n, hf_uh_s, hf_uh_n, hf_upd, uh_lo]
      refine V_dup2 C dX9_quarter_68 rfl rfl ?_
      refine V_ialdN C (15+6*(hx (σ 74))+3) rfl (by omega) (by omega) dX9_quarter_69 (rdMh 74 rfl rfl (by first | assumption | (simp (disch := omega) only [us_s, us_n, nh_uh, nh_upd, coolN_nh]; assumption)) 3 (by omega)) ?_
      try simp (disch := omega) only [us_us, us_s, us_n, hf_uh_s, hf_uh_n, hf_upd, uh_lo]
      refine V_aload_n C dX9_quarter_70 rfl ?_
      refine V_iload_n C dX9_quarter_71 rfl ?_
      refine V_cv C hE dX9_quarter_72 (c_X9_burns (i := (hx (σ 74))) (by first | assumption | (simp (disch := omega) only [us_s, nh_uh, nh_upd]; assumption))) kyX9_burns q1028 (isoO 73 rfl rfl rfl rfl) rfl rfl rfl ?_
      try simp (disch := omega) only [us_us, us_s, us_n, hf_uh_s, hf_uh_n, hf_upd, uh_lo]
      refine V_isub C dX9_quarter_75 ?_
      refine V_iastN C (15+6*(hx (σ 74))+3) rfl (by omega) (by omega) dX9_quarter_76 (wrMh 74 rfl rfl (by first | assumption | (simp (disch := omega) only [us_s, us_n, nh_uh, nh_upd, coolN_nh]; assumption)) 3 (by omega)) ?_
      try simp (disch := omega) only [us_us, us_s, us_n, hf_uh_s, hf_uh_n, hf_upd, uh_lo]
      refine V_aload_n C dX9_quarter_77 rfl ?_
      refine V_get C dX9_quarter_78 (rdO (j := 0) 73 rfl rfl rfl rfl rfl) in_X9 (by decide) q907 rfl ?_
      refine V_iconst C 4 dX9_quarter_81 (by decide) ?_
      refine V_dup2 C dX9_quarter_82 rfl rfl ?_
      refine V_iald C 4 rfl rfl rfl dX9_quarter_83 (rdM 74 4 rfl rfl rfl) ?_
      try simp (disch := omega) only [us_us, us_s, us_n, hf_uh_s, hf_uh_n, hf_upd, uh_lo]
      refine V_aload_n C dX9_quarter_84 rfl ?_
      refine V_iload_n C dX9_quarter_85 rfl ?_
      refine V_cv C hE dX9_quarter_86 (c_X9_burns (i := (hx (σ 74))) (by first | assumption | (simp (disch := omega) only [us_s, nh_uh, nh_upd]; assumption))) kyX9_burns q1028 (isoO 73 rfl rfl rfl rfl) rfl rfl rfl ?_
      try simp (disch := omega) only [us_us, us_s, us_n, hf_uh_s, hf_uh_n, hf_upd, uh_lo]
      refine V_iadd C dX9_quarter_89 ?_
      refine V_iast C 4 rfl rfl rfl dX9_quarter_90 (wrM 74 4 rfl rfl rfl rfl) ?_
      try simp (disch := omega) only [us_us, us_s, us_n, hf_uh_s, hf_uh_n, hf_upd, uh_lo]
      refine V_aload_n C dX9_quarter_91 rfl ?_
      refine V_iload_n C dX9_quarter_92 rfl ?_
      refine V_iload_n C dX9_quarter_93 rfl ?_
      refine V_cv0 C hE dX9_quarter_94 (c_X9_warms (i := (hx (σ 74))) (by simp (disch := omega) only [us_s, nh_uh, nh_upd]; assumption)) kyX9_warms q1098 (isoO 73 rfl rfl rfl rfl) rfl rfl rfl ?_
      try simp (disch := omega) only [us_us, us_s, us_n, hf_uh_s, hf_uh_n, hf_upd, uh_lo]
      refine V_aload_n C dX9_quarter_97 rfl ?_
      refine V_iload_n C dX9_quarter_98 rfl ?_
      refine V_iconst C 1 dX9_quarter_99 (by decide) ?_
      refine V_isub C dX9_quarter_100 ?_
      refine V_iload_n C dX9_quarter_101 rfl ?_
      have hn3 : nh (uh (upd (uh (σ 74) (hx (σ 74)) 3 (hf (σ 74) (hx (σ 74)) 3 - burnsV (hf (σ 74) (hx (σ 74)) 0))) 4 (σ 74 4 + burnsV (hf (σ 74) (hx (σ 74)) 0))) (hx (σ 74)) 1 (warmV (hf (σ 74) (hx (σ 74)) 1) (heatsV (hf (σ 74) (hx (σ 74)) 0) (hf (σ 74) (hx (σ 74)) 1)))) = nh (σ 74) := by simp (disch := omega) only [nh_uh, nh_upd]
      by_cases h1 : 1 ≤ (hx (σ 74))
      · refine V_st (st' := [.int (heatsV (hf (σ 74) (hx (σ 74)) 0) (hf (σ 74) (hx (σ 74)) 1)), .int (nI ((hx (σ 74)) - 1)), .ref (ad E 73)]) (by rw [nI_m1 h1]) ?_
        refine V_cv0 C hE dX9_quarter_102 (c_X9_getsOf (i := (hx (σ 74)) - 1) (by rw [us_s, hn3]; omega)) kyX9_getsOf q1102 (isoO 73 rfl rfl rfl rfl) rfl rfl rfl ?_
        try simp (disch := omega) only [us_us, us_s, us_n, hf_uh_s, hf_uh_n, hf_upd, uh_lo]
        refine V_aload_n C dX9_quarter_105 rfl ?_
        refine V_iload_n C dX9_quarter_106 rfl ?_
        refine V_iconst C 1 dX9_quarter_107 (by decide) ?_
        refine V_iadd C dX9_quarter_108 ?_
        refine V_iload_n C dX9_quarter_109 rfl ?_
        by_cases h2 : (hx (σ 74)) + 1 < nh (σ 74)
        · refine V_st (st' := [.int (heatsV (hf (σ 74) (hx (σ 74)) 0) (hf (σ 74) (hx (σ 74)) 1)), .int (nI ((hx (σ 74)) + 1)), .ref (ad E 73)]) (by rw [← nI_1]) ?_
          refine V_cv0 C hE dX9_quarter_110 (c_X9_getsOf (i := (hx (σ 74)) + 1) (by rw [us_s]; first | (rw [nh_getF, hn3]; exact h2) | (rw [hn3]; exact h2))) kyX9_getsOf q1102 (isoO 73 rfl rfl rfl rfl) rfl rfl rfl ?_
          try simp (disch := omega) only [us_us, us_s, us_n, hf_uh_s, hf_uh_n, hf_upd, uh_lo]
          refine V_forget 3 ?_
          refine V_L (L' := [some (.ref (ad E 73)), some (.int (σ 74 2)), some (.int (bI p)), none, none]) (by first | rfl | (rw [hxv.2]; rfl)) ?_
          exact V_nx (by first | (rw [if_pos c50]; unfold burnF; simp only; (first | rw [if_pos h1] | rw [if_neg h1]); (first | rw [if_pos h2] | rw [if_neg h2])) | (rw [if_neg c50, us_id])) rfl j113
        · refine V_st (st' := [.int (heatsV (hf (σ 74) (hx (σ 74)) 0) (hf (σ 74) (hx (σ 74)) 1)), .int (nI ((hx (σ 74)) + 1)), .ref (ad E 73)]) (by rw [← nI_1]) ?_
          refine V_cv0 C hE dX9_quarter_110 (c_X9_getsOfN (p0 := nI ((hx (σ 74)) + 1)) (isH_no (m := nh (σ 74)) (by simp (disch := omega) only [us_s, getF_lo, uh_lo, upd_n]; exact (hcan.2.1 74 (by omega) (by omega)).1) h8 h2 (by omega))) kyX9_getsOf q1102 (isoO 73 rfl rfl rfl rfl) rfl rfl rfl ?_
          try simp (disch := omega) only [us_us, us_s, us_n, hf_uh_s, hf_uh_n, hf_upd, uh_lo]
          refine V_forget 3 ?_
          refine V_L (L' := [some (.ref (ad E 73)), some (.int (σ 74 2)), some (.int (bI p)), none, none]) (by first | rfl | (rw [hxv.2]; rfl)) ?_
          exact V_nx (by first | (rw [if_pos c50]; unfold burnF; simp only; (first | rw [if_pos h1] | rw [if_neg h1]); (first | rw [if_pos h2] | rw [if_neg h2])) | (rw [if_neg c50, us_id])) rfl j113
      · refine V_st (st' := [.int (heatsV (hf (σ 74) (hx (σ 74)) 0) (hf (σ 74) (hx (σ 74)) 1)), .int (-1), .ref (ad E 73)]) (by rw [show (hx (σ 74)) = 0 by omega]; rfl) ?_
        refine V_cv0 C hE dX9_quarter_102 (c_X9_getsOfN (fun q => absurd q.1 (by decide))) kyX9_getsOf q1102 (isoO 73 rfl rfl rfl rfl) rfl rfl rfl ?_
        try simp (disch := omega) only [us_us, us_s, us_n, hf_uh_s, hf_uh_n, hf_upd, uh_lo]
        refine V_aload_n C dX9_quarter_105 rfl ?_
        refine V_iload_n C dX9_quarter_106 rfl ?_
        refine V_iconst C 1 dX9_quarter_107 (by decide) ?_
        refine V_iadd C dX9_quarter_108 ?_
        refine V_iload_n C dX9_quarter_109 rfl ?_
        by_cases h2 : (hx (σ 74)) + 1 < nh (σ 74)
        · refine V_st (st' := [.int (heatsV (hf (σ 74) (hx (σ 74)) 0) (hf (σ 74) (hx (σ 74)) 1)), .int (nI ((hx (σ 74)) + 1)), .ref (ad E 73)]) (by rw [← nI_1]) ?_
          refine V_cv0 C hE dX9_quarter_110 (c_X9_getsOf (i := (hx (σ 74)) + 1) (by rw [us_s]; first | (rw [nh_getF, hn3]; exact h2) | (rw [hn3]; exact h2))) kyX9_getsOf q1102 (isoO 73 rfl rfl rfl rfl) rfl rfl rfl ?_
          try simp (disch := omega) only [us_us, us_s, us_n, hf_uh_s, hf_uh_n, hf_upd, uh_lo]
          refine V_forget 3 ?_
          refine V_L (L' := [some (.ref (ad E 73)), some (.int (σ 74 2)), some (.int (bI p)), none, none]) (by first | rfl | (rw [hxv.2]; rfl)) ?_
          exact V_nx (by first | (rw [if_pos c50]; unfold burnF; simp only; (first | rw [if_pos h1] | rw [if_neg h1]); (first | rw [if_pos h2] | rw [if_neg h2])) | (rw [if_neg c50, us_id])) rfl j113
        · refine V_st (st' := [.int (heatsV (hf (σ 74) (hx (σ 74)) 0) (hf (σ 74) (hx (σ 74)) 1)), .int (nI ((hx (σ 74)) + 1)), .ref (ad E 73)]) (by rw [← nI_1]) ?_
          refine V_cv0 C hE dX9_quarter_110 (c_X9_getsOfN (p0 := nI ((hx (σ 74)) + 1)) (isH_no (m := nh (σ 74)) (by simp (disch := omega) only [us_s, getF_lo, uh_lo, upd_n]; exact (hcan.2.1 74 (by omega) (by omega)).1) h8 h2 (by omega))) kyX9_getsOf q1102 (isoO 73 rfl rfl rfl rfl) rfl rfl rfl ?_
          try simp (disch := omega) only [us_us, us_s, us_n, hf_uh_s, hf_uh_n, hf_upd, uh_lo]
          refine V_forget 3 ?_
          refine V_L (L' := [some (.ref (ad E 73)), some (.int (σ 74 2)), some (.int (bI p)), none, none]) (by first | rfl | (rw [hxv.2]; rfl)) ?_
          exact V_nx (by first | (rw [if_pos c50]; unfold burnF; simp only; (first | rw [if_pos h1] | rw [if_neg h1]); (first | rw [if_pos h2] | rw [if_neg h2])) | (rw [if_neg c50, us_id])) rfl j113
  refine V_aload_n C dX9_quarter_0 rfl ?_
  refine V_get C dX9_quarter_1 (rdO (j := 0) 73 rfl rfl rfl rfl rfl) in_X9 (by decide) q907 rfl ?_
  refine V_iconst C 2 dX9_quarter_4 (by decide) ?_
  refine V_iald C 2 rfl rfl rfl dX9_quarter_5 (rdM 74 2 rfl rfl rfl) ?_
  by_cases hh : isH (σ 74) (σ 74 2)
  · have hxv := hx_of (hcan.2.1 74 (by omega) (by omega)) hh
    have hxl : hx (σ 74) < nh (σ 74) := hxv.1
    have hx8 : hx (σ 74) < 8 := by omega
    refine V_st (st' := [.int (nI (hx (σ 74)))]) (by rw [← hxv.2]) ?_
    refine V_istore_n C dX9_quarter_6 rfl ?_
    refine V_aload_n C dX9_quarter_7 rfl ?_
    refine V_iload_n C dX9_quarter_8 rfl ?_
    refine V_cv C hE dX9_quarter_9 (c_X9_isHouse) kyX9_isHouse q1011 (isoO 73 rfl rfl rfl rfl) rfl rfl rfl ?_
    refine V_ifeq_b C dX9_quarter_12 (fun c12 => absurd (hxv.2 ▸ hh) c12) (fun c12 => ?_)
    refine V_aload_n C dX9_quarter_15 rfl ?_
    refine V_cv C hE dX9_quarter_16 (c_X9_isGoing) kyX9_isGoing q1069 (isoO 73 rfl rfl rfl rfl) rfl rfl rfl ?_
    refine V_ifne_b C dX9_quarter_19 (fun c19 => ?_) (fun c19 => ?_)
    · refine V_iconst C 0 dX9_quarter_47 (by decide) ?_
      exact V_to (fun _ h => h) (by first | rfl | (rw [hxv.2]; rfl)) (by rw [bI_f (fun q => (hp.mp q).1.2.1 c19)]) j48
    · refine V_aload_n C dX9_quarter_22 rfl ?_
      refine V_get C dX9_quarter_23 (rdO (j := 5) 73 rfl rfl rfl rfl rfl) in_X9 (by decide) q912 rfl ?_
      refine V_if_ne C dX9_quarter_26 (fun c26 => ?_) (fun c26 => ?_)
      · refine V_iconst C 0 dX9_quarter_47 (by decide) ?_
        exact V_to (fun _ h => h) (by first | rfl | (rw [hxv.2]; rfl)) (by rw [bI_f (fun q => absurd (hp.mp q).2 c26)]) j48
      · refine V_aload_n C dX9_quarter_29 rfl ?_
        refine V_iload_n C dX9_quarter_30 rfl ?_
        refine V_iconst C 3 dX9_quarter_31 (by decide) ?_
        refine V_cv C hE dX9_quarter_32 (c_X9_its (i := (hx (σ 74))) (j := 3) rfl hxl (by omega)) kyX9_its q1016 (isoO 73 rfl rfl rfl rfl) rfl rfl rfl ?_
        refine V_aload_n C dX9_quarter_35 rfl ?_
        refine V_iload_n C dX9_quarter_36 rfl ?_
        refine V_cv C hE dX9_quarter_37 (c_X9_burns (i := (hx (σ 74))) hxl) kyX9_burns q1028 (isoO 73 rfl rfl rfl rfl) rfl rfl rfl ?_
        refine V_icmp_lt C dX9_quarter_40 (fun c40 => ?_) (fun c40 => ?_)
        · refine V_iconst C 0 dX9_quarter_47 (by decide) ?_
          exact V_to (fun _ h => h) (by first | rfl | (rw [hxv.2]; rfl)) (by first | rw [bI_t (hp.mpr ⟨⟨hh, by first | exact c19 | exact c19, by first | exact Int32.not_lt.mp c40 | exact c40⟩, by first | exact c26⟩)] | rw [bI_f (fun q => absurd (hp.mp q).1.2.2 (Int32.not_le.mpr c40))]) j48
        · refine V_iconst C 1 dX9_quarter_43 (by decide) ?_
          refine V_goto C dX9_quarter_44 ?_
          exact V_to (fun _ h => h) (by first | rfl | (rw [hxv.2]; rfl)) (by first | rw [bI_t (hp.mpr ⟨⟨hh, by first | exact c19 | exact c19, by first | exact Int32.not_lt.mp c40 | exact c40⟩, by first | exact c26⟩)] | rw [bI_f (fun q => absurd (hp.mp q).1.2.2 (Int32.not_le.mpr c40))]) j48
  · refine V_istore_n C dX9_quarter_6 rfl ?_
    refine V_aload_n C dX9_quarter_7 rfl ?_
    refine V_iload_n C dX9_quarter_8 rfl ?_
    refine V_cv C hE dX9_quarter_9 (c_X9_isHouse) kyX9_isHouse q1011 (isoO 73 rfl rfl rfl rfl) rfl rfl rfl ?_
    refine V_ifeq_b C dX9_quarter_12 (fun c12 => ?_) (fun c12 => absurd c12 (hh))
    refine V_iconst C 0 dX9_quarter_47 (by decide) ?_
    exact V_to (fun _ h => h) (by first | rfl | (rw [hxv.2]; rfl)) (by rw [bI_f (fun q => hh (hp.mp q).1.1)]) j48

