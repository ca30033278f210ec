theorem c_X9_begins {l : Launch} {E : En} {σ : Sg}   : MD l yX9_begins cX9_begins 1 none rmX9_begins E [.ref (ad E 73)] σ none (rS σ (σ 74, 400, 0)) := by
  refine MD_of (by decide +kernel) rfl fun x C hE hT hcan => ?_
  have C : CX x cX9_begins RX9 rmX9_begins := C
  refine V_L (L' := [some (.ref (ad E 73))]) rfl ?_
  refine V_aload_n C dX9_begins_0 rfl ?_
  refine V_sipush C 400 dX9_begins_1 (by decide) ?_
  refine V_put C dX9_begins_4 (wrO (j := 6) 73 rfl rfl rfl rfl rfl rfl) ft_X9 (by decide) q913 rfl rfl rfl rfl ?_
  refine V_aload_n C dX9_begins_7 rfl ?_
  refine V_iconst C 0 dX9_begins_8 (by decide) ?_
  refine V_put C dX9_begins_9 (wrO (j := 7) 73 rfl rfl rfl rfl rfl rfl) ft_X9 (by decide) q914 rfl rfl rfl rfl ?_
  exact V_retD C dX9_begins_12 hT (by rw [← rS_beg])

theorem c_X9_isDone {l : Launch} {E : En} {σ : Sg}   : MD l yX9_isDone cX9_isDone 1 (some .boolean) rmX9_isDone E [.ref (ad E 73)] σ (some (.int (bI (dnP (σ 73 8) (σ 73 6) (σ 73 7))))) (σ) := by
  refine MD_of (by decide +kernel) rfl fun x C hE hT hcan => ?_
  have C : CX x cX9_isDone RX9 rmX9_isDone := C
  refine V_L (L' := [some (.ref (ad E 73))]) rfl ?_
  refine V_aload_n C dX9_isDone_0 rfl ?_
  refine V_get C dX9_isDone_1 (rdO (j := 6) 73 rfl rfl rfl rfl rfl) in_X9 (by decide) q913 rfl ?_
  refine V_aload_n C dX9_isDone_4 rfl ?_
  refine V_get C dX9_isDone_5 (rdO (j := 8) 73 rfl rfl rfl rfl rfl) in_X9 (by decide) q915 rfl ?_
  refine V_icmp_le C dX9_isDone_8 (fun c8 => ?_) (fun c8 => ?_)
  · refine V_iconst C 1 dX9_isDone_18 (by decide) ?_
    refine V_goto C dX9_isDone_19 ?_
    exact V_zretD C dX9_isDone_23 hT (by first | exact (bI_t (Or.inl c8)).symm | exact (bI_t (Or.inr c15)).symm | exact (bI_f (fun q => q.elim c8 (fun z => z c15))).symm) rfl
  · refine V_aload_n C dX9_isDone_11 rfl ?_
    refine V_get C dX9_isDone_12 (rdO (j := 7) 73 rfl rfl rfl rfl rfl) in_X9 (by decide) q914 rfl ?_
    refine V_if_eq C dX9_isDone_15 (fun c15 => ?_) (fun c15 => ?_)
    · refine V_iconst C 0 dX9_isDone_22 (by decide) ?_
      exact V_zretD C dX9_isDone_23 hT (by first | exact (bI_t (Or.inl c8)).symm | exact (bI_t (Or.inr c15)).symm | exact (bI_f (fun q => q.elim c8 (fun z => z c15))).symm) rfl
    · refine V_iconst C 1 dX9_isDone_18 (by decide) ?_
      refine V_goto C dX9_isDone_19 ?_
      exact V_zretD C dX9_isDone_23 hT (by first | exact (bI_t (Or.inl c8)).symm | exact (bI_t (Or.inr c15)).symm | exact (bI_f (fun q => q.elim c8 (fun z => z c15))).symm) rfl

theorem c_X9_watches {l : Launch} {E : En} {σ : Sg} {n : Nat} (hI : Inv (σ 74)) (hz : σ 73 5 = 0) (hn : n < 2 ^ 31) : MD l yX9_watches cX9_watches 4 none rmX9_watches E [.ref (ad E 73), .int (nI n)] σ none (rS σ (wt (σ 73 9) (σ 73 8) n (σ 74, σ 73 6, σ 73 7))) := by
  refine MD_of (by decide +kernel) rfl fun x C hE hT hcan => ?_
  have C : CX x cX9_watches RX9 rmX9_watches := C
  refine V_L (L' := [some (.ref (ad E 73)), some (.int (nI n)), none, none]) rfl ?_
  refine V_iconst C 0 dX9_watches_0 (by decide) ?_
  refine V_istore_n C dX9_watches_1 rfl ?_
  obtain ⟨T, hT0⟩ : ∃ T, (wt (σ 73 9) (σ 73 8) n (σ 74, σ 73 6, σ 73 7)) = T := ⟨_, rfl⟩
  rw [hT0] at hT
  have lp : ∀ (d i : Nat) (g : Nat → Int32) (a : Int32) (y : Int32), i + d = n → (Inv g) → (wt (σ 73 9) (σ 73 8) d (g, a, y) = T) → V x (eA E) (AP x E (rS σ (g, a, y))) 0 0 2 [some (.ref (ad E 73)), some (.int (nI n)), some (.int (nI i)), none] [] := by
    intro d
    induction d with
    | zero =>
      intro i g a y hi' hI hw
      have hN : i = n := by omega
      refine V_iload_n C dX9_watches_2 rfl ?_
      refine V_iload_n C dX9_watches_3 rfl ?_
      refine V_icmp_ge C dX9_watches_4 (fun c4 => ?_) (fun c4 => absurd (by rw [hN] <;> exact nI_le (Nat.le_refl _) (by omega)) c4)
      exact V_retD C dX9_watches_72 hT (by rw [← hw]; rfl)
    | succ d ih =>
      intro i g a y hi' hI hw
      refine V_iload_n C dX9_watches_2 rfl ?_
      refine V_iload_n C dX9_watches_3 rfl ?_
      refine V_icmp_ge C dX9_watches_4 (fun c4 => absurd c4 (nI_ge (by omega) (by omega))) (fun c4 => ?_)
      refine V_aload_n C dX9_watches_7 rfl ?_
      refine V_cv C hE dX9_watches_8 (c_X9_isDone) kyX9_isDone q1218 (isoO 73 rfl rfl rfl rfl) rfl rfl rfl ?_
      try simp (disch := omega) only [rS_p74, rS_p6, rS_p7, rS_74, rS_6, rS_7, rS_j, rS_rS]
      try simp (disch := omega) only [rS_p74, rS_p6, rS_p7, rS_74, rS_6, rS_7, rS_j, rS_rS]
      refine V_ifne_b C dX9_watches_11 (fun c11 => ?_) (fun c11 => ?_)
      · exact V_retD C dX9_watches_72 hT (by rw [← hw]; unfold wt; rw [if_pos c11])
      · refine V_aload_n C dX9_watches_14 rfl ?_
        refine V_cv0 C hE dX9_watches_15 (c_X9_quarterP (by rw [rS_74]; exact hI) (by rw [rS_j (by omega) (by omega)]; exact hz)) kyX9_quarter q1094 (isoO 73 rfl rfl rfl rfl) rfl rfl rfl ?_
        try simp (disch := omega) only [rS_p74, rS_p6, rS_p7, rS_74, rS_6, rS_7, rS_j, rS_rS]
        refine V_aload_n C dX9_watches_18 rfl ?_
        refine V_cv C hE dX9_watches_19 (c_X9_leastWarmth) kyX9_leastWarmth q1126 (isoO 73 rfl rfl rfl rfl) rfl rfl rfl ?_
        try simp (disch := omega) only [rS_p74, rS_p6, rS_p7, rS_74, rS_6, rS_7, rS_j, rS_rS]
        refine V_istore_n C dX9_watches_22 rfl ?_
        refine V_aload_n C dX9_watches_23 rfl ?_
        refine V_iload_n C dX9_watches_24 rfl ?_
        refine V_aload_n C dX9_watches_25 rfl ?_
        refine V_get C dX9_watches_26 (rdO (j := 6) 73 rfl rfl rfl rfl rfl) in_X9 (by decide) q913 rfl ?_
        try simp (disch := omega) only [rS_p74, rS_p6, rS_p7, rS_74, rS_6, rS_7, rS_j, rS_rS]
        refine V_icmp_ge C dX9_watches_29 (fun c29 => ?_) (fun c29 => ?_)
        · refine V_aload_n C dX9_watches_36 rfl ?_
          refine V_get C dX9_watches_37 (rdO (j := 6) 73 rfl rfl rfl rfl rfl) in_X9 (by decide) q913 rfl ?_
          try simp (disch := omega) only [rS_p74, rS_p6, rS_p7, rS_74, rS_6, rS_7, rS_j, rS_rS]
          refine V_st (st' := [.int (wcA (quarterF g) a), .ref (ad E 73)]) (by unfold wcA; first | (rw [if_neg (Int32.not_lt.mpr c29)]; done) | (rw [if_pos (Int32.not_le.mp c29)]; done)) ?_
          refine V_put C dX9_watches_40 (wrO (j := 6) 73 rfl rfl rfl rfl rfl rfl) ft_X9 (by decide) q913 rfl rfl rfl rfl ?_
          try simp (disch := omega) only [rS_p74, rS_p6, rS_p7, rS_74, rS_6, rS_7, rS_j, rS_rS]
          refine V_aload_n C dX9_watches_43 rfl ?_
          refine V_aload_n C dX9_watches_44 rfl ?_
          refine V_get C dX9_watches_45 (rdO (j := 9) 73 rfl rfl rfl rfl rfl) in_X9 (by decide) q916 rfl ?_
          try simp (disch := omega) only [rS_p74, rS_p6, rS_p7, rS_74, rS_6, rS_7, rS_j, rS_rS]
          refine V_if_eq C dX9_watches_48 (fun c48 => ?_) (fun c48 => ?_)
          · refine V_iconst C 0 dX9_watches_62 (by decide) ?_
            refine V_st (st' := [.int (wcY (σ 73 9) (quarterF g)), .ref (ad E 73)]) (by unfold wcY; first | (rw [if_pos c48]; done) | (rw [if_neg c48, if_pos c55]; done) | (rw [if_neg c48, if_neg c55]; done)) ?_
            refine V_put C dX9_watches_63 (wrO (j := 7) 73 rfl rfl rfl rfl rfl rfl) ft_X9 (by decide) q914 rfl rfl (nar01 (wcY_01 _ _)) (fit01 (wcY_01 _ _)) ?_
            try simp (disch := omega) only [rS_p74, rS_p6, rS_p7, rS_74, rS_6, rS_7, rS_j, rS_rS]
            refine V_forget 3 ?_
            refine V_iinc C 1 dX9_watches_66 rfl (by decide) rfl ?_
            refine V_goto C dX9_watches_69 ?_
            exact V_nx rfl (by simp [← nI_1] <;> rfl) (ih (i + 1) (quarterF g) (wcA (quarterF g) a) (wcY (σ 73 9) (quarterF g)) (by omega) (Inv_quarterF hI) (by have z := hw; unfold wt at z; rw [if_neg c11] at z; exact z))
          · refine V_aload_n C dX9_watches_51 rfl ?_
            refine V_cv C hE dX9_watches_52 (c_X9_coldSet) kyX9_coldSet q1110 (isoO 73 rfl rfl rfl rfl) rfl rfl rfl ?_
            try simp (disch := omega) only [rS_p74, rS_p6, rS_p7, rS_74, rS_6, rS_7, rS_j, rS_rS]
            try simp (disch := omega) only [rS_p74, rS_p6, rS_p7, rS_74, rS_6, rS_7, rS_j, rS_rS]
            refine V_if_eq C dX9_watches_55 (fun c55 => ?_) (fun c55 => ?_)
            · refine V_iconst C 0 dX9_watches_62 (by decide) ?_
              refine V_st (st' := [.int (wcY (σ 73 9) (quarterF g)), .ref (ad E 73)]) (by unfold wcY; first | (rw [if_pos c48]; done) | (rw [if_neg c48, if_pos c55]; done) | (rw [if_neg c48, if_neg c55]; done)) ?_
              refine V_put C dX9_watches_63 (wrO (j := 7) 73 rfl rfl rfl rfl rfl rfl) ft_X9 (by decide) q914 rfl rfl (nar01 (wcY_01 _ _)) (fit01 (wcY_01 _ _)) ?_
              try simp (disch := omega) only [rS_p74, rS_p6, rS_p7, rS_74, rS_6, rS_7, rS_j, rS_rS]
              refine V_forget 3 ?_
              refine V_iinc C 1 dX9_watches_66 rfl (by decide) rfl ?_
              refine V_goto C dX9_watches_69 ?_
              exact V_nx rfl (by simp [← nI_1] <;> rfl) (ih (i + 1) (quarterF g) (wcA (quarterF g) a) (wcY (σ 73 9) (quarterF g)) (by omega) (Inv_quarterF hI) (by have z := hw; unfold wt at z; rw [if_neg c11] at z; exact z))
            · refine V_iconst C 1 dX9_watches_58 (by decide) ?_
              refine V_goto C dX9_watches_59 ?_
              refine V_st (st' := [.int (wcY (σ 73 9) (quarterF g)), .ref (ad E 73)]) (by unfold wcY; first | (rw [if_pos c48]; done) | (rw [if_neg c48, if_pos c55]; done) | (rw [if_neg c48, if_neg c55]; done)) ?_
              refine V_put C dX9_watches_63 (wrO (j := 7) 73 rfl rfl rfl rfl rfl rfl) ft_X9 (by decide) q914 rfl rfl (nar01 (wcY_01 _ _)) (fit01 (wcY_01 _ _)) ?_
              try simp (disch := omega) only [rS_p74, rS_p6, rS_p7, rS_74, rS_6, rS_7, rS_j, rS_rS]
              refine V_forget 3 ?_
              refine V_iinc C 1 dX9_watches_66 rfl (by decide) rfl ?_
              refine V_goto C dX9_watches_69 ?_
              exact V_nx rfl (by simp [← nI_1] <;> rfl) (ih (i + 1) (quarterF g) (wcA (quarterF g) a) (wcY (σ 73 9) (quarterF g)) (by omega) (Inv_quarterF hI) (by have z := hw; unfold wt at z; rw [if_neg c11] at z; exact z))
        · refine V_iload_n C dX9_watches_32 rfl ?_
          refine V_goto C dX9_watches_33 ?_
          try simp (disch := omega) only [rS_p74, rS_p6, rS_p7, rS_74, rS_6, rS_7, rS_j, rS_rS]
          refine V_st (st' := [.int (wcA (quarterF g) a), .ref (ad E 73)]) (by unfold wcA; first | (rw [if_neg (Int32.not_lt.mpr c29)]; done) | (rw [if_pos (Int32.not_le.mp c29)]; done)) ?_
          refine V_put C dX9_watches_40 (wrO (j := 6) 73 rfl rfl rfl rfl rfl rfl) ft_X9 (by decide) q913 rfl rfl rfl rfl ?_
          try simp (disch := omega) only [rS_p74, rS_p6, rS_p7, rS_74, rS_6, rS_7, rS_j, rS_rS]
          refine V_aload_n C dX9_watches_43 rfl ?_
          refine V_aload_n C dX9_watches_44 rfl ?_
          refine V_get C dX9_watches_45 (rdO (j := 9) 73 rfl rfl rfl rfl rfl) in_X9 (by decide) q916 rfl ?_
          try simp (disch := omega) only [rS_p74, rS_p6, rS_p7, rS_74, rS_6, rS_7, rS_j, rS_rS]
          refine V_if_eq C dX9_watches_48 (fun c48 => ?_) (fun c48 => ?_)
          · refine V_iconst C 0 dX9_watches_62 (by decide) ?_
            refine V_st (st' := [.int (wcY (σ 73 9) (quarterF g)), .ref (ad E 73)]) (by unfold wcY; first | (rw [if_pos c48]; done) | (rw [if_neg c48, if_pos c55]; done) | (rw [if_neg c48, if_neg c55]; done)) ?_
            refine V_put C dX9_watches_63 (wrO (j := 7) 73 rfl rfl rfl rfl rfl rfl) ft_X9 (by decide) q914 rfl rfl (nar01 (wcY_01 _ _)) (fit01 (wcY_01 _ _)) ?_
            try simp (disch := omega) only [rS_p74, rS_p6, rS_p7, rS_74, rS_6, rS_7, rS_j, rS_rS]
            refine V_forget 3 ?_
            refine V_iinc C 1 dX9_watches_66 rfl (by decide) rfl ?_
            refine V_goto C dX9_watches_69 ?_
            exact V_nx rfl (by simp [← nI_1] <;> rfl) (ih (i + 1) (quarterF g) (wcA (quarterF g) a) (wcY (σ 73 9) (quarterF g)) (by omega) (Inv_quarterF hI) (by have z := hw; unfold wt at z; rw [if_neg c11] at z; exact z))
          · refine V_aload_n C dX9_watches_51 rfl ?_
            refine V_cv C hE dX9_watches_52 (c_X9_coldSet) kyX9_coldSet q1110 (isoO 73 rfl rfl rfl rfl) rfl rfl rfl ?_
            try simp (disch := omega) only [rS_p74, rS_p6, rS_p7, rS_74, rS_6, rS_7, rS_j, rS_rS]
            try simp (disch := omega) only [rS_p74, rS_p6, rS_p7, rS_74, rS_6, rS_7, rS_j, rS_rS]
            refine V_if_eq C dX9_watches_55 (fun c55 => ?_) (fun c55 => ?_)
            · refine V_iconst C 0 dX9_watches_62 (by decide) ?_
              refine V_st (st' := [.int (wcY (σ 73 9) (quarterF g)), .ref (ad E 73)]) (by unfold wcY; first | (rw [if_pos c48]; done) | (rw [if_neg c48, if_pos c55]; done) | (rw [if_neg c48, if_neg c55]; done)) ?_
              refine V_put C dX9_watches_63 (wrO (j := 7) 73 rfl rfl rfl rfl rfl rfl) ft_X9 (by decide) q914 rfl rfl (nar01 (wcY_01 _ _)) (fit01 (wcY_01 _ _)) ?_
              try simp (disch := omega) only [rS_p74, rS_p6, rS_p7, rS_74, rS_6, rS_7, rS_j, rS_rS]
              refine V_forget 3 ?_
              refine V_iinc C 1 dX9_watches_66 rfl (by decide) rfl ?_
              refine V_goto C dX9_watches_69 ?_
              exact V_nx rfl (by simp [← nI_1] <;> rfl) (ih (i + 1) (quarterF g) (wcA (quarterF g) a) (wcY (σ 73 9) (quarterF g)) (by omega) (Inv_quarterF hI) (by have z := hw; unfold wt at z; rw [if_neg c11] at z; exact z))
            · refine V_iconst C 1 dX9_watches_58 (by decide) ?_
              refine V_goto C dX9_watches_59 ?_
              refine V_st (st' := [.int (wcY (σ 73 9) (quarterF g)), .ref (ad E 73)]) (by unfold wcY; first | (rw [if_pos c48]; done) | (rw [if_neg c48, if_pos c55]; done) | (rw [if_neg c48, if_neg c55]; done)) ?_
              refine V_put C dX9_watches_63 (wrO (j := 7) 73 rfl rfl rfl rfl rfl rfl) ft_X9 (by decide) q914 rfl rfl (nar01 (wcY_01 _ _)) (fit01 (wcY_01 _ _)) ?_
              try simp (disch := omega) only [rS_p74, rS_p6, rS_p7, rS_74, rS_6, rS_7, rS_j, rS_rS]
              refine V_forget 3 ?_
              refine V_iinc C 1 dX9_watches_66 rfl (by decide) rfl ?_
              refine V_goto C dX9_watches_69 ?_
              exact V_nx rfl (by simp [← nI_1] <;> rfl) (ih (i + 1) (quarterF g) (wcA (quarterF g) a) (wcY (σ 73 9) (quarterF g)) (by omega) (Inv_quarterF hI) (by have z := hw; unfold wt at z; rw [if_neg c11] at z; exact z))
  exact V_nx (rS_id σ).symm rfl (lp n 0 _ _ _ (by omega) hI hT0)

theorem c_X9_visits {l : Launch} {E : En} {σ : Sg} {b : Nat} {s : Int32} (hG : GV (σ 74)) (hb : b ≤ 7) (hs : inP s 1 12) (hz : σ 73 5 = 0) : MD l yX9_visits cX9_visits 3 none rmX9_visits E [.ref (ad E 73), .int (nI b), .int s] σ none (rS σ (vis (σ 73 9) (σ 73 8) s b (σ 74, σ 73 6, σ 73 7))) := by
  refine MD_of (by decide +kernel) rfl fun x C hE hT hcan => ?_
  have C : CX x cX9_visits RX9 rmX9_visits := C
  refine V_L (L' := [some (.ref (ad E 73)), some (.int (nI b)), some (.int s)]) rfl ?_
  refine V_aload_n C dX9_visits_0 rfl ?_
  refine V_iload_n C dX9_visits_1 rfl ?_
  refine V_cv0 C hE dX9_visits_2 (c_X9_sends (b := b) hG.2.2.1 hG.2.2.2 hb) kyX9_sends q1073 (isoO 73 rfl rfl rfl rfl) rfl rfl rfl ?_
  try simp only [us_us, us_s]
  refine V_aload_n C dX9_visits_5 rfl ?_
  refine V_aload_n C dX9_visits_6 rfl ?_
  refine V_get C dX9_visits_7 (rdO (j := 0) 73 rfl rfl rfl rfl rfl) in_X9 (by decide) q907 rfl ?_
  refine V_iconst C 3 dX9_visits_10 (by decide) ?_
  refine V_iald C 3 rfl rfl rfl dX9_visits_11 (rdM 74 3 rfl rfl rfl) ?_
  try simp only [us_us, us_s]
  refine V_iload_n C dX9_visits_12 rfl ?_
  try simp only [us_s, goF_3]
  refine V_iadd C dX9_visits_13 ?_
  refine V_st (st' := [.int (nI (legK s (σ 74) b)), .ref (ad E 73)]) (by rw [← (legK_b hG hb hs).1]) ?_
  refine V_cv0 C hE dX9_visits_14 (c_X9_watches (n := legK s (σ 74) b) (by rw [us_s]; exact (GV_goF hG hb).1) (by rw [us_n (by omega)]; exact hz) (by have := (legK_b hG hb hs).2; omega)) kyX9_watches q1214 (isoO 73 rfl rfl rfl rfl) rfl rfl rfl ?_
  try simp only [us_us, us_s]
  exact V_retD C dX9_visits_17 hT (by rw [rS_u74]; unfold vis; rw [us_n (show (73:Nat) ≠ 74 by omega)])

theorem c_X9_goesRound {l : Launch} {E : En} {σ : Sg} {s : Int32} (hG : GV (σ 74)) (hs : inP s 1 12) (hz : σ 73 5 = 0) : MD l yX9_goesRound cX9_goesRound 3 none rmX9_goesRound E [.ref (ad E 73), .int s] σ none (rS σ (gR (σ 73 9) (σ 73 8) s id (σ 74, 400, 0) (nh (σ 74)))) := by
  refine MD_of (by decide +kernel) rfl fun x C hE hT hcan => ?_
  have C : CX x cX9_goesRound RX9 rmX9_goesRound := C
  have h8 : nh (σ 74) ≤ 8 := (hcan.2.1 74 (by omega) (by omega)).2.1
  refine V_L (L' := [some (.ref (ad E 73)), some (.int s), none]) rfl ?_
  refine V_aload_n C dX9_goesRound_0 rfl ?_
  refine V_cv0 C hE dX9_goesRound_1 (c_X9_begins) kyX9_begins q1206 (isoO 73 rfl rfl rfl rfl) rfl rfl rfl ?_
  refine V_iconst C 0 dX9_goesRound_4 (by decide) ?_
  refine V_istore_n C dX9_goesRound_5 rfl ?_
  have lp : ∀ (d i : Nat) , i + d = nh (σ 74) → V x (eA E) (AP x E (rS σ (gR (σ 73 9) (σ 73 8) s id (σ 74, 400, 0) i))) 0 0 6 [some (.ref (ad E 73)), some (.int s), some (.int (nI i))] [] := by
    intro d
    induction d with
    | zero =>
      intro i  hi' 
      have hN : i = nh (σ 74) := by omega
      have hn1i : (gR (σ 73 9) (σ 73 8) s id (σ 74, 400, 0) i).1 1 = nI (nh (σ 74)) := by rw [(gR_GV (t := (σ 74, 400, 0)) hG i (fun j hj => by show j ≤ 7; omega)).1.1.1, gR_nh]
      refine V_iload_n C dX9_goesRound_6 rfl ?_
      refine V_aload_n C dX9_goesRound_7 rfl ?_
      refine V_get C dX9_goesRound_8 (rdO (j := 0) 73 rfl rfl rfl rfl rfl) in_X9 (by decide) q907 rfl ?_
      refine V_iconst C 1 dX9_goesRound_11 (by decide) ?_
      refine V_iald C 1 rfl rfl rfl dX9_goesRound_12 (rdM 74 1 rfl rfl rfl) ?_
      try simp (disch := omega) only [rS_p74, rS_p6, rS_p7, rS_74, rS_6, rS_7, rS_j, rS_rS]
      refine V_icmp_ge C dX9_goesRound_13 (fun c13 => ?_) (fun c13 => absurd (by rw [hn1i, hN] <;> exact nI_le (Nat.le_refl _) (by omega)) c13)
      exact V_retD C dX9_goesRound_28 hT (by rw [hN])
    | succ d ih =>
      intro i  hi' 
      have hGi : GV (gR (σ 73 9) (σ 73 8) s id (σ 74, 400, 0) i).1 := gR_GV (t := (σ 74, 400, 0)) hG i (fun j hj => by show j ≤ 7; omega)
      have hn1i : (gR (σ 73 9) (σ 73 8) s id (σ 74, 400, 0) i).1 1 = nI (nh (σ 74)) := by rw [hGi.1.1.1, gR_nh]
      refine V_iload_n C dX9_goesRound_6 rfl ?_
      refine V_aload_n C dX9_goesRound_7 rfl ?_
      refine V_get C dX9_goesRound_8 (rdO (j := 0) 73 rfl rfl rfl rfl rfl) in_X9 (by decide) q907 rfl ?_
      refine V_iconst C 1 dX9_goesRound_11 (by decide) ?_
      refine V_iald C 1 rfl rfl rfl dX9_goesRound_12 (rdM 74 1 rfl rfl rfl) ?_
      try simp (disch := omega) only [rS_p74, rS_p6, rS_p7, rS_74, rS_6, rS_7, rS_j, rS_rS]
      refine V_icmp_ge C dX9_goesRound_13 (fun c13 => absurd c13 (by rw [hn1i]; exact nI_ge (by omega) (by omega))) (fun c13 => ?_)
      refine V_aload_n C dX9_goesRound_16 rfl ?_
      refine V_iload_n C dX9_goesRound_17 rfl ?_
      refine V_iload_n C dX9_goesRound_18 rfl ?_
      refine V_cv0 C hE dX9_goesRound_19 (c_X9_visits (b := i) (s := s) (by rw [rS_74]; exact hGi) (by omega) hs (by rw [rS_j (by omega) (by omega)]; exact hz)) kyX9_visits q1210 (isoO 73 rfl rfl rfl rfl) rfl rfl rfl ?_
      try simp (disch := omega) only [rS_p74, rS_p6, rS_p7, rS_74, rS_6, rS_7, rS_j, rS_rS]
      refine V_iinc C 1 dX9_goesRound_22 rfl (by decide) rfl ?_
      refine V_goto C dX9_goesRound_25 ?_
      exact V_nx rfl (by simp [← nI_1] <;> rfl) (ih (i + 1) (by omega))
  exact lp (nh (σ 74)) 0 (by omega)

/-- a round without a floor: all runs through -/
theorem c_X9_goesRoundR {l : Launch} {E : En} {σ : Sg} {s : Int32} (hG : GV (σ 74)) (hs : inP s 1 12) (hz : σ 73 5 = 0) (hfl : σ 73 8 = -1) (hwa : σ 73 9 = 0) : MD l yX9_goesRound cX9_goesRound 3 none rmX9_goesRound E [.ref (ad E 73), .int s] σ none (rS σ (rnV s id (σ 74) (nh (σ 74)), rnA s id (σ 74) 400 (nh (σ 74)), 0)) := by
  have e := (gR_run (s := s) (h := id) hG (nh (σ 74)) (fun j hj => by have := hG.1.1.2.1; show j ≤ 7; omega)).1
  rw [← e]
  have q := c_X9_goesRound (l := l) (E := E) hG hs hz
  rw [hfl, hwa] at q
  exact q
/-- the trial's slots, the floor and what is asked -/
abbrev MZ (σ : Sg) : Prop := σ 73 5 = 0 ∧ σ 73 8 = -1 ∧ σ 73 9 = 0
theorem rS_bk {σ u : Sg} (h : EqY σ u) (t : Tri) {f : Nat → Int32} (hf : f = σ 74) : EqY σ (us (rS u t) 74 f) := (rS_Z (EqZ.of h) t).bk hf
theorem MZ_y {σ u : Sg} (h : EqY σ u) (hz : MZ σ) : MZ u := ⟨(h.2 5 (by omega)).trans hz.1, (h.2 8 (by omega)).trans hz.2.1, (h.2 9 (by omega)).trans hz.2.2⟩

theorem c_X9_leastRound {l : Launch} {E : En} {σ : Sg} {s : Int32} (hG : GV (σ 74)) (hs : inP s 1 12) (hz : MZ σ) : MN l yX9_leastRound cX9_leastRound 2 (some .int) rmX9_leastRound E [.ref (ad E 73), .int s] σ (fun r u => r = some (.int (rnA s id (σ 74) 400 (nh (σ 74)))) ∧ EqY σ u) := by
  refine MN_of (by decide +kernel) rfl fun x C hE hT hcan => ?_
  have C : CX x cX9_leastRound RX9 rmX9_leastRound := C
  refine V_L (L' := [some (.ref (ad E 73)), some (.int s)]) rfl ?_
  refine V_aload_n C dX9_leastRound_0 rfl ?_
  refine V_cv0 C hE dX9_leastRound_1 (c_X9_savesV) kyX9_saves q1122 (isoO 73 rfl rfl rfl rfl) rfl rfl rfl ?_
  refine V_aload_n C dX9_leastRound_4 rfl ?_
  refine V_iload_n C dX9_leastRound_5 rfl ?_
  refine V_cv0 C hE dX9_leastRound_6 (c_X9_goesRoundR (by simp (disch := omega) only [sv_74, sv_76, sv_n]; exact hG) hs (by simp (disch := omega) only [sv_74, sv_76, sv_n]; exact hz.1) (by simp (disch := omega) only [sv_74, sv_76, sv_n]; exact hz.2.1) (by simp (disch := omega) only [sv_74, sv_76, sv_n]; exact hz.2.2)) kyX9_goesRound q1202 (isoO 73 rfl rfl rfl rfl) rfl rfl rfl ?_
  refine V_aload_n C dX9_leastRound_9 rfl ?_
  refine V_gn (Pu := fun w => w 73 6 = rnA s id (σ 74) 400 (nh (σ 74)) ∧ w 76 = σ 74 ∧ EqZ σ w) ⟨by rw [rS_6, sv_74], by rw [rS_n (by omega) (by omega), sv_76], rS_Z (EqZ.of (EqY.sv σ)) _⟩ ?_
  rintro w ⟨w1, w2, w3⟩
  refine V_cv0 C hE dX9_leastRound_10 (c_X9_putsBack) kyX9_putsBack q1130 (isoO 73 rfl rfl rfl rfl) rfl rfl rfl ?_
  rw [w2]
  refine V_aload_n C dX9_leastRound_13 rfl ?_
  refine V_get C dX9_leastRound_14 (rdO (j := 6) 73 rfl rfl rfl rfl rfl) in_X9 (by decide) q913 rfl ?_
  refine V_st (st' := [.int (rnA s id (σ 74) 400 (nh (σ 74)))]) (by rw [us_n (by omega), w1]) ?_
  exact V_iretN C dX9_leastRound_17 hT (⟨rfl, w3.bk rfl⟩)

theorem c_X9_round {l : Launch} {E : En} {σ : Sg} {p0 : Int32}  (hG : GV (σ 74)) (hz : MZ σ) : MN l yX9_round cX9_round 2 (some .int) rmX9_round E [.ref (ad E 73), .int p0] σ (PQ σ (S_round (σ 74) p0) (σ)) := by
  refine MN_of (by decide +kernel) rfl fun x C hE hT hcan => ?_
  have C : CX x cX9_round RX9 rmX9_round := C
  refine V_L (L' := [some (.ref (ad E 73)), some (.int p0)]) rfl ?_
  refine V_iload_n C dX9_round_0 rfl ?_
  refine V_cs C hE dX9_round_1 (c_X9_isStay) kyX9_isStay q1190 rfl rfl rfl ?_
  refine V_ifne_b C dX9_round_4 (fun c4 => ?_) (fun c4 => ?_)
  · refine V_aload_n C dX9_round_14 rfl ?_
    refine V_cv C hE dX9_round_15 (c_X9_isBarred) kyX9_isBarred q1194 (isoO 73 rfl rfl rfl rfl) rfl rfl rfl ?_
    refine V_ifeq_b C dX9_round_18 (fun c18 => ?_) (fun c18 => ?_)
    · refine V_aload_n C dX9_round_30 rfl ?_
      refine V_iload_n C dX9_round_31 rfl ?_
      refine V_cq C hE dX9_round_32 (c_X9_leastRound hG c4 hz) kyX9_leastRound q1198 (isoO 73 rfl rfl rfl rfl) rfl rfl rfl ?_
      rintro u hu
      exact V_iretN C dX9_round_35 hT (PQ_rd (by unfold S_round; rw [if_pos c4, if_neg c18]) hu)
    · refine V_aload_n C dX9_round_21 rfl ?_
      refine V_ldc C dX9_round_22 q1056 ?_
      refine V_cv C hE dX9_round_24 (c_X9_finds (j := 4) (by decide +kernel) (by omega)) kyX9_finds q995 (isoO 73 rfl rfl rfl rfl) rfl rfl rfl ?_
      refine V_goto C dX9_round_27 ?_
      exact V_iretN C dX9_round_35 hT (PQ_fail (by decide +kernel) (by unfold S_round; all_goals (first | rw [if_pos c4] | rw [if_neg c4]); all_goals (first | rw [if_pos c18] | rw [if_neg c18])) (EqY.rf σ))
  · refine V_aload_n C dX9_round_7 rfl ?_
    refine V_ldc C dX9_round_8 q994 ?_
    refine V_cv C hE dX9_round_10 (c_X9_finds (j := 0) (by decide +kernel) (by omega)) kyX9_finds q995 (isoO 73 rfl rfl rfl rfl) rfl rfl rfl ?_
    exact V_iretN C dX9_round_13 hT (PQ_fail (by decide +kernel) (by unfold S_round; all_goals (first | rw [if_pos c4] | rw [if_neg c4])) (EqY.rf σ))

theorem c_X9_takes {l : Launch} {E : En} {σ : Sg} {p0 : Int32}  (hG : GV (σ 74)) (hz : MZ σ) : MN l yX9_takes cX9_takes 3 (some .int) rmX9_takes E [.ref (ad E 73), .int p0] σ (PQ σ (S_takes (σ 74) p0) (σ)) := by
  refine MN_of (by decide +kernel) rfl fun x C hE hT hcan => ?_
  have C : CX x cX9_takes RX9 rmX9_takes := C
  refine V_L (L' := [some (.ref (ad E 73)), some (.int p0), none]) rfl ?_
  refine V_iload_n C dX9_takes_0 rfl ?_
  refine V_cs C hE dX9_takes_1 (c_X9_isStay) kyX9_isStay q1190 rfl rfl rfl ?_
  refine V_ifne_b C dX9_takes_4 (fun c4 => ?_) (fun c4 => ?_)
  · refine V_aload_n C dX9_takes_14 rfl ?_
    refine V_cv C hE dX9_takes_15 (c_X9_isBarred) kyX9_isBarred q1194 (isoO 73 rfl rfl rfl rfl) rfl rfl rfl ?_
    refine V_ifeq_b C dX9_takes_18 (fun c18 => ?_) (fun c18 => ?_)
    · refine V_aload_n C dX9_takes_28 rfl ?_
      refine V_cv0 C hE dX9_takes_29 (c_X9_savesV) kyX9_saves q1122 (isoO 73 rfl rfl rfl rfl) rfl rfl rfl ?_
      refine V_aload_n C dX9_takes_32 rfl ?_
      refine V_iload_n C dX9_takes_33 rfl ?_
      refine V_cv0 C hE dX9_takes_34 (c_X9_goesRoundR (by simp (disch := omega) only [sv_74, sv_76, sv_n]; exact hG) c4 (by simp (disch := omega) only [sv_74, sv_76, sv_n]; exact hz.1) (by simp (disch := omega) only [sv_74, sv_76, sv_n]; exact hz.2.1) (by simp (disch := omega) only [sv_74, sv_76, sv_n]; exact hz.2.2)) kyX9_goesRound q1202 (isoO 73 rfl rfl rfl rfl) rfl rfl rfl ?_
      refine V_gn (Pu := fun w => w 74 = rnV p0 id (σ 74) (nh (σ 74)) ∧ w 76 = σ 74 ∧ EqZ σ w) ⟨by rw [rS_74, sv_74], by rw [rS_n (by omega) (by omega), sv_76], rS_Z (EqZ.of (EqY.sv σ)) _⟩ ?_
      rintro w ⟨w1, w2, w3⟩
      refine V_aload_n C dX9_takes_37 rfl ?_
      refine V_get C dX9_takes_38 (rdO (j := 0) 73 rfl rfl rfl rfl rfl) in_X9 (by decide) q907 rfl ?_
      refine V_iconst C 0 dX9_takes_41 (by decide) ?_
      refine V_iald C 0 rfl rfl rfl dX9_takes_42 (rdM 74 0 rfl rfl rfl) ?_
      refine V_aload_n C dX9_takes_43 rfl ?_
      refine V_get C dX9_takes_44 (rdO (j := 2) 73 rfl rfl rfl rfl rfl) in_X9 (by decide) q909 rfl ?_
      refine V_iconst C 0 dX9_takes_47 (by decide) ?_
      refine V_iald C 0 rfl rfl rfl dX9_takes_48 (rdM 76 0 rfl rfl rfl) ?_
      refine V_isub C dX9_takes_49 ?_
      rw [w1, w2]
      refine V_istore_n C dX9_takes_50 rfl ?_
      refine V_aload_n C dX9_takes_51 rfl ?_
      refine V_cv0 C hE dX9_takes_52 (c_X9_putsBack) kyX9_putsBack q1130 (isoO 73 rfl rfl rfl rfl) rfl rfl rfl ?_
      rw [w2]
      refine V_iload_n C dX9_takes_55 rfl ?_
      exact V_iretN C dX9_takes_56 hT (PQ_rd (by unfold S_takes; rw [if_pos c4, if_neg c18]) (w3.bk rfl))
    · refine V_aload_n C dX9_takes_21 rfl ?_
      refine V_ldc C dX9_takes_22 q1056 ?_
      refine V_cv C hE dX9_takes_24 (c_X9_finds (j := 4) (by decide +kernel) (by omega)) kyX9_finds q995 (isoO 73 rfl rfl rfl rfl) rfl rfl rfl ?_
      exact V_iretN C dX9_takes_27 hT (PQ_fail (by decide +kernel) (by unfold S_takes; all_goals (first | rw [if_pos c4] | rw [if_neg c4]); all_goals (first | rw [if_pos c18] | rw [if_neg c18])) (EqY.rf σ))
  · refine V_aload_n C dX9_takes_7 rfl ?_
    refine V_ldc C dX9_takes_8 q994 ?_
    refine V_cv C hE dX9_takes_10 (c_X9_finds (j := 0) (by decide +kernel) (by omega)) kyX9_finds q995 (isoO 73 rfl rfl rfl rfl) rfl rfl rfl ?_
    exact V_iretN C dX9_takes_13 hT (PQ_fail (by decide +kernel) (by unfold S_takes; all_goals (first | rw [if_pos c4] | rw [if_neg c4])) (EqY.rf σ))

theorem amax_n {g : Nat → Int32} (h : ∀ i, 0 ≤ g i) : ∀ n, (amax g (n+1)).2 ≠ -1 ∧ ∃ k, k ≤ n ∧ (amax g (n+1)).1 = nI k := by
  intro n
  induction n with
  | zero =>
    have e : amax g 1 = (nI 0, g 0) := if_pos (Int32.lt_of_lt_of_le (show (-1:Int32) < 0 by decide) (h 0))
    rw [e]; exact ⟨fun q => absurd (q ▸ h 0 : (0:Int32) ≤ -1) (by decide), 0, by omega, rfl⟩
  | succ n ih =>
    by_cases c : (amax g (n+1)).2 < g (n+1)
    · have e : amax g (n+2) = (nI (n+1), g (n+1)) := if_pos c
      rw [e]; exact ⟨fun q => absurd (q ▸ h (n+1) : (0:Int32) ≤ -1) (by decide), n+1, by omega, rfl⟩
    · have e : amax g (n+2) = amax g (n+1) := if_neg c
      rw [e]; exact ⟨ih.1, ih.2.elim fun k hk => ⟨k, by omega, hk.2⟩⟩
/-- the greatest, its place counted from one; 0 before all -/
def amaxP (g : Nat → Int32) : Nat → Int32
  | 0 => 0
  | i + 1 => (amax g (i+1)).1 + 1
theorem amaxP_s {g : Nat → Int32} {i : Nat} (h : ¬ g i ≤ (amax g i).2) : amaxP g (i+1) = nI (i+1) := by
  show (amax g (i+1)).1 + 1 = _
  rw [amax_s h, nI_1]
theorem amaxP_k {g : Nat → Int32} {i : Nat} (h0 : ∀ i, 0 ≤ g i) (h : g i ≤ (amax g i).2) : amaxP g (i+1) = amaxP g i := by
  cases i with
  | zero => exact absurd (Int32.le_trans (h0 0) h) (by show ¬ (0:Int32) ≤ -1; decide)
  | succ i => show (amax g (i+2)).1 + 1 = (amax g (i+1)).1 + 1; rw [amax_k h]
theorem stay_in {i : Nat} (h : i < 12) : inP (nI (i+1)) 1 12 := ⟨nI_le (a := 1) (by omega) (by omega), nI_le (b := 12) (by omega) (by omega)⟩

theorem c_X9_pace {l : Launch} {E : En} {σ : Sg}   (hG : GV (σ 74)) (hz : MZ σ) : MN l yX9_pace cX9_pace 5 (some .int) rmX9_pace E [.ref (ad E 73)] σ (PQ σ (S_pace (σ 74)) (σ)) := by
  refine MN_of (by decide +kernel) rfl fun x C hE hT hcan => ?_
  have C : CX x cX9_pace RX9 rmX9_pace := C
  have h8 : nh (σ 74) ≤ 8 := (hcan.2.1 74 (by omega) (by omega)).2.1
  refine V_L (L' := [some (.ref (ad E 73)), none, none, none, none]) rfl ?_
  refine V_aload_n C dX9_pace_0 rfl ?_
  refine V_cv C hE dX9_pace_1 (c_X9_isBarred) kyX9_isBarred q1194 (isoO 73 rfl rfl rfl rfl) rfl rfl rfl ?_
  refine V_ifeq_b C dX9_pace_4 (fun c4 => ?_) (fun c4 => ?_)
  · have hg0 : ∀ i, 0 ≤ (fun k => rnA (nI (k+1)) id (σ 74) 400 (nh (σ 74))) i := fun k => (gR_run (s := nI (k+1)) (h := id) hG (nh (σ 74)) (fun j hj => by show j ≤ 7; omega)).2.1
    refine V_iconst C 0 dX9_pace_14 (by decide) ?_
    refine V_istore_n C dX9_pace_15 rfl ?_
    refine V_iconst C (-1) dX9_pace_16 (by decide) ?_
    refine V_istore_n C dX9_pace_17 rfl ?_
    refine V_iconst C 1 dX9_pace_18 (by decide) ?_
    refine V_istore_n C dX9_pace_19 rfl ?_
    have lp : ∀ (d i : Nat) (u : Sg), i + d = 12 → (EqY σ u) → V x (eA E) (AP x E (u)) 0 0 20 [some (.ref (ad E 73)), some (.int (amaxP (fun k => rnA (nI (k+1)) id (σ 74) 400 (nh (σ 74))) i)), some (.int (amax (fun k => rnA (nI (k+1)) id (σ 74) 400 (nh (σ 74))) i).2), some (.int (nI (i+1))), none] [] := by
      intro d
      induction d with
      | zero =>
        intro i u hi' hu
        have hN : i = 12 := by omega
        refine V_iload_n C dX9_pace_20 rfl ?_
        refine V_bipush C 13 dX9_pace_21 (by decide) ?_
        refine V_icmp_ge C dX9_pace_23 (fun c23 => ?_) (fun c23 => absurd (by rw [hN]; decide) c23)
        refine V_iload_n C dX9_pace_64 rfl ?_
        exact V_iretN C dX9_pace_65 hT (PQ_rd (by unfold S_pace; rw [if_neg c4, hN]; rfl) hu)
      | succ d ih =>
        intro i u hi' hu
        refine V_iload_n C dX9_pace_20 rfl ?_
        refine V_bipush C 13 dX9_pace_21 (by decide) ?_
        refine V_icmp_ge C dX9_pace_23 (fun c23 => absurd c23 (nI_ge (b := 13) (by omega) (by omega))) (fun c23 => ?_)
        refine V_aload_n C dX9_pace_26 rfl ?_
        refine V_iload_n C dX9_pace_27 rfl ?_
        refine V_cq C hE dX9_pace_28 (c_X9_leastRound (s := nI (i+1)) (by rw [hu.z]; exact hG) (stay_in (by omega)) (MZ_y hu hz)) kyX9_leastRound q1198 (isoO 73 rfl rfl rfl rfl) rfl rfl rfl ?_
        rintro u2 hu2
        rw [hu.z]
        refine V_istore C dX9_pace_31 rfl ?_
        refine V_iload C dX9_pace_33 rfl ?_
        refine V_iload_n C dX9_pace_35 rfl ?_
        by_cases hv : (fun k => rnA (nI (k+1)) id (σ 74) 400 (nh (σ 74))) i ≤ (amax (fun k => rnA (nI (k+1)) id (σ 74) 400 (nh (σ 74))) i).2
        · refine V_icmp_le C dX9_pace_36 (fun c36 => ?_) (fun c36 => absurd (hv) c36)
          refine V_iload_n C dX9_pace_43 rfl ?_
          refine V_istore_n C dX9_pace_44 rfl ?_
          refine V_iload C dX9_pace_45 rfl ?_
          refine V_iload_n C dX9_pace_47 rfl ?_
          refine V_icmp_le C dX9_pace_48 (fun c48 => ?_) (fun c48 => absurd (hv) c48)
          refine V_iload_n C dX9_pace_56 rfl ?_
          refine V_istore_n C dX9_pace_57 rfl ?_
          refine V_forget 4 ?_
          refine V_iinc C 1 dX9_pace_58 rfl (by decide) rfl ?_
          refine V_goto C dX9_pace_61 ?_
          exact V_nx rfl (by first | (rw [amax_k (g := (fun k => rnA (nI (k+1)) id (σ 74) 400 (nh (σ 74)))) hv, amaxP_k (g := (fun k => rnA (nI (k+1)) id (σ 74) 400 (nh (σ 74)))) hg0 hv]; simp [← nI_1] <;> rfl) | (rw [amax_s (g := (fun k => rnA (nI (k+1)) id (σ 74) 400 (nh (σ 74)))) hv, amaxP_s (g := (fun k => rnA (nI (k+1)) id (σ 74) 400 (nh (σ 74)))) hv]; simp [← nI_1] <;> rfl)) (ih (i + 1) u2 (by omega) (hu.tr hu2))
        · refine V_icmp_le C dX9_pace_36 (fun c36 => absurd c36 (hv)) (fun c36 => ?_)
          refine V_iload_n C dX9_pace_39 rfl ?_
          refine V_goto C dX9_pace_40 ?_
          refine V_istore_n C dX9_pace_44 rfl ?_
          refine V_iload C dX9_pace_45 rfl ?_
          refine V_iload_n C dX9_pace_47 rfl ?_
          refine V_icmp_le C dX9_pace_48 (fun c48 => absurd c48 (hv)) (fun c48 => ?_)
          refine V_iload C dX9_pace_51 rfl ?_
          refine V_goto C dX9_pace_53 ?_
          refine V_istore_n C dX9_pace_57 rfl ?_
          refine V_forget 4 ?_
          refine V_iinc C 1 dX9_pace_58 rfl (by decide) rfl ?_
          refine V_goto C dX9_pace_61 ?_
          exact V_nx rfl (by first | (rw [amax_k (g := (fun k => rnA (nI (k+1)) id (σ 74) 400 (nh (σ 74)))) hv, amaxP_k (g := (fun k => rnA (nI (k+1)) id (σ 74) 400 (nh (σ 74)))) hg0 hv]; simp [← nI_1] <;> rfl) | (rw [amax_s (g := (fun k => rnA (nI (k+1)) id (σ 74) 400 (nh (σ 74)))) hv, amaxP_s (g := (fun k => rnA (nI (k+1)) id (σ 74) 400 (nh (σ 74)))) hv]; simp [← nI_1] <;> rfl)) (ih (i + 1) u2 (by omega) (hu.tr hu2))
    exact lp 12 0 σ (by omega) (EqY.rf σ)
  · refine V_aload_n C dX9_pace_7 rfl ?_
    refine V_ldc C dX9_pace_8 q1056 ?_
    refine V_cv C hE dX9_pace_10 (c_X9_finds (j := 4) (by decide +kernel) (by omega)) kyX9_finds q995 (isoO 73 rfl rfl rfl rfl) rfl rfl rfl ?_
    exact V_iretN C dX9_pace_13 hT (PQ_fail (by decide +kernel) (by unfold S_pace; all_goals (first | rw [if_pos c4] | rw [if_neg c4])) (EqY.rf σ))

