theorem PQ_eq {σ σ1 u : Sg} {S S' : Rs} {r : Option Value} (e : S = S') (h : PQ σ S' σ1 r u) : PQ σ S σ1 r u := by rw [e]; exact h
theorem V_gn {x : Cx} {E : En} {A : Nat → Prop} {σ : Sg} {k n pc : Nat} {L : List (Option Value)} {st : List Value} {Pu : Sg → Prop} (hp : Pu σ) (h : ∀ w, Pu w → V x A (AP x E w) k n pc L st) : V x A (AP x E σ) k n pc L st := h σ hp
/-- as EqY, but the trial stands where it stands -/
def EqZ (σ u : Sg) : Prop := (∀ c, ¬ TY c → c ≠ 74 → u c = σ c) ∧ ∀ j, ¬ SY j → u 73 j = σ 73 j
def EqZa (σ u : Sg) : Prop := (∀ c, ¬ TY c → c ≠ 74 → u c = σ c) ∧ ∀ j, ¬ SY j → j ≠ 5 → u 73 j = σ 73 j
theorem EqZ.of {σ u : Sg} (h : EqY σ u) : EqZ σ u := ⟨fun c h1 _ => h.1 c h1, h.2⟩
theorem EqZ.p74 {σ u : Sg} (h : EqZ σ u) {f : Nat → Int32} : EqZ σ (us u 74 f) := ⟨fun c h1 h2 => by rw [us_n h2]; exact h.1 c h1 h2, fun j hj => by rw [us_n (by omega)]; exact h.2 j hj⟩
theorem EqZ.put {σ u : Sg} (h : EqZ σ u) {c : Nat} {f : Nat → Int32} (hc : TY c) (h3 : c ≠ 73) : EqZ σ (us u c f) := ⟨fun c' h1 h2 => by
    rw [us_n (fun e => h1 (by rw [e]; exact hc))]; exact h.1 c' h1 h2, fun j hj => by rw [us_n (Ne.symm h3)]; exact h.2 j hj⟩
theorem EqZ.slot {σ u : Sg} (h : EqZ σ u) {j : Nat} {y : Int32} (hj : SY j) : EqZ σ (us u 73 (upd (u 73) j y)) := ⟨fun c' h1 h2 => by
    rw [us_n (fun e => h1 (Or.inl e))]; exact h.1 c' h1 h2, fun k hk => by
    rw [us_s, upd_n (fun e => hk (by rw [e]; exact hj))]; exact h.2 k hk⟩
theorem EqZ.bk {σ u : Sg} (h : EqZ σ u) {f : Nat → Int32} (hf : f = σ 74) : EqY σ (us u 74 f) := ⟨fun c' h1 => by
    by_cases e : c' = 74
    · subst e; rw [us_s, hf]
    · rw [us_n e]; exact h.1 c' h1 e, fun j hj => by rw [us_n (by omega)]; exact h.2 j hj⟩
theorem EqZ.tr {σ u w : Sg} (h : EqZ σ u) (h2 : EqZ u w) : EqZ σ w := ⟨fun c hc h74 => (h2.1 c hc h74).trans (h.1 c hc h74), fun j hj => (h2.2 j hj).trans (h.2 j hj)⟩
theorem EqZ.p5 {σ u : Sg} (h : EqZ σ u) {y : Int32} : EqZa σ (us u 73 (upd (u 73) 5 y)) := ⟨fun c' h1 h2 => by
    rw [us_n (fun e => h1 (Or.inl e))]; exact h.1 c' h1 h2, fun k hk h5 => by
    rw [us_s, upd_n h5]; exact h.2 k hk⟩
theorem EqZa.p74 {σ u : Sg} (h : EqZa σ u) {f : Nat → Int32} : EqZa σ (us u 74 f) := ⟨fun c h1 h2 => by rw [us_n h2]; exact h.1 c h1 h2, fun j hj h5 => by rw [us_n (by omega)]; exact h.2 j hj h5⟩
theorem EqZa.b5 {σ u : Sg} (h : EqZa σ u) (hz : σ 73 5 = 0) : EqZ σ (us u 73 (upd (u 73) 5 0)) := ⟨fun c' h1 h2 => by
    rw [us_n (fun e => h1 (Or.inl e))]; exact h.1 c' h1 h2, fun k hk => by
    rw [us_s]
    by_cases e : k = 5
    · subst e; rw [upd_s, hz]
    · rw [upd_n e]; exact h.2 k hk e⟩
theorem passN_add (g : Nat → Int32) (a : Nat) : ∀ i, passN (a + i) g = passN i (passN a g) := by
  intro i
  induction i with
  | zero => rfl
  | succ i ih => show quarterF (passN (a + i) g) = quarterF (passN i (passN a g)); rw [ih]
theorem qF_F (f : Nat → Int32) : qF False f = tickF (coolN (nh f) f) := by simp [qF, brdF]
theorem qF_no {f : Nat → Int32} (h : ¬ canB f) : quarterF f = qF False f := by
  rw [qF_F]
  simp only [quarterF, qF, brdF]
  rw [if_neg h, if_neg (fun q => h q.1)]
theorem coolN_u2 (f : Nat → Int32) (y : Int32) : ∀ i, coolN i (upd f 2 y) = upd (coolN i f) 2 y := by
  intro i
  induction i with
  | zero => rfl
  | succ i ih =>
    show uh (coolN i (upd f 2 y)) i 1 _ = upd (uh (coolN i f) i 1 _) 2 y
    rw [ih]
    have e : ∀ j, hf (upd (coolN i f) 2 y) i j = hf (coolN i f) i j := fun j => upd_n (by omega)
    rw [e, e, e, upd_n (show (6:Nat) ≠ 2 by omega)]
    funext k
    unfold uh upd
    by_cases a : k = 15 + 6 * i + 1
    · rw [if_pos a, if_neg (by omega), if_pos a]
    · rw [if_neg a]; split <;> rfl
theorem qF_u2 (f : Nat → Int32) (y : Int32) : qF False (upd f 2 y) = upd (qF False f) 2 y := by
  rw [qF_F, qF_F, nh_upd (by omega), coolN_u2]
  generalize coolN (nh f) f = g
  unfold tickF
  simp only
  rw [upd_n (show (3:Nat) ≠ 2 by omega)]
  funext k
  by_cases h : 0 < g 3
  · rw [if_pos h, if_pos h]; unfold upd; try simp only
    by_cases e : k = 2
    · subst e; simp
    · simp [e]
  · rw [if_neg h, if_neg h]; unfold upd; try simp only
    by_cases e : k = 2
    · subst e; simp
    · simp [e]
theorem aw_eq (g : Nat → Int32) : ∀ n, passN n (upd g 2 (-1)) = upd (awN n g) 2 (-1) := by
  intro n
  induction n with
  | zero => rfl
  | succ n ih =>
    show quarterF (passN n (upd g 2 (-1))) = upd (qF False (awN n g)) 2 (-1)
    rw [ih, qF_no (fun q => by have z := q.1.1; rw [upd_s] at z; exact absurd z (by decide)), qF_u2]
theorem cld_aw (g : Nat → Int32) (n i : Nat) : cldF (passN n (upd g 2 (-1))) i = cldF (awN n g) i := by
  rw [aw_eq]; unfold cldF
  have e : ∀ j, hf (upd (awN n g) 2 (-1)) i j = hf (awN n g) i j := fun j => upd_n (by omega)
  rw [e, e, e]
theorem stay_P (f : Nat → Int32) (b q i : Nat) : stayP f b q i = !cldF (awN q (passN (hk (wayF f (hx f) b) + i) (goF f b))) b := by
  unfold stayP; rw [cld_aw, passN_add]
theorem nh_awN (f : Nat → Int32) : ∀ n, nh (awN n f) = nh f := by
  intro n
  induction n with
  | zero => rfl
  | succ n ih =>
    show nh (qF False (awN n f)) = nh f
    rw [← ih, qF_F]
    unfold tickF
    simp only
    rw [nh_upd (by omega)]
    split
    · rw [nh_upd (by omega), coolN_nh]
    · rw [coolN_nh]

theorem c_X9_stay {l : Launch} {E : En} {σ : Sg} {p0 p1 : Int32}  (hG : GV (σ 74)) (hQ : inP (σ 74 0) 0 9999) (hz : σ 73 5 = 0) : MN l yX9_stay cX9_stay 5 (some .int) rmX9_stay E [.ref (ad E 73), .int p0, .int p1] σ (PQ σ (S_stay (σ 74) p0 p1) (σ)) := by
  refine MN_of (by decide +kernel) rfl fun x C hE hT hcan => ?_
  have C : CX x cX9_stay RX9 rmX9_stay := C
  have h8 : nh (σ 74) ≤ 8 := (hcan.2.1 74 (by omega) (by omega)).2.1
  have hn1 := (hcan.2.1 74 (by omega) (by omega)).1
  refine V_L (L' := [some (.ref (ad E 73)), some (.int p0), some (.int p1), none, none]) rfl ?_
  refine V_aload_n C dX9_stay_0 rfl ?_
  refine V_iload_n C dX9_stay_1 rfl ?_
  by_cases hh : isH (σ 74) p0
  · obtain ⟨b, hb, rfl, hb8⟩ := isH_of (hcan.2.1 74 (by omega) (by omega)) hh
    refine V_cv C hE dX9_stay_2 (c_X9_isHouse) kyX9_isHouse q1011 (isoO 73 rfl rfl rfl rfl) rfl rfl rfl ?_
    try simp (disch := omega) only [us_us, us_s, us_n, sv_74, sv_76, sv_n, sv_bk]
    refine V_ifeq_b C dX9_stay_5 (fun c5 => absurd (hh) c5) (fun c5 => ?_)
    refine V_iload_n C dX9_stay_8 rfl ?_
    refine V_i2l C dX9_stay_9 ?_
    refine V_lconst C 0 dX9_stay_10 (by decide) ?_
    refine V_ldc2 C dX9_stay_11 q1039 ?_
    refine V_cs C hE dX9_stay_14 (c_X9_in (a := p1) (lo := 0) (hi := 40) (by decide +kernel) (by decide +kernel)) kyX9_in q991 rfl rfl rfl ?_
    try simp (disch := omega) only [us_us, us_s, us_n, sv_74, sv_76, sv_n, sv_bk]
    refine V_ifne_b C dX9_stay_17 (fun c17 => ?_) (fun c17 => ?_)
    · refine V_aload_n C dX9_stay_27 rfl ?_
      refine V_cv C hE dX9_stay_28 (c_X9_isGoing) kyX9_isGoing q1069 (isoO 73 rfl rfl rfl rfl) rfl rfl rfl ?_
      try simp (disch := omega) only [us_us, us_s, us_n, sv_74, sv_76, sv_n, sv_bk]
      refine V_ifne_b C dX9_stay_31 (fun c31 => ?_) (fun c31 => ?_)
      · refine V_aload_n C dX9_stay_44 rfl ?_
        refine V_ldc C dX9_stay_45 q1056 ?_
        refine V_cv C hE dX9_stay_47 (c_X9_finds (j := 4) (by decide +kernel) (by omega)) kyX9_finds q995 (isoO 73 rfl rfl rfl rfl) rfl rfl rfl ?_
        try simp (disch := omega) only [us_us, us_s, us_n, sv_74, sv_76, sv_n, sv_bk]
        exact V_iretN C dX9_stay_50 hT (PQ_fail (by decide +kernel) (by unfold S_stay; rw [if_pos hh, if_pos c17, if_pos (by first | exact Or.inl c31 | exact Or.inr (Or.inr c41))]) (EqY.rf σ))
      · refine V_aload_n C dX9_stay_34 rfl ?_
        refine V_sipush C 9800 dX9_stay_35 (by decide) ?_
        refine V_cv C hE dX9_stay_38 (c_X9_isAbove) kyX9_isAbove q1162 (isoO 73 rfl rfl rfl rfl) rfl rfl rfl ?_
        try simp (disch := omega) only [us_us, us_s, us_n, sv_74, sv_76, sv_n, sv_bk]
        refine V_ifeq_b C dX9_stay_41 (fun c41 => ?_) (fun c41 => ?_)
        · have hns : ¬ (0 < σ 74 3 ∨ σ 74 1 = 0 ∨ 9800 < σ 74 0) := fun z => z.elim c31 (fun z => z.elim (isH_ne hh) c41)
          obtain ⟨q, rfl, hq⟩ := i32_le (m := 40) (by omega) c17.1 c17.2
          have hwk := way_hk hG (b := b) (by omega)
          refine V_aload_n C dX9_stay_51 rfl ?_
          refine V_cv0 C hE dX9_stay_52 (c_X9_savesV) kyX9_saves q1122 (isoO 73 rfl rfl rfl rfl) rfl rfl rfl ?_
          try simp (disch := omega) only [us_us, us_s, us_n, sv_74, sv_76, sv_n, sv_bk]
          refine V_iconst C (-1) dX9_stay_55 (by decide) ?_
          refine V_istore_n C dX9_stay_56 rfl ?_
          refine V_iconst C 0 dX9_stay_57 (by decide) ?_
          refine V_istore C dX9_stay_58 rfl ?_
          have jx : ∀ (i k : Nat) (u : Sg), k ≤ 48 → (∀ j, 0 ≤ j → j < k → stayP (σ 74) b q j = false) → stayP (σ 74) b q k = true → EqY σ u → V x (eA E) (AP x E u) 0 0 60 [some (.ref (ad E 73)), some (.int (nI b)), some (.int (nI q)), some (.int (nI k)), some (.int (nI i))] [] := by
            intro i k u hk hp hk2 hu
            refine V_iload C dX9_stay_60 rfl ?_
            refine V_bipush C 49 dX9_stay_62 (by decide) ?_
            refine V_icmp_ge C dX9_stay_64 (fun c64 => ?_) (fun c64 => ?_)
            · refine V_iload_n C dX9_stay_129 rfl ?_
              refine V_if_ge C dX9_stay_130 (fun c130 => ?_) (fun c130 => absurd (nI_pos' (by omega)) c130)
              refine V_iload_n C dX9_stay_142 rfl ?_
              exact V_iretN C dX9_stay_143 hT (PQ_rd (by unfold S_stay; rw [if_pos hh, if_pos c17, if_neg hns, hk_nI hb8, hk_n (show q < 2 ^ 31 by omega), fst_some 49 0 k (by omega) (by omega) hp hk2]; rfl) hu)
            · refine V_iload_n C dX9_stay_67 rfl ?_
              refine V_if_ge C dX9_stay_68 (fun c68 => ?_) (fun c68 => absurd (nI_pos' (by omega)) c68)
              refine V_iload_n C dX9_stay_129 rfl ?_
              refine V_if_ge C dX9_stay_130 (fun c130 => ?_) (fun c130 => absurd (nI_pos' (by omega)) c130)
              refine V_iload_n C dX9_stay_142 rfl ?_
              exact V_iretN C dX9_stay_143 hT (PQ_rd (by unfold S_stay; rw [if_pos hh, if_pos c17, if_neg hns, hk_nI hb8, hk_n (show q < 2 ^ 31 by omega), fst_some 49 0 k (by omega) (by omega) hp hk2]; rfl) hu)
          have lp : ∀ (d i : Nat) (u : Sg), i + d = 49 → (EqY σ u) → (u 76 = σ 74) → (∀ j, 0 ≤ j → j < i → stayP (σ 74) b q j = false) → V x (eA E) (AP x E (u)) 0 0 60 [some (.ref (ad E 73)), some (.int (nI b)), some (.int (nI q)), some (.int (-1)), some (.int (nI i))] [] := by
            intro d
            induction d with
            | zero =>
              intro i u hi' hu h76 hp
              have hN : i = 49 := by omega
              refine V_iload C dX9_stay_60 rfl ?_
              refine V_bipush C 49 dX9_stay_62 (by decide) ?_
              refine V_icmp_ge C dX9_stay_64 (fun c64 => ?_) (fun c64 => absurd (by rw [hN]; decide) c64)
              refine V_iload_n C dX9_stay_129 rfl ?_
              refine V_if_ge C dX9_stay_130 (fun c130 => absurd c130 (by decide)) (fun c130 => ?_)
              refine V_aload_n C dX9_stay_133 rfl ?_
              refine V_ldc C dX9_stay_134 q1138 ?_
              refine V_cv C hE dX9_stay_136 (c_X9_finds (j := 3) (by decide +kernel) (by omega)) kyX9_finds q995 (isoO 73 rfl rfl rfl rfl) rfl rfl rfl ?_
              try simp (disch := omega) only [us_us, us_s, us_n, sv_74, sv_76, sv_n, sv_bk]
              refine V_goto C dX9_stay_139 ?_
              exact V_iretN C dX9_stay_143 hT (PQ_fail (by decide +kernel) (by unfold S_stay; rw [if_pos hh, if_pos c17, if_neg hns, hk_nI hb8, hk_n (show q < 2 ^ 31 by omega), fst_none 49 0 (fun j h1 h2 => hp j h1 (by omega))]; rfl) hu)
            | succ d ih =>
              intro i u hi' hu h76 hp
              refine V_iload C dX9_stay_60 rfl ?_
              refine V_bipush C 49 dX9_stay_62 (by decide) ?_
              refine V_icmp_ge C dX9_stay_64 (fun c64 => absurd c64 (nI_ge (b := 49) (by omega) (by omega))) (fun c64 => ?_)
              refine V_iload_n C dX9_stay_67 rfl ?_
              refine V_if_ge C dX9_stay_68 (fun c68 => absurd c68 (by decide)) (fun c68 => ?_)
              refine V_aload_n C dX9_stay_71 rfl ?_
              refine V_iload_n C dX9_stay_72 rfl ?_
              refine V_cv0 C hE dX9_stay_73 (c_X9_sends (b := b) (by rw [hu.z]; exact hG.2.2.1) (by rw [hu.z]; exact hG.2.2.2) (by omega)) kyX9_sends q1073 (isoO 73 rfl rfl rfl rfl) rfl rfl rfl ?_
              refine V_aload_n C dX9_stay_76 rfl ?_
              refine V_aload_n C dX9_stay_77 rfl ?_
              refine V_get C dX9_stay_78 (rdO (j := 0) 73 rfl rfl rfl rfl rfl) in_X9 (by decide) q907 rfl ?_
              refine V_iconst C 3 dX9_stay_81 (by decide) ?_
              refine V_iald C 3 rfl rfl rfl dX9_stay_82 (rdM 74 3 rfl rfl rfl) ?_
              try simp (disch := omega) only [us_us, us_s, us_n, sv_74, sv_76, sv_n, sv_bk]
              refine V_iload C dX9_stay_83 rfl ?_
              refine V_st (st' := [.int (nI i), .int (nI (hk (wayF (σ 74) (hx (σ 74)) b))), .ref (ad E 73)]) (by rw [hu.z, goF_3, ← hwk.1]) ?_
              refine V_iadd C dX9_stay_85 ?_
              refine V_st (st' := [.int (nI (hk (wayF (σ 74) (hx (σ 74)) b) + i)), .ref (ad E 73)]) (by rw [nI_add]) ?_
              refine V_cv0 C hE dX9_stay_86 (c_X9_quartersGo (n := (hk (wayF (σ 74) (hx (σ 74)) b) + i)) (by simp (disch := omega) only [us_us, us_s, us_n]; rw [hu.z]; exact (GV_goF hG (by omega)).1) (by simp (disch := omega) only [us_us, us_s, us_n]; rw [hu.2 5 (by omega)]; exact hz) (by omega)) kyX9_quartersGo q1090 (isoO 73 rfl rfl rfl rfl) rfl rfl rfl ?_
              refine V_aload_n C dX9_stay_89 rfl ?_
              refine V_iconst C 1 dX9_stay_90 (by decide) ?_
              refine V_put C dX9_stay_91 (wrO (j := 5) 73 rfl rfl rfl rfl rfl rfl) ft_X9 (by decide) q912 rfl rfl rfl rfl ?_
              refine V_aload_n C dX9_stay_94 rfl ?_
              refine V_iload_n C dX9_stay_95 rfl ?_
              refine V_cv0 C hE dX9_stay_96 (c_X9_quartersAw (n := q) (by simp (disch := omega) only [us_us, us_s, us_n]; rw [hu.z]; exact Inv_passN (GV_goF hG (by omega)).1 _) (by simp (disch := omega) only [us_us, us_s, us_n]; rw [upd_s]; decide) (by omega)) kyX9_quartersGo q1090 (isoO 73 rfl rfl rfl rfl) rfl rfl rfl ?_
              refine V_aload_n C dX9_stay_99 rfl ?_
              refine V_iconst C 0 dX9_stay_100 (by decide) ?_
              refine V_put C dX9_stay_101 (wrO (j := 5) 73 rfl rfl rfl rfl rfl rfl) ft_X9 (by decide) q912 rfl rfl rfl rfl ?_
              refine V_gn (Pu := fun w => EqZ σ w ∧ w 76 = σ 74 ∧ w 74 = awN q (passN (hk (wayF (σ 74) (hx (σ 74)) b) + i) (goF (σ 74) b))) ⟨((((EqZ.of hu).p74).p74).p5).p74.b5 hz, by simp (disch := omega) only [us_us, us_s, us_n]; exact h76, by simp (disch := omega) only [us_us, us_s, us_n]; rw [hu.z]⟩ ?_
              rintro w ⟨w1, w2, w3⟩
              refine V_aload_n C dX9_stay_104 rfl ?_
              refine V_iload_n C dX9_stay_105 rfl ?_
              refine V_cv C hE dX9_stay_106 (c_X9_isCold (i := b) (by rw [w3, nh_awN, nh_passN, nh_goF]; exact hb)) kyX9_isCold q1114 (isoO 73 rfl rfl rfl rfl) rfl rfl rfl ?_
              try simp (disch := omega) only [us_us, us_s, us_n, sv_74, sv_76, sv_n, sv_bk]
              by_cases hcd : cldF (awN q (passN (hk (wayF (σ 74) (hx (σ 74)) b) + i) (goF (σ 74) b))) b = true
              · rw [w3]
                refine V_ifeq_b C dX9_stay_109 (fun c109 => absurd (of_decide_eq_true hcd) c109) (fun c109 => ?_)
                refine V_iconst C (-1) dX9_stay_112 (by decide) ?_
                refine V_goto C dX9_stay_113 ?_
                refine V_istore_n C dX9_stay_118 rfl ?_
                refine V_aload_n C dX9_stay_119 rfl ?_
                refine V_cv0 C hE dX9_stay_120 (c_X9_putsBack) kyX9_putsBack q1130 (isoO 73 rfl rfl rfl rfl) rfl rfl rfl ?_
                refine V_iinc C 1 dX9_stay_123 rfl (by decide) rfl ?_
                refine V_goto C dX9_stay_126 ?_
                exact V_nx rfl (by simp [← nI_1] <;> rfl) (ih (i + 1) _ (by omega) (w1.bk w2) (by simp (disch := omega) only [us_us, us_s, us_n]; exact w2) (fal_s hp (by rw [stay_P, hcd]; decide)))
              · rw [w3]
                refine V_ifeq_b C dX9_stay_109 (fun c109 => ?_) (fun c109 => absurd c109 (fun z => hcd (decide_eq_true z)))
                refine V_iload C dX9_stay_116 rfl ?_
                refine V_istore_n C dX9_stay_118 rfl ?_
                refine V_aload_n C dX9_stay_119 rfl ?_
                refine V_cv0 C hE dX9_stay_120 (c_X9_putsBack) kyX9_putsBack q1130 (isoO 73 rfl rfl rfl rfl) rfl rfl rfl ?_
                refine V_iinc C 1 dX9_stay_123 rfl (by decide) rfl ?_
                refine V_goto C dX9_stay_126 ?_
                exact V_nx rfl (by simp [← nI_1] <;> rfl) (jx (i+1) i _ (by omega) hp (by rw [stay_P, Bool.eq_false_iff.mpr hcd]; rfl) (w1.bk w2))
          exact lp 49 0 _ (by omega) (EqY.sv σ) (sv_76 σ) (fun j h1 h2 => absurd h2 (by omega))
        · refine V_aload_n C dX9_stay_44 rfl ?_
          refine V_ldc C dX9_stay_45 q1056 ?_
          refine V_cv C hE dX9_stay_47 (c_X9_finds (j := 4) (by decide +kernel) (by omega)) kyX9_finds q995 (isoO 73 rfl rfl rfl rfl) rfl rfl rfl ?_
          try simp (disch := omega) only [us_us, us_s, us_n, sv_74, sv_76, sv_n, sv_bk]
          exact V_iretN C dX9_stay_50 hT (PQ_fail (by decide +kernel) (by unfold S_stay; rw [if_pos hh, if_pos c17, if_pos (by first | exact Or.inl c31 | exact Or.inr (Or.inr c41))]) (EqY.rf σ))
    · refine V_aload_n C dX9_stay_20 rfl ?_
      refine V_ldc C dX9_stay_21 q994 ?_
      refine V_cv C hE dX9_stay_23 (c_X9_finds (j := 0) (by decide +kernel) (by omega)) kyX9_finds q995 (isoO 73 rfl rfl rfl rfl) rfl rfl rfl ?_
      try simp (disch := omega) only [us_us, us_s, us_n, sv_74, sv_76, sv_n, sv_bk]
      exact V_iretN C dX9_stay_26 hT (PQ_fail (by decide +kernel) (by unfold S_stay; rw [if_pos hh, if_neg c17]) (EqY.rf σ))
  · refine V_cv C hE dX9_stay_2 (c_X9_isHouse) kyX9_isHouse q1011 (isoO 73 rfl rfl rfl rfl) rfl rfl rfl ?_
    try simp (disch := omega) only [us_us, us_s, us_n, sv_74, sv_76, sv_n, sv_bk]
    refine V_ifeq_b C dX9_stay_5 (fun c5 => ?_) (fun c5 => absurd c5 (hh))
    refine V_aload_n C dX9_stay_20 rfl ?_
    refine V_ldc C dX9_stay_21 q994 ?_
    refine V_cv C hE dX9_stay_23 (c_X9_finds (j := 0) (by decide +kernel) (by omega)) kyX9_finds q995 (isoO 73 rfl rfl rfl rfl) rfl rfl rfl ?_
    try simp (disch := omega) only [us_us, us_s, us_n, sv_74, sv_76, sv_n, sv_bk]
    exact V_iretN C dX9_stay_26 hT (PQ_fail (by decide +kernel) (by unfold S_stay; rw [if_neg hh]) (EqY.rf σ))

theorem c_X9_leastPart {l : Launch} {E : En} {σ : Sg} {b j lo hi q : Nat} (hb : b < nh (σ 74)) (hj : j < 6) (hlh : lo ≤ hi) (hh100 : hi ≤ 100) (hq : q ≤ 96) (hz : σ 73 5 = 0) (hIv : ∀ v, lo ≤ v → v ≤ hi → Inv (uh (σ 74) b j (nI v))) : MN l yX9_leastPart cX9_leastPart 8 (some .int) rmX9_leastPart E [.ref (ad E 73), .int (nI b), .int (nI j), .int (nI lo), .int (nI hi), .int (nI q)] σ (PQ σ (rsO (fstN (lstP (σ 74) b j q) (hi+1-lo) lo)) σ) := by
  refine MN_of (by decide +kernel) rfl fun x C hE hT hcan => ?_
  have C : CX x cX9_leastPart RX9 rmX9_leastPart := C
  have h8 : nh (σ 74) ≤ 8 := (hcan.2.1 74 (by omega) (by omega)).2.1
  have hb8 : b < 8 := by omega
  refine V_L (L' := [some (.ref (ad E 73)), some (.int (nI b)), some (.int (nI j)), some (.int (nI lo)), some (.int (nI hi)), some (.int (nI q)), none, none]) rfl ?_
  have jx : ∀ (i k : Nat), lo ≤ k → k ≤ hi → (∀ v, lo ≤ v → v < k → lstP (σ 74) b j q v = false) → lstP (σ 74) b j q k = true → V x (eA E) (AP x E (svS σ)) 0 0 10 [some (.ref (ad E 73)), some (.int (nI b)), some (.int (nI j)), some (.int (nI lo)), some (.int (nI hi)), some (.int (nI q)), some (.int (nI k)), some (.int (nI i))] [] := by
    intro i k hk1 hk hp hk2
    refine V_iload C dX9_leastPart_10 rfl ?_
    refine V_iload C dX9_leastPart_12 rfl ?_
    refine V_icmp_gt C dX9_leastPart_14 (fun c14 => ?_) (fun c14 => ?_)
    · refine V_iload C dX9_leastPart_66 rfl ?_
      refine V_if_ge C dX9_leastPart_68 (fun c68 => ?_) (fun c68 => absurd (nI_pos' (by omega)) c68)
      refine V_iload C dX9_leastPart_80 rfl ?_
      exact V_iretN C dX9_leastPart_82 hT (PQ_rd (by rw [fst_some (hi+1-lo) lo k (by omega) (by omega) hp hk2]; rfl) (EqY.sv σ))
    · refine V_iload C dX9_leastPart_17 rfl ?_
      refine V_if_ge C dX9_leastPart_19 (fun c19 => ?_) (fun c19 => absurd (nI_pos' (by omega)) c19)
      refine V_iload C dX9_leastPart_66 rfl ?_
      refine V_if_ge C dX9_leastPart_68 (fun c68 => ?_) (fun c68 => absurd (nI_pos' (by omega)) c68)
      refine V_iload C dX9_leastPart_80 rfl ?_
      exact V_iretN C dX9_leastPart_82 hT (PQ_rd (by rw [fst_some (hi+1-lo) lo k (by omega) (by omega) hp hk2]; rfl) (EqY.sv σ))
  refine V_aload_n C dX9_leastPart_0 rfl ?_
  refine V_cv0 C hE dX9_leastPart_1 (c_X9_savesV) kyX9_saves q1122 (isoO 73 rfl rfl rfl rfl) rfl rfl rfl ?_
  try simp (disch := omega) only [us_us, us_s, us_n, sv_74, sv_76, sv_n, sv_bk]
  refine V_iconst C (-1) dX9_leastPart_4 (by decide) ?_
  refine V_istore C dX9_leastPart_5 rfl ?_
  refine V_iload_n C dX9_leastPart_7 rfl ?_
  refine V_istore C dX9_leastPart_8 rfl ?_
  have lp : ∀ (d i : Nat) , i + d = hi + 1 → (lo ≤ i) → (∀ v, lo ≤ v → v < i → lstP (σ 74) b j q v = false) → V x (eA E) (AP x E (svS σ)) 0 0 10 [some (.ref (ad E 73)), some (.int (nI b)), some (.int (nI j)), some (.int (nI lo)), some (.int (nI hi)), some (.int (nI q)), some (.int (-1)), some (.int (nI i))] [] := by
    intro d
    induction d with
    | zero =>
      intro i  hi' hlo hp
      have hN : i = hi + 1 := by omega
      refine V_iload C dX9_leastPart_10 rfl ?_
      refine V_iload C dX9_leastPart_12 rfl ?_
      refine V_icmp_gt C dX9_leastPart_14 (fun c14 => ?_) (fun c14 => absurd (by rw [hN]; exact nI_lt (by omega) (by omega)) c14)
      refine V_iload C dX9_leastPart_66 rfl ?_
      refine V_if_ge C dX9_leastPart_68 (fun c68 => absurd c68 (by decide)) (fun c68 => ?_)
      refine V_aload_n C dX9_leastPart_71 rfl ?_
      refine V_ldc C dX9_leastPart_72 q1138 ?_
      refine V_cv C hE dX9_leastPart_74 (c_X9_finds (j := 3) (by decide +kernel) (by omega)) kyX9_finds q995 (isoO 73 rfl rfl rfl rfl) rfl rfl rfl ?_
      try simp (disch := omega) only [us_us, us_s, us_n, sv_74, sv_76, sv_n, sv_bk]
      refine V_goto C dX9_leastPart_77 ?_
      exact V_iretN C dX9_leastPart_82 hT (PQ_fail (by decide +kernel) (by rw [fst_none (hi+1-lo) lo (fun v h1 h2 => hp v h1 (by omega))]; rfl) (EqY.sv σ))
    | succ d ih =>
      intro i  hi' hlo hp
      refine V_iload C dX9_leastPart_10 rfl ?_
      refine V_iload C dX9_leastPart_12 rfl ?_
      refine V_icmp_gt C dX9_leastPart_14 (fun c14 => absurd c14 (nI_nlt (by omega) (by omega))) (fun c14 => ?_)
      refine V_iload C dX9_leastPart_17 rfl ?_
      refine V_if_ge C dX9_leastPart_19 (fun c19 => absurd c19 (by decide)) (fun c19 => ?_)
      refine V_aload_n C dX9_leastPart_22 rfl ?_
      refine V_get C dX9_leastPart_23 (rdO (j := 0) 73 rfl rfl rfl rfl rfl) in_X9 (by decide) q907 rfl ?_
      refine V_iload_n C dX9_leastPart_26 rfl ?_
      refine V_iload_n C dX9_leastPart_27 rfl ?_
      refine V_cs C hE dX9_leastPart_28 (c_X9_at rfl) kyX9_at q1004 rfl rfl rfl ?_
      try simp (disch := omega) only [us_us, us_s, us_n, sv_74, sv_76, sv_n, sv_bk]
      refine V_iload C dX9_leastPart_31 rfl ?_
      refine V_iastN C (15+6*b+j) rfl (by omega) (by omega) dX9_leastPart_33 (wrMh 74 rfl rfl (by simp (disch := omega) only [us_us, us_s, us_n, sv_74, sv_76, sv_n, sv_bk]; exact hb) j (by omega)) ?_
      try simp (disch := omega) only [us_us, us_s, us_n, sv_74, sv_76, sv_n, sv_bk]
      refine V_aload_n C dX9_leastPart_34 rfl ?_
      refine V_iload C dX9_leastPart_35 rfl ?_
      refine V_cv0 C hE dX9_leastPart_37 (c_X9_quartersGo (n := q) (by simp (disch := omega) only [us_us, us_s, us_n, sv_74, sv_76, sv_n, sv_bk]; exact hIv i (by omega) (by omega)) (by simp (disch := omega) only [us_us, us_s, us_n, sv_74, sv_76, sv_n, sv_bk]; exact hz) (by omega)) kyX9_quartersGo q1090 (isoO 73 rfl rfl rfl rfl) rfl rfl rfl ?_
      try simp (disch := omega) only [us_us, us_s, us_n, sv_74, sv_76, sv_n, sv_bk]
      refine V_aload_n C dX9_leastPart_40 rfl ?_
      refine V_iload_n C dX9_leastPart_41 rfl ?_
      refine V_cv C hE dX9_leastPart_42 (c_X9_isCold (i := b) (by simp (disch := omega) only [us_us, us_s, us_n, sv_74, sv_76, sv_n, sv_bk]; rw [nh_passN, nh_uh]; exact hb)) kyX9_isCold q1114 (isoO 73 rfl rfl rfl rfl) rfl rfl rfl ?_
      try simp (disch := omega) only [us_us, us_s, us_n, sv_74, sv_76, sv_n, sv_bk]
      by_cases hcd : cldF (passN q (uh (σ 74) b j (nI i))) b = true
      · refine V_ifeq_b C dX9_leastPart_45 (fun c45 => absurd (of_decide_eq_true hcd) c45) (fun c45 => ?_)
        refine V_iconst C (-1) dX9_leastPart_48 (by decide) ?_
        refine V_goto C dX9_leastPart_49 ?_
        refine V_istore C dX9_leastPart_54 rfl ?_
        refine V_aload_n C dX9_leastPart_56 rfl ?_
        refine V_cv0 C hE dX9_leastPart_57 (c_X9_putsBack) kyX9_putsBack q1130 (isoO 73 rfl rfl rfl rfl) rfl rfl rfl ?_
        try simp (disch := omega) only [us_us, us_s, us_n, sv_74, sv_76, sv_n, sv_bk]
        refine V_iinc C 1 dX9_leastPart_60 rfl (by decide) rfl ?_
        refine V_goto C dX9_leastPart_63 ?_
        exact V_nx rfl (by simp [← nI_1] <;> rfl) (ih (i + 1) (by omega) (by omega) (fal_s hp (by unfold lstP; rw [hcd]; decide)))
      · refine V_ifeq_b C dX9_leastPart_45 (fun c45 => ?_) (fun c45 => absurd c45 (fun z => hcd (decide_eq_true z)))
        refine V_iload C dX9_leastPart_52 rfl ?_
        refine V_istore C dX9_leastPart_54 rfl ?_
        refine V_aload_n C dX9_leastPart_56 rfl ?_
        refine V_cv0 C hE dX9_leastPart_57 (c_X9_putsBack) kyX9_putsBack q1130 (isoO 73 rfl rfl rfl rfl) rfl rfl rfl ?_
        try simp (disch := omega) only [us_us, us_s, us_n, sv_74, sv_76, sv_n, sv_bk]
        refine V_iinc C 1 dX9_leastPart_60 rfl (by decide) rfl ?_
        refine V_goto C dX9_leastPart_63 ?_
        exact V_nx rfl (by simp [← nI_1] <;> rfl) (jx (i+1) i (by omega) (by omega) hp (by unfold lstP; rw [Bool.eq_false_iff.mpr hcd]; rfl))
  exact lp (hi + 1 - lo) lo (by omega) (Nat.le_refl _) (fun v h1 h2 => absurd h2 (by omega))

theorem c_X9_logs {l : Launch} {E : En} {σ : Sg} {p0 p1 : Int32}  (hG : GV (σ 74)) (hQ : inP (σ 74 0) 0 9999) (hz : σ 73 5 = 0) : MN l yX9_logs cX9_logs 3 (some .int) rmX9_logs E [.ref (ad E 73), .int p0, .int p1] σ (PQ σ (S_logs (σ 74) p0 p1) (σ)) := by
  refine MN_of (by decide +kernel) rfl fun x C hE hT hcan => ?_
  have C : CX x cX9_logs RX9 rmX9_logs := C
  have h8 : nh (σ 74) ≤ 8 := (hcan.2.1 74 (by omega) (by omega)).2.1
  have hn1 := (hcan.2.1 74 (by omega) (by omega)).1
  refine V_L (L' := [some (.ref (ad E 73)), some (.int p0), some (.int p1)]) rfl ?_
  refine V_aload_n C dX9_logs_0 rfl ?_
  refine V_iload_n C dX9_logs_1 rfl ?_
  by_cases hh : isH (σ 74) p0
  · obtain ⟨b, hb, rfl, hb8⟩ := isH_of (hcan.2.1 74 (by omega) (by omega)) hh
    refine V_cv C hE dX9_logs_2 (c_X9_isHouse) kyX9_isHouse q1011 (isoO 73 rfl rfl rfl rfl) rfl rfl rfl ?_
    refine V_ifeq_b C dX9_logs_5 (fun c5 => absurd (hh) c5) (fun c5 => ?_)
    refine V_iload_n C dX9_logs_8 rfl ?_
    refine V_cs C hE dX9_logs_9 (c_X9_isSpan) kyX9_isSpan q1147 rfl rfl rfl ?_
    refine V_ifne_b C dX9_logs_12 (fun c12 => ?_) (fun c12 => ?_)
    · refine V_aload_n C dX9_logs_22 rfl ?_
      refine V_iload_n C dX9_logs_23 rfl ?_
      refine V_cv C hE dX9_logs_24 (c_X9_isTooLate hQ (lateP c12 (by decide))) kyX9_isTooLate q1082 (isoO 73 rfl rfl rfl rfl) rfl rfl rfl ?_
      refine V_ifeq_b C dX9_logs_27 (fun c27 => ?_) (fun c27 => ?_)
      · obtain ⟨q, rfl, hq⟩ := i32_le (m := 96) (by omega) (Int32.le_trans (by decide) c12.1) c12.2
        refine V_aload_n C dX9_logs_39 rfl ?_
        refine V_iload_n C dX9_logs_40 rfl ?_
        refine V_iconst C 3 dX9_logs_41 (by decide) ?_
        refine V_iconst C 0 dX9_logs_42 (by decide) ?_
        refine V_bipush C 99 dX9_logs_43 (by decide) ?_
        refine V_iload_n C dX9_logs_45 rfl ?_
        refine V_cn C hE dX9_logs_46 (c_X9_leastPart (b := b) (j := 3) (lo := 0) (hi := 99) (q := q) hb (by omega) (by omega) (by omega) (by omega) hz (fun v v1 v2 => Inv_uh hG.1 hb (by omega) (by omega) (by omega) (fun _ => ⟨nI_pos' (by omega), nI_le (b := 99) (by omega) (by omega)⟩) (by omega))) kyX9_leastPart q1170 (isoO 73 rfl rfl rfl rfl) rfl rfl rfl ?_
        intro r u hp
        obtain ⟨rfl, hu⟩ := hp
        refine V_st (st' := [.int (rsI (rsO (fstN (lstP (σ 74) b 3 q) 100 0)))]) rfl ?_
        exact V_iretN C dX9_logs_49 hT (PQ_eq (by unfold S_logs; rw [if_pos hh, if_pos c12, if_neg c27, hk_nI hb8, hk_n (show q < 2 ^ 31 by omega)]) ⟨rfl, hu⟩)
      · refine V_aload_n C dX9_logs_30 rfl ?_
        refine V_ldc C dX9_logs_31 q1056 ?_
        refine V_cv C hE dX9_logs_33 (c_X9_finds (j := 4) (by decide +kernel) (by omega)) kyX9_finds q995 (isoO 73 rfl rfl rfl rfl) rfl rfl rfl ?_
        refine V_goto C dX9_logs_36 ?_
        exact V_iretN C dX9_logs_49 hT (PQ_fail (by decide +kernel) (by unfold S_logs; all_goals (first | rw [if_pos hh] | rw [if_neg hh]); all_goals (first | rw [if_pos c12] | rw [if_neg c12]); all_goals (first | rw [if_pos c27] | rw [if_neg c27])) (EqY.rf σ))
    · refine V_aload_n C dX9_logs_15 rfl ?_
      refine V_ldc C dX9_logs_16 q994 ?_
      refine V_cv C hE dX9_logs_18 (c_X9_finds (j := 0) (by decide +kernel) (by omega)) kyX9_finds q995 (isoO 73 rfl rfl rfl rfl) rfl rfl rfl ?_
      exact V_iretN C dX9_logs_21 hT (PQ_fail (by decide +kernel) (by unfold S_logs; all_goals (first | rw [if_pos hh] | rw [if_neg hh]); all_goals (first | rw [if_pos c12] | rw [if_neg c12])) (EqY.rf σ))
  · refine V_cv C hE dX9_logs_2 (c_X9_isHouse) kyX9_isHouse q1011 (isoO 73 rfl rfl rfl rfl) rfl rfl rfl ?_
    refine V_ifeq_b C dX9_logs_5 (fun c5 => ?_) (fun c5 => absurd c5 (hh))
    refine V_aload_n C dX9_logs_15 rfl ?_
    refine V_ldc C dX9_logs_16 q994 ?_
    refine V_cv C hE dX9_logs_18 (c_X9_finds (j := 0) (by decide +kernel) (by omega)) kyX9_finds q995 (isoO 73 rfl rfl rfl rfl) rfl rfl rfl ?_
    exact V_iretN C dX9_logs_21 hT (PQ_fail (by decide +kernel) (by unfold S_logs; all_goals (first | rw [if_pos hh] | rw [if_neg hh])) (EqY.rf σ))

theorem c_X9_wall {l : Launch} {E : En} {σ : Sg} {p0 p1 : Int32}  (hG : GV (σ 74)) (hQ : inP (σ 74 0) 0 9999) (hz : σ 73 5 = 0) : MN l yX9_wall cX9_wall 3 (some .int) rmX9_wall E [.ref (ad E 73), .int p0, .int p1] σ (PQ σ (S_wall (σ 74) p0 p1) (σ)) := by
  refine MN_of (by decide +kernel) rfl fun x C hE hT hcan => ?_
  have C : CX x cX9_wall RX9 rmX9_wall := C
  have h8 : nh (σ 74) ≤ 8 := (hcan.2.1 74 (by omega) (by omega)).2.1
  have hn1 := (hcan.2.1 74 (by omega) (by omega)).1
  refine V_L (L' := [some (.ref (ad E 73)), some (.int p0), some (.int p1)]) rfl ?_
  refine V_aload_n C dX9_wall_0 rfl ?_
  refine V_iload_n C dX9_wall_1 rfl ?_
  by_cases hh : isH (σ 74) p0
  · obtain ⟨b, hb, rfl, hb8⟩ := isH_of (hcan.2.1 74 (by omega) (by omega)) hh
    refine V_cv C hE dX9_wall_2 (c_X9_isHouse) kyX9_isHouse q1011 (isoO 73 rfl rfl rfl rfl) rfl rfl rfl ?_
    refine V_ifeq_b C dX9_wall_5 (fun c5 => absurd (hh) c5) (fun c5 => ?_)
    refine V_iload_n C dX9_wall_8 rfl ?_
    refine V_cs C hE dX9_wall_9 (c_X9_isSpan) kyX9_isSpan q1147 rfl rfl rfl ?_
    refine V_ifne_b C dX9_wall_12 (fun c12 => ?_) (fun c12 => ?_)
    · refine V_aload_n C dX9_wall_22 rfl ?_
      refine V_iload_n C dX9_wall_23 rfl ?_
      refine V_cv C hE dX9_wall_24 (c_X9_isTooLate hQ (lateP c12 (by decide))) kyX9_isTooLate q1082 (isoO 73 rfl rfl rfl rfl) rfl rfl rfl ?_
      refine V_ifeq_b C dX9_wall_27 (fun c27 => ?_) (fun c27 => ?_)
      · obtain ⟨q, rfl, hq⟩ := i32_le (m := 96) (by omega) (Int32.le_trans (by decide) c12.1) c12.2
        refine V_aload_n C dX9_wall_39 rfl ?_
        refine V_iload_n C dX9_wall_40 rfl ?_
        refine V_iconst C 2 dX9_wall_41 (by decide) ?_
        refine V_iconst C 1 dX9_wall_42 (by decide) ?_
        refine V_bipush C 40 dX9_wall_43 (by decide) ?_
        refine V_iload_n C dX9_wall_45 rfl ?_
        refine V_cn C hE dX9_wall_46 (c_X9_leastPart (b := b) (j := 2) (lo := 1) (hi := 40) (q := q) hb (by omega) (by omega) (by omega) (by omega) hz (fun v v1 v2 => Inv_uh2 hG.1 hb ⟨nI_le (a := 1) (by omega) (by omega), nI_le (b := 40) (by omega) (by omega)⟩)) kyX9_leastPart q1170 (isoO 73 rfl rfl rfl rfl) rfl rfl rfl ?_
        intro r u hp
        obtain ⟨rfl, hu⟩ := hp
        refine V_st (st' := [.int (rsI (rsO (fstN (lstP (σ 74) b 2 q) 40 1)))]) rfl ?_
        exact V_iretN C dX9_wall_49 hT (PQ_eq (by unfold S_wall; rw [if_pos hh, if_pos c12, if_neg c27, hk_nI hb8, hk_n (show q < 2 ^ 31 by omega)]) ⟨rfl, hu⟩)
      · refine V_aload_n C dX9_wall_30 rfl ?_
        refine V_ldc C dX9_wall_31 q1056 ?_
        refine V_cv C hE dX9_wall_33 (c_X9_finds (j := 4) (by decide +kernel) (by omega)) kyX9_finds q995 (isoO 73 rfl rfl rfl rfl) rfl rfl rfl ?_
        refine V_goto C dX9_wall_36 ?_
        exact V_iretN C dX9_wall_49 hT (PQ_fail (by decide +kernel) (by unfold S_wall; all_goals (first | rw [if_pos hh] | rw [if_neg hh]); all_goals (first | rw [if_pos c12] | rw [if_neg c12]); all_goals (first | rw [if_pos c27] | rw [if_neg c27])) (EqY.rf σ))
    · refine V_aload_n C dX9_wall_15 rfl ?_
      refine V_ldc C dX9_wall_16 q994 ?_
      refine V_cv C hE dX9_wall_18 (c_X9_finds (j := 0) (by decide +kernel) (by omega)) kyX9_finds q995 (isoO 73 rfl rfl rfl rfl) rfl rfl rfl ?_
      exact V_iretN C dX9_wall_21 hT (PQ_fail (by decide +kernel) (by unfold S_wall; all_goals (first | rw [if_pos hh] | rw [if_neg hh]); all_goals (first | rw [if_pos c12] | rw [if_neg c12])) (EqY.rf σ))
  · refine V_cv C hE dX9_wall_2 (c_X9_isHouse) kyX9_isHouse q1011 (isoO 73 rfl rfl rfl rfl) rfl rfl rfl ?_
    refine V_ifeq_b C dX9_wall_5 (fun c5 => ?_) (fun c5 => absurd c5 (hh))
    refine V_aload_n C dX9_wall_15 rfl ?_
    refine V_ldc C dX9_wall_16 q994 ?_
    refine V_cv C hE dX9_wall_18 (c_X9_finds (j := 0) (by decide +kernel) (by omega)) kyX9_finds q995 (isoO 73 rfl rfl rfl rfl) rfl rfl rfl ?_
    exact V_iretN C dX9_wall_21 hT (PQ_fail (by decide +kernel) (by unfold S_wall; all_goals (first | rw [if_pos hh] | rw [if_neg hh])) (EqY.rf σ))

