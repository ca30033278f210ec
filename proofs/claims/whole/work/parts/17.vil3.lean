theorem lp_X5_passOne {x : Cx} {E : En} {σ : Sg} {v : Nat} (C : CX x cX5_passOne RX5 rmX5_passOne) (hE : CE E (xs x) (xs x).heap) (hv : v < 5) {f1 : Nat → Int32} (hI : Inv f1) (w1 : Value) (hw1 : w1.category = 1) (hend : V x (eA E) (AP x E (us σ v (coolN (nh f1) f1))) 0 0 48 [some (.ref (ad E (vb v))), some w1, some (.int (nI (nh f1))), none] []) : V x (eA E) (AP x E (us σ v f1)) 0 0 16 [some (.ref (ad E (vb v))), some w1, some (.int 0), none] [] := by
  have h8 : nh f1 ≤ 8 := hI.1.2.1
  have lp : ∀ (d i : Nat), i + d = nh f1 → V x (eA E) (AP x E (us σ v (coolN i f1))) 0 0 16 [some (.ref (ad E (vb v))), some w1, some (.int (nI i)), none] [] := by
    intro d
    induction d with
    | zero =>
      intro i hi'
      have hN : i = nh f1 := by omega
      refine V_iload_n C dX5_passOne_16 rfl ?_
      refine V_aload_n C dX5_passOne_17 rfl ?_
      refine V_get C dX5_passOne_18 (rdV (by first | assumption | omega) 3 1 rfl rfl rfl) in_X5 (by decide) q132 rfl ?_
      refine V_icmp_ge C dX5_passOne_21 (fun c21 => ?_) (fun c21 => absurd (by rw [us_s, coolN_lo (by omega), hI.1.1, hN]; exact nI_le (Nat.le_refl _) (by omega)) c21)
      subst hN
      exact hend
    | succ d ih =>
      intro i hi'
      have hlt : i < nh (us σ v (coolN i f1) v) := by rw [us_s, coolN_nh]; omega
      refine V_iload_n C dX5_passOne_16 rfl ?_
      refine V_aload_n C dX5_passOne_17 rfl ?_
      refine V_get C dX5_passOne_18 (rdV (by first | assumption | omega) 3 1 rfl rfl rfl) in_X5 (by decide) q132 rfl ?_
      refine V_icmp_ge C dX5_passOne_21 (fun c21 => absurd c21 (by rw [us_s, coolN_lo (by omega), hI.1.1]; exact nI_ge (by omega) (by omega))) (fun c21 => ?_)
      refine V_aload_n C dX5_passOne_24 rfl ?_
      refine V_iload_n C dX5_passOne_25 rfl ?_
      refine V_cv C hE dX5_passOne_26 (c_X5_get hv hlt) kyX5_get q282 (isoV (by first | assumption | omega)) rfl rfl rfl ?_
      refine V_astore_n C dX5_passOne_29 rfl ?_
      refine V_aload_n C dX5_passOne_30 rfl ?_
      refine V_ifnull C dX5_passOne_31 ?_
      refine V_aload_n C dX5_passOne_34 rfl ?_
      refine V_aload_n C dX5_passOne_35 rfl ?_
      refine V_get C dX5_passOne_36 (rdV (by first | assumption | omega) 5 6 rfl rfl rfl) in_X5 (by decide) q138 rfl ?_
      refine V_cv0 C hE dX5_passOne_39 (c_X1_cool (i := i) hv hlt (by rw [us_s, coolN_hf (by omega) (by omega)]; have := (hI.2.1 i (by omega)).2.1.1; grind)) kyX1_cool q413 (isoH (by first | assumption | omega) (by first | assumption | omega)) rfl rfl rfl ?_
      refine V_forget 3 ?_
      refine V_iinc C 1 dX5_passOne_42 rfl (by decide) (by show (Nat.blt 2 4 && (false || w1.category == 1)) = true; rw [hw1]; rfl) ?_
      refine V_goto C dX5_passOne_45 ?_
      exact V_nx (by simp only [us_us, us_s]; rfl) (by simp [← nI_1] <;> rfl) (ih (i + 1) (by omega))
  exact lp (nh f1) 0 (by omega)

theorem tickF_pos {g : Nat → Int32} (h : 0 < g 3) : tickF g = upd (upd g 3 (g 3 - 1)) 0 (upd g 3 (g 3 - 1) 0 + 1) := by
  unfold tickF; simp only [if_pos h]
theorem tickF_neg {g : Nat → Int32} (h : ¬ 0 < g 3) : tickF g = upd g 0 (g 0 + 1) := by
  unfold tickF; simp only [if_neg h]

theorem tl_X5_passOne {x : Cx} {E : En} {σ : Sg} {v : Nat} (C : CX x cX5_passOne RX5 rmX5_passOne) (hv : v < 5) {g : Nat → Int32} {w1 w2 w3 : Option Value} {σ0 : Sg} (hT : RTD x none E none σ0) (hs0 : σ0 = us σ v (tickF g)) : V x (eA E) (AP x E (us σ v g)) 0 0 72 [some (.ref (ad E (vb v))), w1, w2, w3] [] := by
  refine V_aload_n C dX5_passOne_72 rfl ?_
  refine V_get C dX5_passOne_73 (rdV (by first | assumption | omega) 7 3 rfl rfl rfl) in_X5 (by decide) q143 rfl ?_
  refine V_if_le C dX5_passOne_76 (fun c76 => ?_) (fun c76 => ?_)
  · refine V_aload_n C dX5_passOne_89 rfl ?_
    refine V_dup C dX5_passOne_90 rfl ?_
    refine V_get C dX5_passOne_91 (rdV (by first | assumption | omega) 8 0 rfl rfl rfl) in_X5 (by decide) q145 rfl ?_
    refine V_iconst C 1 dX5_passOne_94 (by decide) ?_
    refine V_iadd C dX5_passOne_95 ?_
    refine V_put C dX5_passOne_96 (wrV (by first | assumption | omega) 8 0 rfl rfl rfl) ft_X5 (by decide) q145 rfl rfl rfl rfl ?_
    try simp only [us_us, us_s]
    exact V_retD C dX5_passOne_99 hT (by rw [us_s] at c76; rw [hs0, tickF_neg (Int32.not_lt.mpr c76)])
  · refine V_aload_n C dX5_passOne_79 rfl ?_
    refine V_dup C dX5_passOne_80 rfl ?_
    refine V_get C dX5_passOne_81 (rdV (by first | assumption | omega) 7 3 rfl rfl rfl) in_X5 (by decide) q143 rfl ?_
    refine V_iconst C 1 dX5_passOne_84 (by decide) ?_
    refine V_isub C dX5_passOne_85 ?_
    refine V_put C dX5_passOne_86 (wrV (by first | assumption | omega) 7 3 rfl rfl rfl) ft_X5 (by decide) q143 rfl rfl rfl rfl ?_
    try simp only [us_us, us_s]
    refine V_aload_n C dX5_passOne_89 rfl ?_
    refine V_dup C dX5_passOne_90 rfl ?_
    refine V_get C dX5_passOne_91 (rdV (by first | assumption | omega) 8 0 rfl rfl rfl) in_X5 (by decide) q145 rfl ?_
    refine V_iconst C 1 dX5_passOne_94 (by decide) ?_
    refine V_iadd C dX5_passOne_95 ?_
    refine V_put C dX5_passOne_96 (wrV (by first | assumption | omega) 8 0 rfl rfl rfl) ft_X5 (by decide) q145 rfl rfl rfl rfl ?_
    try simp only [us_us, us_s]
    exact V_retD C dX5_passOne_99 hT (by rw [us_s] at c76; rw [hs0, tickF_pos (Int32.not_le.mp c76)])

theorem quarterF_a {f : Nat → Int32} (h : canB f) (c : hf (coolN (nh (burnF f (hx f))) (burnF f (hx f))) (hx f) 1 < 180) : quarterF f = tickF (coolN (nh (burnF f (hx f))) (burnF f (hx f))) := by
  rw [nh_burnF] at c ⊢
  unfold quarterF qF
  rw [if_pos h]
  have e : brdF (canB f) (coolN (nh f) (burnF f (hx f))) (hx f) = coolN (nh f) (burnF f (hx f)) := if_neg (fun q => absurd q.2 (Int32.not_le.mpr c))
  rw [e]
theorem quarterF_b {f : Nat → Int32} (h : canB f) (c : ¬ hf (coolN (nh (burnF f (hx f))) (burnF f (hx f))) (hx f) 1 < 180) : quarterF f = tickF (uh (coolN (nh (burnF f (hx f))) (burnF f (hx f))) (hx f) 5 (hf (coolN (nh (burnF f (hx f))) (burnF f (hx f))) (hx f) 5 + 1)) := by
  rw [nh_burnF] at c ⊢
  unfold quarterF qF
  rw [if_pos h]
  have e : brdF (canB f) (coolN (nh f) (burnF f (hx f))) (hx f) = uh (coolN (nh f) (burnF f (hx f))) (hx f) 5 (hf (coolN (nh f) (burnF f (hx f))) (hx f) 5 + 1) := if_pos ⟨h, Int32.not_lt.mp c⟩
  rw [e]
theorem quarterF_neg {f : Nat → Int32} (h : ¬ canB f) : quarterF f = tickF (coolN (nh f) f) := by
  unfold quarterF qF
  rw [if_neg h]
  have e : brdF (canB f) (coolN (nh f) f) (hx f) = coolN (nh f) f := if_neg (fun q => h q.1)
  rw [e]

theorem c_X5_passOne {l : Launch} {E : En} {σ : Sg} {v : Nat} (hv : v < 5) (hI : Inv (σ v)) : MD l yX5_passOne cX5_passOne 4 none rmX5_passOne E [.ref (ad E (vb v))] σ none (us σ v (quarterF (σ v))) := by
  refine MD_of (by decide +kernel) rfl fun x C hE hT hcan => ?_
  have C : CX x cX5_passOne RX5 rmX5_passOne := C
  refine V_L (L' := [some (.ref (ad E (vb v))), none, none, none]) rfl ?_
  by_cases hb : canB (σ v)
  · have hxp := hx_of hI.1 hb.1
    have hxp1 := hxp.1
    have h8 := hI.1.2.1
    have hI1 := Inv_burnF hI hxp1 hb.2.2
    have hlt : hx (σ v) < nh (us σ v (coolN (nh (burnF (σ v) (hx (σ v)))) (burnF (σ v) (hx (σ v)))) v) := by rw [us_s, coolN_nh, nh_burnF]; exact hxp1
    refine V_aload_n C dX5_passOne_0 rfl ?_
    refine V_cv C hE dX5_passOne_1 (c_X5_stoveHouse hv hb hI.2.2.1) kyX5_stoveHouse q394 (isoV (by first | assumption | omega)) rfl rfl rfl ?_
    refine V_astore_n C dX5_passOne_4 rfl ?_
    refine V_aload_n C dX5_passOne_5 rfl ?_
    refine V_ifnull C dX5_passOne_6 ?_
    refine V_aload_n C dX5_passOne_9 rfl ?_
    refine V_aload_n C dX5_passOne_10 rfl ?_
    refine V_cv0 C hE dX5_passOne_11 (c_X5_burnAt hv hxp1 hxp.2 (fun i hi => (hI.2.1 i hi).1.2)) kyX5_burnAt q399 (isoV (by first | assumption | omega)) rfl rfl rfl ?_
    refine V_iconst C 0 dX5_passOne_14 (by decide) ?_
    refine V_istore_n C dX5_passOne_15 rfl ?_
    refine lp_X5_passOne C hE hv hI1 _ rfl ?_
    refine V_aload_n C dX5_passOne_48 rfl ?_
    refine V_ifnull C dX5_passOne_49 ?_
    refine V_aload_n C dX5_passOne_52 rfl ?_
    refine V_getN C hE.nw dX5_passOne_53 (rdH (by first | assumption | omega) hlt 1 rfl) in_X1 (by decide) q104 rfl ?_
    refine V_sipush C 180 dX5_passOne_56 (by decide) ?_
    refine V_icmp_lt C dX5_passOne_59 (fun c59 => ?_) (fun c59 => ?_)
    · exact tl_X5_passOne C hv hT (congrArg (us σ v) (quarterF_a hb (by rw [us_s] at c59; exact c59)))
    · refine V_aload_n C dX5_passOne_62 rfl ?_
      refine V_dup C dX5_passOne_63 rfl ?_
      refine V_getN C hE.nw dX5_passOne_64 (rdH (by first | assumption | omega) hlt 5 rfl) in_X1 (by decide) q114 rfl ?_
      refine V_iconst C 1 dX5_passOne_67 (by decide) ?_
      refine V_iadd C dX5_passOne_68 ?_
      refine V_putN C hE.nw dX5_passOne_69 (wrH (by first | assumption | omega) hlt 5 rfl) ft_X1 (by decide) q114 rfl rfl rfl rfl ?_
      try simp only [us_us, us_s]
      exact tl_X5_passOne C hv hT (congrArg (us σ v) (quarterF_b hb (by rw [us_s] at c59; exact c59)))
  · skip
    refine V_aload_n C dX5_passOne_0 rfl ?_
    refine V_cv C hE dX5_passOne_1 (c_X5_stoveHouseN hv hb hI.2.2.1) kyX5_stoveHouse q394 (isoV (by first | assumption | omega)) rfl rfl rfl ?_
    refine V_astore_nN C dX5_passOne_4 rfl ?_
    refine V_aload_nN C dX5_passOne_5 rfl ?_
    refine V_ifnullN C dX5_passOne_6 ?_
    refine V_iconst C 0 dX5_passOne_14 (by decide) ?_
    refine V_istore_n C dX5_passOne_15 rfl ?_
    refine V_nx (σ' := us σ v (σ v)) (us_id _ _).symm rfl (lp_X5_passOne C hE hv hI .null rfl ?_)
    refine V_aload_nN C dX5_passOne_48 rfl ?_
    refine V_ifnullN C dX5_passOne_49 ?_
    exact tl_X5_passOne C hv hT (congrArg (us σ v) (quarterF_neg hb))

theorem c_X5_pass {l : Launch} {E : En} {σ : Sg} {v : Nat} {n : Nat} (hv : v < 5) (hn : n < 2 ^ 31) (hI : Inv (σ v)) : MD l yX5_pass cX5_pass 3 none rmX5_pass E [.ref (ad E (vb v)), .int (nI n)] σ none (us σ v (passN n (σ v))) := by
  refine MD_of (by decide +kernel) rfl fun x C hE hT hcan => ?_
  have C : CX x cX5_pass RX5 rmX5_pass := C
  refine V_L (L' := [some (.ref (ad E (vb v))), some (.int (nI n)), none]) rfl ?_
  have lp : ∀ (d i : Nat), i + d = n → V x (eA E) (AP x E (us σ v (passN i (σ v)))) 0 0 2 [some (.ref (ad E (vb v))), some (.int (nI n)), some (.int (nI i))] [] := by
    intro d
    induction d with
    | zero =>
      intro i hi'
      have hN : i = n := by omega
      refine V_iload_n C dX5_pass_2 rfl ?_
      refine V_iload_n C dX5_pass_3 rfl ?_
      refine V_icmp_ge C dX5_pass_4 (fun c4 => ?_) (fun c4 => absurd (nI_le (by omega) (by omega)) c4)
      exact V_retD C dX5_pass_17 hT (by rw [hN])
    | succ d ih =>
      intro i hi'
      refine V_iload_n C dX5_pass_2 rfl ?_
      refine V_iload_n C dX5_pass_3 rfl ?_
      refine V_icmp_ge C dX5_pass_4 (fun c4 => absurd c4 (nI_ge (by omega) (by omega))) (fun c4 => ?_)
      refine V_aload_n C dX5_pass_7 rfl ?_
      refine V_cv0 C hE dX5_pass_8 (c_X5_passOne hv (by rw [us_s]; exact Inv_passN hI i)) kyX5_passOne q390 (isoV (by first | assumption | omega)) rfl rfl rfl ?_
      refine V_iinc C 1 dX5_pass_11 rfl (by decide) rfl ?_
      refine V_goto C dX5_pass_14 ?_
      exact V_nx (by simp only [us_us, us_s]; rfl) (by simp [← nI_1] <;> rfl) (ih (i + 1) (by omega))
  refine V_iconst C 0 dX5_pass_0 (by decide) ?_
  refine V_istore_n C dX5_pass_1 rfl ?_
  exact V_nx (us_id _ _).symm rfl (lp n 0 (by omega))

