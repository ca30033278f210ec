/-- the reference's cells of the best so far -/
def Bs (md : Nat) (B : Bst) (u : Sg) : Prop := (md = 0 → u 73 12 = B.1 ∧ u 73 13 = B.2) ∧ (md = 1 → u 73 12 = B.1 ∧ (0 ≤ B.1 → u 73 14 = B.2)) ∧ (md = 2 → u 73 15 = B.1) ∧ u 73 8 = flM md B ∧ u 73 9 = waM md
def EqW (σ u : Sg) : Prop := (∀ c, ¬ TY c → c ≠ 74 → u c = σ c) ∧ ∀ j, ¬ SY j → j ≠ 8 → j ≠ 9 → u 73 j = σ 73 j
theorem EqW.rf (σ : Sg) : EqW σ σ := ⟨fun _ _ _ => rfl, fun _ _ _ _ => rfl⟩
theorem EqW.tr {σ u w : Sg} (h : EqW σ u) (h2 : EqW u w) : EqW σ w := ⟨fun c hc h74 => (h2.1 c hc h74).trans (h.1 c hc h74), fun j hj h8 h9 => (h2.2 j hj h8 h9).trans (h.2 j hj h8 h9)⟩
theorem EqW.ofZ {σ u : Sg} (h : EqZ σ u) : EqW σ u := ⟨h.1, fun j hj _ _ => h.2 j hj⟩
theorem EqW.put {σ u : Sg} (h : EqW σ u) {c : Nat} {f : Nat → Int32} (hc : TY c) (h3 : c ≠ 73) : EqW σ (us u c f) := ⟨fun c' h1 h2 => by
    rw [us_n (fun e => h1 (by rw [e]; exact hc))]; exact h.1 c' h1 h2, fun j hj h8 h9 => by rw [us_n (Ne.symm h3)]; exact h.2 j hj h8 h9⟩
theorem EqW.slot {σ u : Sg} (h : EqW σ u) {j : Nat} {y : Int32} (hj : SY j ∨ j = 8 ∨ j = 9) : EqW σ (us u 73 (upd (u 73) j y)) := ⟨fun c' h1 h2 => by
    rw [us_n (fun e => h1 (Or.inl e))]; exact h.1 c' h1 h2, fun k hk h8 h9 => by
    rw [us_s, upd_n (by rintro rfl; rcases hj with q | q | q; exact hk q; exact h8 q; exact h9 q)]; exact h.2 k hk h8 h9⟩
theorem rS_W {σ u : Sg} (h : EqW σ u) (t : Tri) : EqW σ (rS u t) := h.tr (.ofZ (rS_Z (EqZ.of (EqY.rf u)) t))
theorem Bs_r {md : Nat} {B : Bst} {u : Sg} {t : Tri} (h : Bs md B u) : Bs md B (rS u t) := by
  unfold Bs at h ⊢
  simp (disch := omega) only [rS_j]; exact h
theorem Bs_us {md : Nat} {B : Bst} {u : Sg} {c : Nat} {f : Nat → Int32} (h : Bs md B u) (hc : c ≠ 73) : Bs md B (us u c f) := by
  unfold Bs at h ⊢
  simp only [us_n (Ne.symm hc)]; exact h
theorem ix73 (k i : Nat) : (73 : Int32) * nI k + nI i = nI (73 * k + i) := by
  show nI 73 * nI k + nI i = _
  rw [nI_mul, nI_add]

theorem c_X9_stands {l : Launch} {E : En} {σ : Sg} {k : Nat} (hk : k < 2) : MD l yX9_stands cX9_stands 3 none rmX9_stands E [.ref (ad E 73), .int (nI k)] σ none (us (us σ (10+k) (σ 74)) 79 (upd (σ 79) k (σ 73 6))) := by
  refine MD_of (by decide +kernel) rfl fun x C hE hT hcan => ?_
  have C : CX x cX9_stands RX9 rmX9_stands := C
  refine V_L (L' := [some (.ref (ad E 73)), some (.int (nI k)), none]) rfl ?_
  refine V_iconst C 0 dX9_stands_0 (by decide) ?_
  refine V_istore_n C dX9_stands_1 rfl ?_
  refine V_raw fun ρ hA => ?_
  have lp : ∀ (d i : Nat) , i + d = 73 → V x (eA E) (RP x E (us ρ 78 (cpO (ρ 78) (ρ 74) (73*k) 0 i))) 0 0 2 [some (.ref (ad E 73)), some (.int (nI k)), some (.int (nI i))] [] := by
    intro d
    induction d with
    | zero =>
      intro i  hi' 
      have hN : i = 73 := by omega
      refine V_iload_n C dX9_stands_2 rfl ?_
      refine V_bipush C 73 dX9_stands_3 (by decide) ?_
      refine V_icmp_ge C dX9_stands_5 (fun c5 => ?_) (fun c5 => absurd (by rw [hN]; decide) c5)
      subst hN
      refine V_pic (hA.st hk) ?_
      refine V_aload_n C dX9_stands_31 rfl ?_
      refine V_get C dX9_stands_32 (rdO (j := 11) 73 rfl rfl rfl rfl rfl) in_X9 (by decide) q918 rfl ?_
      refine V_iload_n C dX9_stands_35 rfl ?_
      refine V_aload_n C dX9_stands_36 rfl ?_
      refine V_get C dX9_stands_37 (rdO (j := 6) 73 rfl rfl rfl rfl rfl) in_X9 (by decide) q913 rfl ?_
      refine V_iastN C k rfl (by omega) (by omega) dX9_stands_40 (wrOA 79 rfl rfl (fun _ => rfl)) ?_
      try simp only [us_us, us_s]
      exact V_retD C dX9_stands_41 hT (by simp (disch := omega) only [us_n])
    | succ d ih =>
      intro i  hi' 
      refine V_iload_n C dX9_stands_2 rfl ?_
      refine V_bipush C 73 dX9_stands_3 (by decide) ?_
      refine V_icmp_ge C dX9_stands_5 (fun c5 => absurd c5 (nI_ge (b := 73) (by omega) (by omega))) (fun c5 => ?_)
      refine V_aload_n C dX9_stands_8 rfl ?_
      refine V_get C dX9_stands_9 (rdF (j := 10) (c := 73) (by have := eN_ge E; omega) rfl rfl rfl) in_X9 (by decide) q917 rfl ?_
      refine V_bipush C 73 dX9_stands_12 (by decide) ?_
      refine V_iload_n C dX9_stands_14 rfl ?_
      refine V_imul C dX9_stands_15 ?_
      refine V_iload_n C dX9_stands_16 rfl ?_
      refine V_iadd C dX9_stands_17 ?_
      refine V_aload_n C dX9_stands_18 rfl ?_
      refine V_get C dX9_stands_19 (rdF (j := 0) (c := 73) (by have := eN_ge E; omega) rfl rfl rfl) in_X9 (by decide) q907 rfl ?_
      refine V_iload_n C dX9_stands_22 rfl ?_
      refine V_ialdN C i rfl (by omega) (by omega) dX9_stands_23 (rdA (c := 74) (by have := eN_ge E; omega) rfl) ?_
      refine V_iastN C (73*k+i) (ix73 k i) (by omega) (by omega) dX9_stands_24 (wrA (c := 78) (by have := eN_ge E; omega) (fun _ => rfl)) ?_
      refine V_iinc C 1 dX9_stands_25 rfl (by decide) rfl ?_
      refine V_goto C dX9_stands_28 ?_
      exact V_nR (by rw [us_us, us_s, us_n (show (74:Nat) ≠ 78 by decide), cpO_s (g := ρ 78) (f := ρ 74) (a := 73*k) (b := 0) (i := i) (v := ρ 74 i) (by rw [Nat.zero_add])]) (by simp [← nI_1] <;> rfl) (ih (i + 1) (by omega))
  exact V_nR (by rw [cpO_0, us_id]) rfl (lp 73 0 (by omega))

theorem c_X9_standsAgain {l : Launch} {E : En} {σ : Sg} {k : Nat} (hk : k < 2) : MD l yX9_standsAgain cX9_standsAgain 3 none rmX9_standsAgain E [.ref (ad E 73), .int (nI k)] σ none (rS σ (σ (10+k), σ 79 k, 0)) := by
  refine MD_of (by decide +kernel) rfl fun x C hE hT hcan => ?_
  have C : CX x cX9_standsAgain RX9 rmX9_standsAgain := C
  refine V_L (L' := [some (.ref (ad E 73)), some (.int (nI k)), none]) rfl ?_
  refine V_iconst C 0 dX9_standsAgain_0 (by decide) ?_
  refine V_istore_n C dX9_standsAgain_1 rfl ?_
  refine V_raw fun ρ hA => ?_
  have lp : ∀ (d i : Nat) , i + d = 73 → V x (eA E) (RP x E (us ρ 74 (cpO (ρ 74) (ρ 78) 0 (73*k) i))) 0 0 2 [some (.ref (ad E 73)), some (.int (nI k)), some (.int (nI i))] [] := by
    intro d
    induction d with
    | zero =>
      intro i  hi' 
      have hN : i = 73 := by omega
      refine V_iload_n C dX9_standsAgain_2 rfl ?_
      refine V_bipush C 73 dX9_standsAgain_3 (by decide) ?_
      refine V_icmp_ge C dX9_standsAgain_5 (fun c5 => ?_) (fun c5 => absurd (by rw [hN]; decide) c5)
      subst hN
      refine V_pic (hA.sa hk) ?_
      refine V_aload_n C dX9_standsAgain_31 rfl ?_
      refine V_aload_n C dX9_standsAgain_32 rfl ?_
      refine V_get C dX9_standsAgain_33 (rdO (j := 11) 73 rfl rfl rfl rfl rfl) in_X9 (by decide) q918 rfl ?_
      refine V_iload_n C dX9_standsAgain_36 rfl ?_
      refine V_ialdN C k rfl (by omega) (by omega) dX9_standsAgain_37 (rdOA 79 rfl rfl rfl) ?_
      try simp only [us_us, us_s]
      refine V_put C dX9_standsAgain_38 (wrO (j := 6) 73 rfl rfl rfl rfl rfl rfl) ft_X9 (by decide) q913 rfl rfl rfl rfl ?_
      try simp only [us_us, us_s]
      refine V_aload_n C dX9_standsAgain_41 rfl ?_
      refine V_iconst C 0 dX9_standsAgain_42 (by decide) ?_
      refine V_put C dX9_standsAgain_43 (wrO (j := 7) 73 rfl rfl rfl rfl rfl rfl) ft_X9 (by decide) q914 rfl rfl rfl rfl ?_
      try simp only [us_us, us_s]
      exact V_retD C dX9_standsAgain_46 hT (by unfold rS; simp (disch := omega) only [us_n])
    | succ d ih =>
      intro i  hi' 
      refine V_iload_n C dX9_standsAgain_2 rfl ?_
      refine V_bipush C 73 dX9_standsAgain_3 (by decide) ?_
      refine V_icmp_ge C dX9_standsAgain_5 (fun c5 => absurd c5 (nI_ge (b := 73) (by omega) (by omega))) (fun c5 => ?_)
      refine V_aload_n C dX9_standsAgain_8 rfl ?_
      refine V_get C dX9_standsAgain_9 (rdF (j := 0) (c := 73) (by have := eN_ge E; omega) rfl rfl rfl) in_X9 (by decide) q907 rfl ?_
      refine V_iload_n C dX9_standsAgain_12 rfl ?_
      refine V_aload_n C dX9_standsAgain_13 rfl ?_
      refine V_get C dX9_standsAgain_14 (rdF (j := 10) (c := 73) (by have := eN_ge E; omega) rfl rfl rfl) in_X9 (by decide) q917 rfl ?_
      refine V_bipush C 73 dX9_standsAgain_17 (by decide) ?_
      refine V_iload_n C dX9_standsAgain_19 rfl ?_
      refine V_imul C dX9_standsAgain_20 ?_
      refine V_iload_n C dX9_standsAgain_21 rfl ?_
      refine V_iadd C dX9_standsAgain_22 ?_
      refine V_ialdN C (73*k+i) (ix73 k i) (by omega) (by omega) dX9_standsAgain_23 (rdA (c := 78) (by have := eN_ge E; omega) rfl) ?_
      refine V_iastN C i rfl (by omega) (by omega) dX9_standsAgain_24 (wrA (c := 74) (by have := eN_ge E; omega) (fun _ => rfl)) ?_
      refine V_iinc C 1 dX9_standsAgain_25 rfl (by decide) rfl ?_
      refine V_goto C dX9_standsAgain_28 ?_
      exact V_nR (by rw [us_us, us_s, us_n (show (78:Nat) ≠ 74 by decide)]; have e := cpO_s (g := ρ 74) (f := ρ 78) (a := 0) (b := 73*k) (i := i) (v := ρ 78 (73*k+i)) rfl; rw [Nat.zero_add] at e; rw [e]) (by simp [← nI_1] <;> rfl) (ih (i + 1) (by omega))
  exact V_nR (by rw [cpO_0, us_id]) rfl (lp 73 0 (by omega))

theorem Bs0_y {g : Nat → Int32} {m : Nat} {v : Int32} {σ : Sg} {B : Bst} (h : Bs 0 B σ) (c : ¬ σ 73 6 ≤ σ 73 13) {w : Nat → Int32} (e12 : w 12 = v) (e13 : w 13 = σ 73 6) (e8 : w 8 = σ 73 6) (e9 : w 9 = σ 73 9) : Bs 0 (stp 0 g m v (σ 74, σ 73 6, σ 73 7) B) (us σ 73 w) := by
  have e : stp 0 g m v (σ 74, σ 73 6, σ 73 7) B = (v, σ 73 6) := by
    unfold stp; rw [if_pos rfl, if_pos (by rw [← (h.1 rfl).2]; exact Int32.not_le.mp c)]
  rw [e]
  unfold Bs
  rw [us_s]
  exact ⟨fun _ => ⟨e12, e13⟩, fun q => absurd q (by omega), fun q => absurd q (by omega), e8, e9.trans h.2.2.2.2⟩
theorem Bs0_n {g : Nat → Int32} {m : Nat} {v : Int32} {σ : Sg} {B : Bst} (h : Bs 0 B σ) (c : σ 73 6 ≤ σ 73 13) : Bs 0 (stp 0 g m v (σ 74, σ 73 6, σ 73 7) B) σ := by
  have e : stp 0 g m v (σ 74, σ 73 6, σ 73 7) B = B := by
    unfold stp; rw [if_pos rfl, if_neg (by rw [← (h.1 rfl).2]; exact Int32.not_lt.mpr c)]
  rw [e]; exact h
theorem Bs1_y {g : Nat → Int32} {m : Nat} {v : Int32} {σ : Sg} {B : Bst} (h : Bs 1 B σ) (c : σ 73 7 = 0) (c2 : σ 73 12 < 0 ∨ (0 ≤ σ 73 12 ∧ σ 74 4 < σ 73 14)) {w : Nat → Int32} (e12 : w 12 = v) (e14 : w 14 = σ 74 4) (e8 : w 8 = σ 73 8) (e9 : w 9 = σ 73 9) : Bs 1 (stp 1 g m v (σ 74, σ 73 6, σ 73 7) B) (us σ 73 w) := by
  obtain ⟨h12, h14⟩ := h.2.1 rfl
  have e : stp 1 g m v (σ 74, σ 73 6, σ 73 7) B = (v, σ 74 4) := by
    unfold stp; rw [if_neg (by omega), if_pos rfl, if_pos]
    refine ⟨c, ?_⟩
    rcases c2 with q | ⟨q1, q2⟩
    · exact Or.inl (by rw [← h12]; exact q)
    · exact Or.inr (by rw [← h14 (by rw [← h12]; exact q1)]; exact q2)
  rw [e]
  unfold Bs
  rw [us_s]
  exact ⟨fun q => absurd q (by omega), fun _ => ⟨e12, fun _ => e14⟩, fun q => absurd q (by omega), e8.trans h.2.2.2.1, e9.trans h.2.2.2.2⟩
theorem Bs1_n {g : Nat → Int32} {m : Nat} {v : Int32} {σ : Sg} {B : Bst} (h : Bs 1 B σ) (c : ¬ σ 73 7 = 0 ∨ (0 ≤ σ 73 12 ∧ σ 73 14 ≤ σ 74 4)) : Bs 1 (stp 1 g m v (σ 74, σ 73 6, σ 73 7) B) σ := by
  obtain ⟨h12, h14⟩ := h.2.1 rfl
  have e : stp 1 g m v (σ 74, σ 73 6, σ 73 7) B = B := by
    unfold stp; rw [if_neg (by omega), if_pos rfl, if_neg]
    rintro ⟨q1, q2⟩
    rcases c with c | ⟨c1, c2⟩
    · exact c q1
    · rcases q2 with q | q
      · exact absurd (by rw [← h12]; exact c1) (Int32.not_le.mpr q)
      · rw [← h14 (by rw [← h12]; exact c1)] at q; exact absurd c2 (Int32.not_le.mpr q)
  rw [e]; exact h
theorem Bs2_y {g : Nat → Int32} {m : Nat} {v b : Int32} {σ : Sg} {B : Bst} (h : Bs 2 B σ) {w : Nat → Int32} (e15 : w 15 = σ 73 15 + b) (hb : b = fitB g m (σ 74) (nh (σ 74))) (e8 : w 8 = σ 73 8) (e9 : w 9 = σ 73 9) : Bs 2 (stp 2 g m v (σ 74, σ 73 6, σ 73 7) B) (us σ 73 w) := by
  have e : stp 2 g m v (σ 74, σ 73 6, σ 73 7) B = (B.1 + fitB g m (σ 74) (nh (σ 74)), B.2) := by
    unfold stp; rw [if_neg (by omega), if_neg (by omega)]
  rw [e]
  unfold Bs
  rw [us_s]
  exact ⟨fun q => absurd q (by omega), fun q => absurd q (by omega), fun _ => by rw [e15, hb, h.2.2.1 rfl], e8.trans h.2.2.2.1, e9.trans h.2.2.2.2⟩

theorem c_X9_ended0 {l : Launch} {E : En} {σ : Sg} {v p2 : Int32} {g : Nat → Int32} {m : Nat} {B : Bst} (hB : Bs 0 B σ) : MN l yX9_ended cX9_ended 6 none rmX9_ended E [.ref (ad E 73), .int v, .int 0, .int p2] σ (fun r u => r = none ∧ (∀ c, c ≠ 73 → u c = σ c) ∧ (∀ j, j ≠ 8 → j < 12 ∨ 15 < j → u 73 j = σ 73 j) ∧ Bs 0 (stp 0 g m v (σ 74, σ 73 6, σ 73 7) B) u) := by
  refine MN_of (by decide +kernel) rfl fun x C hE hT hcan => ?_
  have C : CX x cX9_ended RX9 rmX9_ended := C
  refine V_L (L' := [some (.ref (ad E 73)), some (.int v), some (.int 0), some (.int p2), none, none]) rfl ?_
  refine V_iload_n C dX9_ended_0 rfl ?_
  refine V_if_ne C dX9_ended_1 (fun c1 => absurd (rfl) c1) (fun c1 => ?_)
  refine V_aload_n C dX9_ended_4 rfl ?_
  refine V_get C dX9_ended_5 (rdO (j := 6) 73 rfl rfl rfl rfl rfl) in_X9 (by decide) q913 rfl ?_
  refine V_aload_n C dX9_ended_8 rfl ?_
  refine V_get C dX9_ended_9 (rdO (j := 13) 73 rfl rfl rfl rfl rfl) in_X9 (by decide) q920 rfl ?_
  refine V_icmp_le C dX9_ended_12 (fun c12 => ?_) (fun c12 => ?_)
  · refine V_iload_n C dX9_ended_36 rfl ?_
    refine V_iconst C 1 dX9_ended_37 (by decide) ?_
    refine V_icmp_ne C dX9_ended_38 (fun c38 => ?_) (fun c38 => absurd c38 (by decide))
    refine V_iload_n C dX9_ended_83 rfl ?_
    refine V_iconst C 2 dX9_ended_84 (by decide) ?_
    refine V_icmp_ne C dX9_ended_85 (fun c85 => ?_) (fun c85 => absurd c85 (by decide))
    exact V_retN C dX9_ended_175 hT ⟨rfl, fun c hc => by first | rfl | simp (disch := omega) only [us_n], fun j h8 hj => by first | rfl | simp (disch := omega) only [us_s, upd_n], by first | exact Bs0_n hB c12 | exact Bs0_y hB c12 (by simp (disch := omega) only [upd_s, upd_n, us_n]) (by simp (disch := omega) only [upd_s, upd_n, us_n]) (by simp (disch := omega) only [upd_s, upd_n, us_n]) (by simp (disch := omega) only [upd_s, upd_n, us_n])⟩
  · refine V_aload_n C dX9_ended_15 rfl ?_
    refine V_iload_n C dX9_ended_16 rfl ?_
    refine V_put C dX9_ended_17 (wrO (j := 12) 73 rfl rfl rfl rfl rfl rfl) ft_X9 (by decide) q919 rfl rfl rfl rfl ?_
    try simp (disch := omega) only [us_us, us_s, upd_n, upd_s]
    refine V_aload_n C dX9_ended_20 rfl ?_
    refine V_aload_n C dX9_ended_21 rfl ?_
    refine V_get C dX9_ended_22 (rdO (j := 6) 73 rfl rfl rfl rfl rfl) in_X9 (by decide) q913 rfl ?_
    refine V_put C dX9_ended_25 (wrO (j := 13) 73 rfl rfl rfl rfl rfl rfl) ft_X9 (by decide) q920 rfl rfl rfl rfl ?_
    try simp (disch := omega) only [us_us, us_s, upd_n, upd_s]
    refine V_aload_n C dX9_ended_28 rfl ?_
    refine V_aload_n C dX9_ended_29 rfl ?_
    refine V_get C dX9_ended_30 (rdO (j := 6) 73 rfl rfl rfl rfl rfl) in_X9 (by decide) q913 rfl ?_
    refine V_put C dX9_ended_33 (wrO (j := 8) 73 rfl rfl rfl rfl rfl rfl) ft_X9 (by decide) q915 rfl rfl rfl rfl ?_
    try simp (disch := omega) only [us_us, us_s, upd_n, upd_s]
    refine V_iload_n C dX9_ended_36 rfl ?_
    refine V_iconst C 1 dX9_ended_37 (by decide) ?_
    refine V_icmp_ne C dX9_ended_38 (fun c38 => ?_) (fun c38 => absurd c38 (by decide))
    refine V_iload_n C dX9_ended_83 rfl ?_
    refine V_iconst C 2 dX9_ended_84 (by decide) ?_
    refine V_icmp_ne C dX9_ended_85 (fun c85 => ?_) (fun c85 => absurd c85 (by decide))
    exact V_retN C dX9_ended_175 hT ⟨rfl, fun c hc => by first | rfl | simp (disch := omega) only [us_n], fun j h8 hj => by first | rfl | simp (disch := omega) only [us_s, upd_n], by first | exact Bs0_n hB c12 | exact Bs0_y hB c12 (by simp (disch := omega) only [upd_s, upd_n, us_n]) (by simp (disch := omega) only [upd_s, upd_n, us_n]) (by simp (disch := omega) only [upd_s, upd_n, us_n]) (by simp (disch := omega) only [upd_s, upd_n, us_n])⟩

theorem c_X9_ended1 {l : Launch} {E : En} {σ : Sg} {v p2 : Int32} {g : Nat → Int32} {m : Nat} {B : Bst} (hB : Bs 1 B σ) : MN l yX9_ended cX9_ended 6 none rmX9_ended E [.ref (ad E 73), .int v, .int 1, .int p2] σ (fun r u => r = none ∧ (∀ c, c ≠ 73 → u c = σ c) ∧ (∀ j, j ≠ 8 → j < 12 ∨ 15 < j → u 73 j = σ 73 j) ∧ Bs 1 (stp 1 g m v (σ 74, σ 73 6, σ 73 7) B) u) := by
  refine MN_of (by decide +kernel) rfl fun x C hE hT hcan => ?_
  have C : CX x cX9_ended RX9 rmX9_ended := C
  refine V_L (L' := [some (.ref (ad E 73)), some (.int v), some (.int 1), some (.int p2), none, none]) rfl ?_
  refine V_iload_n C dX9_ended_0 rfl ?_
  refine V_if_ne C dX9_ended_1 (fun c1 => ?_) (fun c1 => absurd c1 (by decide))
  refine V_iload_n C dX9_ended_36 rfl ?_
  refine V_iconst C 1 dX9_ended_37 (by decide) ?_
  refine V_icmp_ne C dX9_ended_38 (fun c38 => absurd (rfl) c38) (fun c38 => ?_)
  refine V_aload_n C dX9_ended_41 rfl ?_
  refine V_get C dX9_ended_42 (rdO (j := 7) 73 rfl rfl rfl rfl rfl) in_X9 (by decide) q914 rfl ?_
  refine V_if_ne C dX9_ended_45 (fun c45 => ?_) (fun c45 => ?_)
  · refine V_iload_n C dX9_ended_83 rfl ?_
    refine V_iconst C 2 dX9_ended_84 (by decide) ?_
    refine V_icmp_ne C dX9_ended_85 (fun c85 => ?_) (fun c85 => absurd c85 (by decide))
    exact V_retN C dX9_ended_175 hT ⟨rfl, fun c hc => by first | rfl | simp (disch := omega) only [us_n], fun j h8 hj => by first | rfl | simp (disch := omega) only [us_s, upd_n], by first | exact Bs1_n hB (Or.inl c45) | exact Bs1_n hB (Or.inr ⟨Int32.not_lt.mp c52, c65⟩) | exact Bs1_y hB c45 (Or.inl c52) (by simp (disch := omega) only [upd_s, upd_n, us_n]) (by simp (disch := omega) only [upd_s, upd_n, us_n]) (by simp (disch := omega) only [upd_s, upd_n, us_n]) (by simp (disch := omega) only [upd_s, upd_n, us_n]) | exact Bs1_y hB c45 (Or.inr ⟨Int32.not_lt.mp c52, Int32.not_le.mp c65⟩) (by simp (disch := omega) only [upd_s, upd_n, us_n]) (by simp (disch := omega) only [upd_s, upd_n, us_n]) (by simp (disch := omega) only [upd_s, upd_n, us_n]) (by simp (disch := omega) only [upd_s, upd_n, us_n])⟩
  · refine V_aload_n C dX9_ended_48 rfl ?_
    refine V_get C dX9_ended_49 (rdO (j := 12) 73 rfl rfl rfl rfl rfl) in_X9 (by decide) q919 rfl ?_
    refine V_if_lt C dX9_ended_52 (fun c52 => ?_) (fun c52 => ?_)
    · refine V_aload_n C dX9_ended_68 rfl ?_
      refine V_iload_n C dX9_ended_69 rfl ?_
      refine V_put C dX9_ended_70 (wrO (j := 12) 73 rfl rfl rfl rfl rfl rfl) ft_X9 (by decide) q919 rfl rfl rfl rfl ?_
      try simp (disch := omega) only [us_us, us_s, upd_n, upd_s]
      refine V_aload_n C dX9_ended_73 rfl ?_
      refine V_aload_n C dX9_ended_74 rfl ?_
      refine V_get C dX9_ended_75 (rdO (j := 0) 73 rfl rfl rfl rfl rfl) in_X9 (by decide) q907 rfl ?_
      refine V_iconst C 4 dX9_ended_78 (by decide) ?_
      refine V_iald C 4 rfl rfl rfl dX9_ended_79 (rdM 74 4 rfl rfl rfl) ?_
      refine V_put C dX9_ended_80 (wrO (j := 14) 73 rfl rfl rfl rfl rfl rfl) ft_X9 (by decide) q921 rfl rfl rfl rfl ?_
      try simp (disch := omega) only [us_us, us_s, upd_n, upd_s]
      refine V_iload_n C dX9_ended_83 rfl ?_
      refine V_iconst C 2 dX9_ended_84 (by decide) ?_
      refine V_icmp_ne C dX9_ended_85 (fun c85 => ?_) (fun c85 => absurd c85 (by decide))
      exact V_retN C dX9_ended_175 hT ⟨rfl, fun c hc => by first | rfl | simp (disch := omega) only [us_n], fun j h8 hj => by first | rfl | simp (disch := omega) only [us_s, upd_n], by first | exact Bs1_n hB (Or.inl c45) | exact Bs1_n hB (Or.inr ⟨Int32.not_lt.mp c52, c65⟩) | exact Bs1_y hB c45 (Or.inl c52) (by simp (disch := omega) only [upd_s, upd_n, us_n]) (by simp (disch := omega) only [upd_s, upd_n, us_n]) (by simp (disch := omega) only [upd_s, upd_n, us_n]) (by simp (disch := omega) only [upd_s, upd_n, us_n]) | exact Bs1_y hB c45 (Or.inr ⟨Int32.not_lt.mp c52, Int32.not_le.mp c65⟩) (by simp (disch := omega) only [upd_s, upd_n, us_n]) (by simp (disch := omega) only [upd_s, upd_n, us_n]) (by simp (disch := omega) only [upd_s, upd_n, us_n]) (by simp (disch := omega) only [upd_s, upd_n, us_n])⟩
    · refine V_aload_n C dX9_ended_55 rfl ?_
      refine V_get C dX9_ended_56 (rdO (j := 0) 73 rfl rfl rfl rfl rfl) in_X9 (by decide) q907 rfl ?_
      refine V_iconst C 4 dX9_ended_59 (by decide) ?_
      refine V_iald C 4 rfl rfl rfl dX9_ended_60 (rdM 74 4 rfl rfl rfl) ?_
      refine V_aload_n C dX9_ended_61 rfl ?_
      refine V_get C dX9_ended_62 (rdO (j := 14) 73 rfl rfl rfl rfl rfl) in_X9 (by decide) q921 rfl ?_
      refine V_icmp_ge C dX9_ended_65 (fun c65 => ?_) (fun c65 => ?_)
      · refine V_iload_n C dX9_ended_83 rfl ?_
        refine V_iconst C 2 dX9_ended_84 (by decide) ?_
        refine V_icmp_ne C dX9_ended_85 (fun c85 => ?_) (fun c85 => absurd c85 (by decide))
        exact V_retN C dX9_ended_175 hT ⟨rfl, fun c hc => by first | rfl | simp (disch := omega) only [us_n], fun j h8 hj => by first | rfl | simp (disch := omega) only [us_s, upd_n], by first | exact Bs1_n hB (Or.inl c45) | exact Bs1_n hB (Or.inr ⟨Int32.not_lt.mp c52, c65⟩) | exact Bs1_y hB c45 (Or.inl c52) (by simp (disch := omega) only [upd_s, upd_n, us_n]) (by simp (disch := omega) only [upd_s, upd_n, us_n]) (by simp (disch := omega) only [upd_s, upd_n, us_n]) (by simp (disch := omega) only [upd_s, upd_n, us_n]) | exact Bs1_y hB c45 (Or.inr ⟨Int32.not_lt.mp c52, Int32.not_le.mp c65⟩) (by simp (disch := omega) only [upd_s, upd_n, us_n]) (by simp (disch := omega) only [upd_s, upd_n, us_n]) (by simp (disch := omega) only [upd_s, upd_n, us_n]) (by simp (disch := omega) only [upd_s, upd_n, us_n])⟩
      · refine V_aload_n C dX9_ended_68 rfl ?_
        refine V_iload_n C dX9_ended_69 rfl ?_
        refine V_put C dX9_ended_70 (wrO (j := 12) 73 rfl rfl rfl rfl rfl rfl) ft_X9 (by decide) q919 rfl rfl rfl rfl ?_
        try simp (disch := omega) only [us_us, us_s, upd_n, upd_s]
        refine V_aload_n C dX9_ended_73 rfl ?_
        refine V_aload_n C dX9_ended_74 rfl ?_
        refine V_get C dX9_ended_75 (rdO (j := 0) 73 rfl rfl rfl rfl rfl) in_X9 (by decide) q907 rfl ?_
        refine V_iconst C 4 dX9_ended_78 (by decide) ?_
        refine V_iald C 4 rfl rfl rfl dX9_ended_79 (rdM 74 4 rfl rfl rfl) ?_
        refine V_put C dX9_ended_80 (wrO (j := 14) 73 rfl rfl rfl rfl rfl rfl) ft_X9 (by decide) q921 rfl rfl rfl rfl ?_
        try simp (disch := omega) only [us_us, us_s, upd_n, upd_s]
        refine V_iload_n C dX9_ended_83 rfl ?_
        refine V_iconst C 2 dX9_ended_84 (by decide) ?_
        refine V_icmp_ne C dX9_ended_85 (fun c85 => ?_) (fun c85 => absurd c85 (by decide))
        exact V_retN C dX9_ended_175 hT ⟨rfl, fun c hc => by first | rfl | simp (disch := omega) only [us_n], fun j h8 hj => by first | rfl | simp (disch := omega) only [us_s, upd_n], by first | exact Bs1_n hB (Or.inl c45) | exact Bs1_n hB (Or.inr ⟨Int32.not_lt.mp c52, c65⟩) | exact Bs1_y hB c45 (Or.inl c52) (by simp (disch := omega) only [upd_s, upd_n, us_n]) (by simp (disch := omega) only [upd_s, upd_n, us_n]) (by simp (disch := omega) only [upd_s, upd_n, us_n]) (by simp (disch := omega) only [upd_s, upd_n, us_n]) | exact Bs1_y hB c45 (Or.inr ⟨Int32.not_lt.mp c52, Int32.not_le.mp c65⟩) (by simp (disch := omega) only [upd_s, upd_n, us_n]) (by simp (disch := omega) only [upd_s, upd_n, us_n]) (by simp (disch := omega) only [upd_s, upd_n, us_n]) (by simp (disch := omega) only [upd_s, upd_n, us_n])⟩

theorem c_X9_ended2 {l : Launch} {E : En} {σ : Sg} {v : Int32} {s m : Nat} {B : Bst} (hB : Bs 2 B σ) (hs : s < 4) (hm : m ≤ 40) (hml : σ 82 s = nI m) : MN l yX9_ended cX9_ended 6 none rmX9_ended E [.ref (ad E 73), .int v, .int 2, .int (nI s)] σ (fun r u => r = none ∧ (∀ c, c ≠ 73 → u c = σ c) ∧ (∀ j, j ≠ 8 → j < 12 ∨ 15 < j → u 73 j = σ 73 j) ∧ Bs 2 (stp 2 (fun i => σ 83 (40 * s + i)) m v (σ 74, σ 73 6, σ 73 7) B) u) := by
  refine MN_of (by decide +kernel) rfl fun x C hE hT hcan => ?_
  have C : CX x cX9_ended RX9 rmX9_ended := C
  have h8 : nh (σ 74) ≤ 8 := (hcan.2.1 74 (by omega) (by omega)).2.1
  have hn1 : σ 74 1 = nI (nh (σ 74)) := (hcan.2.1 74 (by omega) (by omega)).1
  refine V_L (L' := [some (.ref (ad E 73)), some (.int v), some (.int 2), some (.int (nI s)), none, none]) rfl ?_
  refine V_iload_n C dX9_ended_0 rfl ?_
  refine V_if_ne C dX9_ended_1 (fun c1 => ?_) (fun c1 => absurd c1 (by decide))
  refine V_iload_n C dX9_ended_36 rfl ?_
  refine V_iconst C 1 dX9_ended_37 (by decide) ?_
  refine V_icmp_ne C dX9_ended_38 (fun c38 => ?_) (fun c38 => absurd c38 (by decide))
  refine V_iload_n C dX9_ended_83 rfl ?_
  refine V_iconst C 2 dX9_ended_84 (by decide) ?_
  refine V_icmp_ne C dX9_ended_85 (fun c85 => absurd (rfl) c85) (fun c85 => ?_)
  refine V_iconst C 1 dX9_ended_88 (by decide) ?_
  refine V_istore C dX9_ended_89 rfl ?_
  refine V_iconst C 0 dX9_ended_91 (by decide) ?_
  refine V_istore C dX9_ended_92 rfl ?_
  have lb : ¬ fitP (fun i => σ 83 (40 * s + i)) m (σ 74) (nh (σ 74)) → ∀ (d i : Nat), i + d = nh (σ 74) → V x (eA E) (AP x E σ) 0 0 94 [some (.ref (ad E 73)), some (.int v), some (.int 2), some (.int (nI s)), some (.int 0), some (.int (nI i))] [] := by
    intro hf0
    have lb : ∀ (d i : Nat) , i + d = nh (σ 74) → V x (eA E) (AP x E (σ)) 0 0 94 [some (.ref (ad E 73)), some (.int v), some (.int 2), some (.int (nI s)), some (.int 0), some (.int (nI i))] [] := by
      intro d
      induction d with
      | zero =>
        intro i  hi' 
        have hN : i = nh (σ 74) := by omega
        refine V_iload C dX9_ended_94 rfl ?_
        refine V_aload_n C dX9_ended_96 rfl ?_
        refine V_get C dX9_ended_97 (rdO (j := 0) 73 rfl rfl rfl rfl rfl) in_X9 (by decide) q907 rfl ?_
        refine V_iconst C 1 dX9_ended_100 (by decide) ?_
        refine V_iald C 1 rfl rfl rfl dX9_ended_101 (rdM 74 1 rfl rfl rfl) ?_
        refine V_icmp_ge C dX9_ended_102 (fun c102 => ?_) (fun c102 => absurd (by rw [hn1, hN] <;> exact nI_le (Nat.le_refl _) (by omega)) c102)
        refine V_aload_n C dX9_ended_156 rfl ?_
        refine V_dup C dX9_ended_157 rfl ?_
        refine V_get C dX9_ended_158 (rdO (j := 15) 73 rfl rfl rfl rfl rfl) in_X9 (by decide) q922 rfl ?_
        refine V_iload C dX9_ended_161 rfl ?_
        refine V_if_eq C dX9_ended_163 (fun c163 => ?_) (fun c163 => absurd (rfl) c163)
        refine V_iconst C 0 dX9_ended_170 (by decide) ?_
        refine V_iadd C dX9_ended_171 ?_
        refine V_put C dX9_ended_172 (wrO (j := 15) 73 rfl rfl rfl rfl rfl rfl) ft_X9 (by decide) q922 rfl rfl rfl rfl ?_
        try simp (disch := omega) only [us_us, us_s, upd_n, upd_s]
        exact V_retN C dX9_ended_175 hT ⟨rfl, fun c hc => by simp (disch := omega) only [us_n], fun j h8 hj => by simp (disch := omega) only [us_s, upd_n], Bs2_y hB (b := 0) (by simp (disch := omega) only [upd_s, upd_n, us_n]) (fitB_f hf0).symm (by simp (disch := omega) only [upd_s, upd_n, us_n]) (by simp (disch := omega) only [upd_s, upd_n, us_n])⟩
      | succ d ih2 =>
        intro i  hi' 
        refine V_iload C dX9_ended_94 rfl ?_
        refine V_aload_n C dX9_ended_96 rfl ?_
        refine V_get C dX9_ended_97 (rdO (j := 0) 73 rfl rfl rfl rfl rfl) in_X9 (by decide) q907 rfl ?_
        refine V_iconst C 1 dX9_ended_100 (by decide) ?_
        refine V_iald C 1 rfl rfl rfl dX9_ended_101 (rdM 74 1 rfl rfl rfl) ?_
        refine V_icmp_ge C dX9_ended_102 (fun c102 => absurd c102 (by rw [hn1]; exact nI_ge (by omega) (by omega))) (fun c102 => ?_)
        refine V_iload C dX9_ended_105 rfl ?_
        refine V_aload_n C dX9_ended_107 rfl ?_
        refine V_get C dX9_ended_108 (rdO (j := 23) 73 rfl rfl rfl rfl rfl) in_X9 (by decide) q930 rfl ?_
        refine V_iload_n C dX9_ended_111 rfl ?_
        refine V_ialdN C s rfl (hs) (by omega) dX9_ended_112 (rdOA 82 rfl rfl rfl) ?_
        refine V_icmp_ge C dX9_ended_113 (fun c113 => ?_) (fun c113 => ?_)
        · refine V_aload_n C dX9_ended_156 rfl ?_
          refine V_dup C dX9_ended_157 rfl ?_
          refine V_get C dX9_ended_158 (rdO (j := 15) 73 rfl rfl rfl rfl rfl) in_X9 (by decide) q922 rfl ?_
          refine V_iload C dX9_ended_161 rfl ?_
          refine V_if_eq C dX9_ended_163 (fun c163 => ?_) (fun c163 => absurd (rfl) c163)
          refine V_iconst C 0 dX9_ended_170 (by decide) ?_
          refine V_iadd C dX9_ended_171 ?_
          refine V_put C dX9_ended_172 (wrO (j := 15) 73 rfl rfl rfl rfl rfl rfl) ft_X9 (by decide) q922 rfl rfl rfl rfl ?_
          try simp (disch := omega) only [us_us, us_s, upd_n, upd_s]
          exact V_retN C dX9_ended_175 hT ⟨rfl, fun c hc => by simp (disch := omega) only [us_n], fun j h8 hj => by simp (disch := omega) only [us_s, upd_n], Bs2_y hB (b := 0) (by simp (disch := omega) only [upd_s, upd_n, us_n]) (fitB_f hf0).symm (by simp (disch := omega) only [upd_s, upd_n, us_n]) (by simp (disch := omega) only [upd_s, upd_n, us_n])⟩
        · refine V_iload C dX9_ended_116 rfl ?_
          refine V_if_eq C dX9_ended_118 (fun c118 => ?_) (fun c118 => absurd (rfl) c118)
          refine V_iconst C 0 dX9_ended_147 (by decide) ?_
          refine V_istore C dX9_ended_148 rfl ?_
          refine V_iinc C 1 dX9_ended_150 rfl (by decide) rfl ?_
          refine V_goto C dX9_ended_153 ?_
          exact V_nx rfl (by simp [← nI_1] <;> rfl) (ih2 (i + 1) (by omega))
    exact lb
  have lp : ∀ (d i : Nat) , i + d = nh (σ 74) → (∀ j, j < i → j < m → hf (σ 74) j 5 = (fun i => σ 83 (40 * s + i)) j) → V x (eA E) (AP x E (σ)) 0 0 94 [some (.ref (ad E 73)), some (.int v), some (.int 2), some (.int (nI s)), some (.int 1), some (.int (nI i))] [] := by
    intro d
    induction d with
    | zero =>
      intro i  hi' hp
      have hN : i = nh (σ 74) := by omega
      refine V_iload C dX9_ended_94 rfl ?_
      refine V_aload_n C dX9_ended_96 rfl ?_
      refine V_get C dX9_ended_97 (rdO (j := 0) 73 rfl rfl rfl rfl rfl) in_X9 (by decide) q907 rfl ?_
      refine V_iconst C 1 dX9_ended_100 (by decide) ?_
      refine V_iald C 1 rfl rfl rfl dX9_ended_101 (rdM 74 1 rfl rfl rfl) ?_
      refine V_icmp_ge C dX9_ended_102 (fun c102 => ?_) (fun c102 => absurd (by rw [hn1, hN] <;> exact nI_le (Nat.le_refl _) (by omega)) c102)
      refine V_aload_n C dX9_ended_156 rfl ?_
      refine V_dup C dX9_ended_157 rfl ?_
      refine V_get C dX9_ended_158 (rdO (j := 15) 73 rfl rfl rfl rfl rfl) in_X9 (by decide) q922 rfl ?_
      refine V_iload C dX9_ended_161 rfl ?_
      refine V_if_eq C dX9_ended_163 (fun c163 => absurd c163 (by decide)) (fun c163 => ?_)
      refine V_iconst C 1 dX9_ended_166 (by decide) ?_
      refine V_goto C dX9_ended_167 ?_
      refine V_iadd C dX9_ended_171 ?_
      refine V_put C dX9_ended_172 (wrO (j := 15) 73 rfl rfl rfl rfl rfl rfl) ft_X9 (by decide) q922 rfl rfl rfl rfl ?_
      try simp (disch := omega) only [us_us, us_s, upd_n, upd_s]
      exact V_retN C dX9_ended_175 hT ⟨rfl, fun c hc => by simp (disch := omega) only [us_n], fun j h8 hj => by simp (disch := omega) only [us_s, upd_n], Bs2_y hB (b := 1) (by simp (disch := omega) only [upd_s, upd_n, us_n]) (fitB_t (fit_of _ (fun j hj hjm => hp j (by omega) hjm))).symm (by simp (disch := omega) only [upd_s, upd_n, us_n]) (by simp (disch := omega) only [upd_s, upd_n, us_n])⟩
    | succ d ih =>
      intro i  hi' hp
      refine V_iload C dX9_ended_94 rfl ?_
      refine V_aload_n C dX9_ended_96 rfl ?_
      refine V_get C dX9_ended_97 (rdO (j := 0) 73 rfl rfl rfl rfl rfl) in_X9 (by decide) q907 rfl ?_
      refine V_iconst C 1 dX9_ended_100 (by decide) ?_
      refine V_iald C 1 rfl rfl rfl dX9_ended_101 (rdM 74 1 rfl rfl rfl) ?_
      refine V_icmp_ge C dX9_ended_102 (fun c102 => absurd c102 (by rw [hn1]; exact nI_ge (by omega) (by omega))) (fun c102 => ?_)
      refine V_iload C dX9_ended_105 rfl ?_
      refine V_aload_n C dX9_ended_107 rfl ?_
      refine V_get C dX9_ended_108 (rdO (j := 23) 73 rfl rfl rfl rfl rfl) in_X9 (by decide) q930 rfl ?_
      refine V_iload_n C dX9_ended_111 rfl ?_
      refine V_ialdN C s rfl (hs) (by omega) dX9_ended_112 (rdOA 82 rfl rfl rfl) ?_
      refine V_icmp_ge C dX9_ended_113 (fun c113 => ?_) (fun c113 => ?_)
      · refine V_aload_n C dX9_ended_156 rfl ?_
        refine V_dup C dX9_ended_157 rfl ?_
        refine V_get C dX9_ended_158 (rdO (j := 15) 73 rfl rfl rfl rfl rfl) in_X9 (by decide) q922 rfl ?_
        refine V_iload C dX9_ended_161 rfl ?_
        refine V_if_eq C dX9_ended_163 (fun c163 => absurd c163 (by decide)) (fun c163 => ?_)
        refine V_iconst C 1 dX9_ended_166 (by decide) ?_
        refine V_goto C dX9_ended_167 ?_
        refine V_iadd C dX9_ended_171 ?_
        refine V_put C dX9_ended_172 (wrO (j := 15) 73 rfl rfl rfl rfl rfl rfl) ft_X9 (by decide) q922 rfl rfl rfl rfl ?_
        try simp (disch := omega) only [us_us, us_s, upd_n, upd_s]
        exact V_retN C dX9_ended_175 hT ⟨rfl, fun c hc => by simp (disch := omega) only [us_n], fun j h8 hj => by simp (disch := omega) only [us_s, upd_n], Bs2_y hB (b := 1) (by simp (disch := omega) only [upd_s, upd_n, us_n]) (fitB_t (fit_of _ (fun j hj hjm => by rcases Nat.lt_or_ge j i with q | q; exact hp j q hjm; exact absurd ((nI_leI (a := m) (b := i) (by omega) (by omega)).mp (by rw [← hml]; exact c113)) (by omega)))).symm (by simp (disch := omega) only [upd_s, upd_n, us_n]) (by simp (disch := omega) only [upd_s, upd_n, us_n])⟩
      · refine V_iload C dX9_ended_116 rfl ?_
        refine V_if_eq C dX9_ended_118 (fun c118 => absurd c118 (by decide)) (fun c118 => ?_)
        refine V_aload_n C dX9_ended_121 rfl ?_
        refine V_iload C dX9_ended_122 rfl ?_
        refine V_iconst C 5 dX9_ended_124 (by decide) ?_
        refine V_cv C hE dX9_ended_125 (c_X9_its (i := i) (j := 5) rfl (by omega) (by omega)) kyX9_its q1016 (isoO 73 rfl rfl rfl rfl) rfl rfl rfl ?_
        try simp (disch := omega) only [us_us, us_s, upd_n, upd_s]
        refine V_aload_n C dX9_ended_128 rfl ?_
        refine V_get C dX9_ended_129 (rdO (j := 24) 73 rfl rfl rfl rfl rfl) in_X9 (by decide) q931 rfl ?_
        refine V_bipush C 40 dX9_ended_132 (by decide) ?_
        refine V_iload_n C dX9_ended_134 rfl ?_
        refine V_imul C dX9_ended_135 ?_
        refine V_iload C dX9_ended_136 rfl ?_
        refine V_iadd C dX9_ended_138 ?_
        refine V_ialdN C (40*s+i) (ix_s s i) (by omega) (by omega) dX9_ended_139 (rdOA 83 rfl rfl rfl) ?_
        refine V_icmp_ne C dX9_ended_140 (fun c140 => ?_) (fun c140 => ?_)
        · refine V_iconst C 0 dX9_ended_147 (by decide) ?_
          refine V_istore C dX9_ended_148 rfl ?_
          refine V_iinc C 1 dX9_ended_150 rfl (by decide) rfl ?_
          refine V_goto C dX9_ended_153 ?_
          exact V_nx rfl (by simp [← nI_1] <;> rfl) (lb (fun q => c140 (fit_at _ q i (by omega) ((nI_ltI (a := i) (b := m) (by omega) (by omega)).mp (by rw [← hml]; exact Int32.not_le.mp c113)))) d (i + 1) (by omega))
        · refine V_iconst C 1 dX9_ended_143 (by decide) ?_
          refine V_goto C dX9_ended_144 ?_
          refine V_istore C dX9_ended_148 rfl ?_
          refine V_iinc C 1 dX9_ended_150 rfl (by decide) rfl ?_
          refine V_goto C dX9_ended_153 ?_
          exact V_nx rfl (by simp [← nI_1] <;> rfl) (ih (i + 1) (by omega) (fun j hj hjm => by rcases Nat.lt_or_ge j i with q | q; exact hp j q hjm; rw [show j = i by omega]; exact c140))
  exact lp (nh (σ 74)) 0 (by omega) (fun j hj => absurd hj (by omega))

