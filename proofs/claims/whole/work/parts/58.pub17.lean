theorem q72 : Cond.initialized RX6 ∈ lw_gd := gd 72 (by decide +kernel) rfl
theorem q79 : Cond.initialized RX0 ∈ lw_gd := gd 79 (by decide +kernel) rfl
theorem q576 : Cond.sameMethod RX7 RX7 "givesUp" "(LSledgeStove$Village;)Z" ∈ lw_gd := gd 576 (by decide +kernel) rfl
theorem q577 : Cond.selects RX0 yWgu yX0_givesUp ∈ lw_gd := gd 577 (by decide +kernel) rfl
theorem q578 : Cond.instanceMethod yX0_givesUp ∈ lw_gd := gd 578 (by decide +kernel) rfl
theorem q579 : Cond.code yX0_givesUp cX0_givesUp 2 (some .boolean) ∈ lw_gd := gd 579 (by decide +kernel) rfl
theorem q580 : Cond.selects RX4 yWgu yX4_givesUp ∈ lw_gd := gd 580 (by decide +kernel) rfl
theorem q583 : Cond.selects RX6 yWgu yX6_givesUp ∈ lw_gd := gd 583 (by decide +kernel) rfl
theorem q584 : Cond.instanceMethod yX6_givesUp ∈ lw_gd := gd 584 (by decide +kernel) rfl
theorem q585 : Cond.code yX6_givesUp cX6_givesUp 2 (some .boolean) ∈ lw_gd := gd 585 (by decide +kernel) rfl
theorem q588 : Cond.sameMethod RX7 RX7 "look" "(LSledgeStove$Village;I)V" ∈ lw_gd := gd 588 (by decide +kernel) rfl
theorem q589 : Cond.selects RX0 yWlk yX0_look ∈ lw_gd := gd 589 (by decide +kernel) rfl
theorem q590 : Cond.instanceMethod yX0_look ∈ lw_gd := gd 590 (by decide +kernel) rfl
theorem q591 : Cond.code yX0_look cX0_look 6 none ∈ lw_gd := gd 591 (by decide +kernel) rfl
theorem q598 : Cond.selects RX4 yWlk yX4_look ∈ lw_gd := gd 598 (by decide +kernel) rfl
theorem q599 : Cond.instanceMethod yX4_look ∈ lw_gd := gd 599 (by decide +kernel) rfl
theorem q600 : Cond.code yX4_look cX4_look 3 none ∈ lw_gd := gd 600 (by decide +kernel) rfl
theorem q602 : Cond.selects RX6 yWlk yX6_look ∈ lw_gd := gd 602 (by decide +kernel) rfl
theorem q603 : Cond.instanceMethod yX6_look ∈ lw_gd := gd 603 (by decide +kernel) rfl
theorem q604 : Cond.code yX6_look cX6_look 3 none ∈ lw_gd := gd 604 (by decide +kernel) rfl
theorem kAX6_givesUp : KA RX6 RX7 yWgu yX6_givesUp cX6_givesUp 2 (some .boolean) 1 := ⟨q576, q583, q584, q72, q585, by decide +kernel⟩
theorem kAX6_look : KA RX6 RX7 yWlk yX6_look cX6_look 3 none 2 := ⟨q588, q602, q603, q72, q604, by decide +kernel⟩
theorem c_X8_tryThrees0 {l : Launch} {E : En} {σ : Sg} {s : Int32} {f : Nat → Int32} {Bi : Bst} (hw : eW E = 1) (hf : σ 0 = f) (hGf : GV f) (hq4 : Q4 f 20000) (hs : inP s 1 12) (hBi : Wb 0 Bi σ) : MG l yX8_tryThrees cX8_tryThrees 7 none rmX8_tryThrees 0 0 E [.ref (ad E 60), .int s, .ref (ad E 85)] (PT E σ) (fun r (u : Sg) => r = none ∧ EqX2 σ u ∧ Wb 0 (fA 0 (fun _ => 0) 0 s f (nh f) Bi) u) (fun u => PA E u) := by
  refine MG_of (by decide +kernel) rfl fun x C hE hT => V_use fun _ hP0 => ?_
  have C : CX x cX8_tryThrees RX8 rmX8_tryThrees := C
  have hdc : DC (xs x) := hP0.2
  have hcan := CA_of hP0.1
  have h8 : nh f ≤ 8 := hGf.1.1.2.1
  have hw0 : eW E ≠ 0 := by omega
  refine V_to (P' := AP x E σ) (fun _ h => h.1) rfl rfl ?_
  refine V_L (L' := [some (.ref (ad E 60)), some (.int s), some (.ref (ad E 85)), none, none, none, none]) rfl ?_
  refine V_aload_n C dX8_tryThrees_0 rfl ?_
  refine V_get C dX8_tryThrees_1 (rdX8_live) in_X8 (by decide) q232 rfl ?_
  refine V_getN C hE.nw dX8_tryThrees_4 (rdV (by first | assumption | omega) 3 1 rfl rfl rfl) in_X5 (by decide) q133 rfl ?_
  refine V_st (st' := [.int (nI (nh f))]) (by rw [hf, hGf.1.1.1]) ?_
  refine V_istore_n C dX8_tryThrees_7 rfl ?_
  refine V_iconst C 0 dX8_tryThrees_8 (by decide) ?_
  refine V_istore C dX8_tryThrees_9 rfl ?_
  have lpb : ∀ (a : Nat) (B : Bst), a < nh f → (∀ (b c : Option Value) (u : Sg), EqX2 σ u → Wb 0 (fB 0 (fun _ => 0) 0 s a (lgT (waM 0) s (f, 400, 0) a) (nh f) B) u → V x (eA E) (AP x E u) 0 0 154 [some (.ref (ad E 60)), some (.int s), some (.ref (ad E 85)), some (.int (nI (nh f))), some (.int (nI a)), b, c] []) → ∀ u, EqX2 σ u → VT 0 (lgT (waM 0) s (f, 400, 0) a) 2 u → Wb 0 B u → V x (eA E) (AP x E u) 0 0 41 [some (.ref (ad E 60)), some (.int s), some (.ref (ad E 85)), some (.int (nI (nh f))), some (.int (nI a)), some (.int (nI 0)), none] [] := by
    intro a B ha ja0 u0 hX0 h20 hB0
    have g1 := lgT_f (wa := (waM 0)) (s := s) (t := (f, 400, 0)) (b := a) hGf (show a ≤ 7 by omega) (show (0:Int32) ≤ 400 by decide) (show (400:Int32) ≤ 400 by decide)
    have q1 := (Q4_leg (s := s) (b := a) hGf (show a ≤ 7 by omega) hs hq4 (by omega)).1
    have y1 : (lgT (waM 0) s (f, 400, 0) a).2.2 = 0 ∨ (lgT (waM 0) s (f, 400, 0) a).2.2 = 1 := lgT_01 (Or.inl rfl)
    have lpc : ∀ (b : Nat) (B : Bst), b < nh f → (∀ (cc : Int32) (u : Sg), EqX2 σ u → VT 0 (lgT (waM 0) s (f, 400, 0) a) 2 u → Wb 0 (fC 0 (fun _ => 0) 0 s (10 * a + b) (lgT (waM 0) s (lgT (waM 0) s (f, 400, 0) a) b) (nh f) B) u → V x (eA E) (AP x E u) 0 0 148 [some (.ref (ad E 60)), some (.int s), some (.ref (ad E 85)), some (.int (nI (nh f))), some (.int (nI a)), some (.int (nI b)), some (.int cc)] []) → ∀ u, EqX2 σ u → VT 0 (lgT (waM 0) s (f, 400, 0) a) 2 u → VT 0 (lgT (waM 0) s (lgT (waM 0) s (f, 400, 0) a) b) 3 u → Wb 0 B u → V x (eA E) (AP x E u) 0 0 82 [some (.ref (ad E 60)), some (.int s), some (.ref (ad E 85)), some (.int (nI (nh f))), some (.int (nI a)), some (.int (nI b)), some (.int (nI 0))] [] := by
      intro b B hb jb0 u0 hX0 h20 h30 hB0
      have g2 := lgT_f (wa := (waM 0)) (s := s) (b := b) g1.1 (show b ≤ 7 by omega) g1.2.1 g1.2.2.1
      have q2 := (Q4_leg (s := s) (b := b) g1.1 (show b ≤ 7 by omega) hs q1 (by omega)).1
      have y2 : (lgT (waM 0) s (lgT (waM 0) s (f, 400, 0) a) b).2.2 = 0 ∨ (lgT (waM 0) s (lgT (waM 0) s (f, 400, 0) a) b).2.2 = 1 := lgT_01 y1
      have lp : ∀ (d i : Nat) (u : Sg), i + d = nh f → (EqX2 σ u) → (VT 0 (lgT (waM 0) s (f, 400, 0) a) 2 u) → (VT 0 (lgT (waM 0) s (lgT (waM 0) s (f, 400, 0) a) b) 3 u) → (Wb 0 (fC 0 (fun _ => 0) 0 s (10 * a + b) (lgT (waM 0) s (lgT (waM 0) s (f, 400, 0) a) b) i B) u) → V x (eA E) (AP x E (u)) 0 0 82 [some (.ref (ad E 60)), some (.int s), some (.ref (ad E 85)), some (.int (nI (nh f))), some (.int (nI a)), some (.int (nI b)), some (.int (nI i))] [] := by
        intro d
        induction d with
        | zero =>
          intro i u hi' hX h2 h3 hB
          have hN : i = nh f := by omega
          refine V_iload C dX8_tryThrees_82 rfl ?_
          refine V_iload_n C dX8_tryThrees_84 rfl ?_
          refine V_icmp_ge C dX8_tryThrees_85 (fun c85 => ?_) (fun c85 => absurd (by rw [hN] <;> exact nI_le (Nat.le_refl _) (by omega)) c85)
          exact jb0 _ u hX h2 (by have e : fC 0 (fun _ => 0) 0 s (10 * a + b) (lgT (waM 0) s (lgT (waM 0) s (f, 400, 0) a) b) (nh f) B = (fC 0 (fun _ => 0) 0 s (10 * a + b) (lgT (waM 0) s (lgT (waM 0) s (f, 400, 0) a) b) i B) := (by rw [hN]); rw [e]; exact hB)
        | succ d ih =>
          intro i u hi' hX h2 h3 hB
          refine V_iload C dX8_tryThrees_82 rfl ?_
          refine V_iload_n C dX8_tryThrees_84 rfl ?_
          refine V_icmp_ge C dX8_tryThrees_85 (fun c85 => absurd c85 (nI_ge (by omega) (by omega))) (fun c85 => ?_)
          refine V_aload_n C dX8_tryThrees_88 rfl ?_
          refine V_aload_n C dX8_tryThrees_89 rfl ?_
          refine V_get C dX8_tryThrees_90 (rdX8_second) in_X8 (by decide) q235 rfl ?_
          refine V_ca C hE dX8_tryThrees_93 (c_X6_givesUp (v := 3) (by omega) hw) kAX6_givesUp q574 hdc.1 (iso85 hw0 (cel85_1 hw _) rfl) rfl rfl rfl ?_
          refine V_ifne_b C dX8_tryThrees_96 (fun c96 => ?_) (fun c96 => ?_)
          · exact jb0 _ u hX h2 (by have e : fC 0 (fun _ => 0) 0 s (10 * a + b) (lgT (waM 0) s (lgT (waM 0) s (f, 400, 0) a) b) (nh f) B = (fC 0 (fun _ => 0) 0 s (10 * a + b) (lgT (waM 0) s (lgT (waM 0) s (f, 400, 0) a) b) i B) := (fC_gu g2.1 hs q2 (by omega) y2 (by omega) (by omega) (gu_0 hB h3 c96)); rw [e]; exact hB)
          · refine V_aload_n C dX8_tryThrees_99 rfl ?_
            refine V_get C dX8_tryThrees_100 (rdX8_third) in_X8 (by decide) q236 rfl ?_
            refine V_aload_n C dX8_tryThrees_103 rfl ?_
            refine V_get C dX8_tryThrees_104 (rdX8_second) in_X8 (by decide) q235 rfl ?_
            refine V_cv0 C hE dX8_tryThrees_107 (c_X5_be (v := 4) (w := 3) (by omega) (by omega) (by omega)) kyX5_be q447 (isoV (by first | assumption | omega)) rfl rfl rfl ?_
            have h4 := VT.be (v := 4) (w := 3) h3 (by omega) (by omega) (by omega)
            have hX4 : EqX2 σ (us (us u 4 (u 3)) (5+4) (lw (u (5+4)) (u (5+3) 0) (u (5+3) 1))) := (hX.put (by omega)).put (by omega)
            have h24 : VT 0 (lgT (waM 0) s (f, 400, 0) a) 2 (us (us u 4 (u 3)) (5+4) (lw (u (5+4)) (u (5+3) 0) (u (5+3) 1))) := (h2.o (by omega) (by omega)).o (by omega) (by omega)
            have h34 : VT 0 (lgT (waM 0) s (lgT (waM 0) s (f, 400, 0) a) b) 3 (us (us u 4 (u 3)) (5+4) (lw (u (5+4)) (u (5+3) 0) (u (5+3) 1))) := (h3.o (by omega) (by omega)).o (by omega) (by omega)
            have hB4 : Wb 0 (fC 0 (fun _ => 0) 0 s (10 * a + b) (lgT (waM 0) s (lgT (waM 0) s (f, 400, 0) a) b) i B) (us (us u 4 (u 3)) (5+4) (lw (u (5+4)) (u (5+3) 0) (u (5+3) 1))) := (hB.o (by omega)).o (by omega)
            revert h4 hX4 h24 h34 hB4
            generalize us (us u 4 (u 3)) (5+4) (lw (u (5+4)) (u (5+3) 0) (u (5+3) 1)) = u4
            intro h4 hX4 h24 h34 hB4
            have hv4 := h4.1
            refine V_aload_n C dX8_tryThrees_110 rfl ?_
            refine V_get C dX8_tryThrees_111 (rdX8_third) in_X8 (by decide) q236 rfl ?_
            refine V_iload C dX8_tryThrees_114 rfl ?_
            refine V_iload_n C dX8_tryThrees_116 rfl ?_
            refine V_cv0 C hE dX8_tryThrees_117 (c_X5_leg (v := 4) (b := i) (n := legK s (lgT (waM 0) s (lgT (waM 0) s (f, 400, 0) a) b).1 i) (p1 := s) (by omega) (by rw [hv4]; exact g2.1.2.2.1) (by rw [hv4]; exact g2.1.2.2.2) (by omega) (by rw [hv4]; exact g2.1.1) (by rw [hv4]; obtain ⟨z, hz, hz2⟩ := wayF_b g2.1.2.1 g2.1.2.2.2 (show i ≤ 7 by omega); rw [hz]; exact nI_pos' (by omega)) (by rw [hv4]; exact (legK_b g2.1 (by omega) hs).1) (by have := (legK_b g2.1 (show i ≤ 7 by omega) hs).2; omega)) kyX5_leg q535 (isoV (by first | assumption | omega)) rfl rfl rfl ?_
            have h5 := h4.leg (s := s) (b := i) (by omega)
            rw [hv4] at h5
            rw [hv4]
            revert h5
            have hX5 := (hX4.put (c := 4) (f := passN (legK s ((lgT (waM 0) s (lgT (waM 0) s (f, 400, 0) a) b).1) i) (goF ((lgT (waM 0) s (lgT (waM 0) s (f, 400, 0) a) b).1) i)) (by omega)).put (c := 5+4) (f := lw (u4 (5+4)) (lgA (goF ((lgT (waM 0) s (lgT (waM 0) s (f, 400, 0) a) b).1) i) (u4 (5+4) 0) (legK s ((lgT (waM 0) s (lgT (waM 0) s (f, 400, 0) a) b).1) i)) (lgC (goF ((lgT (waM 0) s (lgT (waM 0) s (f, 400, 0) a) b).1) i) (u4 (5+4) 1) (legK s ((lgT (waM 0) s (lgT (waM 0) s (f, 400, 0) a) b).1) i))) (by omega)
            revert hX5
            have h25 := (h24.o (c := 4) (f := passN (legK s ((lgT (waM 0) s (lgT (waM 0) s (f, 400, 0) a) b).1) i) (goF ((lgT (waM 0) s (lgT (waM 0) s (f, 400, 0) a) b).1) i)) (by omega) (by omega)).o (c := 5+4) (f := lw (u4 (5+4)) (lgA (goF ((lgT (waM 0) s (lgT (waM 0) s (f, 400, 0) a) b).1) i) (u4 (5+4) 0) (legK s ((lgT (waM 0) s (lgT (waM 0) s (f, 400, 0) a) b).1) i)) (lgC (goF ((lgT (waM 0) s (lgT (waM 0) s (f, 400, 0) a) b).1) i) (u4 (5+4) 1) (legK s ((lgT (waM 0) s (lgT (waM 0) s (f, 400, 0) a) b).1) i))) (by omega) (by omega)
            revert h25
            have h35 := (h34.o (c := 4) (f := passN (legK s ((lgT (waM 0) s (lgT (waM 0) s (f, 400, 0) a) b).1) i) (goF ((lgT (waM 0) s (lgT (waM 0) s (f, 400, 0) a) b).1) i)) (by omega) (by omega)).o (c := 5+4) (f := lw (u4 (5+4)) (lgA (goF ((lgT (waM 0) s (lgT (waM 0) s (f, 400, 0) a) b).1) i) (u4 (5+4) 0) (legK s ((lgT (waM 0) s (lgT (waM 0) s (f, 400, 0) a) b).1) i)) (lgC (goF ((lgT (waM 0) s (lgT (waM 0) s (f, 400, 0) a) b).1) i) (u4 (5+4) 1) (legK s ((lgT (waM 0) s (lgT (waM 0) s (f, 400, 0) a) b).1) i))) (by omega) (by omega)
            revert h35
            have hB5 := (hB4.o (c := 4) (f := passN (legK s ((lgT (waM 0) s (lgT (waM 0) s (f, 400, 0) a) b).1) i) (goF ((lgT (waM 0) s (lgT (waM 0) s (f, 400, 0) a) b).1) i)) (by omega)).o (c := 5+4) (f := lw (u4 (5+4)) (lgA (goF ((lgT (waM 0) s (lgT (waM 0) s (f, 400, 0) a) b).1) i) (u4 (5+4) 0) (legK s ((lgT (waM 0) s (lgT (waM 0) s (f, 400, 0) a) b).1) i)) (lgC (goF ((lgT (waM 0) s (lgT (waM 0) s (f, 400, 0) a) b).1) i) (u4 (5+4) 1) (legK s ((lgT (waM 0) s (lgT (waM 0) s (f, 400, 0) a) b).1) i))) (by omega)
            revert hB5
            generalize us (us u4 4 (passN (legK s ((lgT (waM 0) s (lgT (waM 0) s (f, 400, 0) a) b).1) i) (goF ((lgT (waM 0) s (lgT (waM 0) s (f, 400, 0) a) b).1) i))) (5+4) (lw (u4 (5+4)) (lgA (goF ((lgT (waM 0) s (lgT (waM 0) s (f, 400, 0) a) b).1) i) (u4 (5+4) 0) (legK s ((lgT (waM 0) s (lgT (waM 0) s (f, 400, 0) a) b).1) i)) (lgC (goF ((lgT (waM 0) s (lgT (waM 0) s (f, 400, 0) a) b).1) i) (u4 (5+4) 1) (legK s ((lgT (waM 0) s (lgT (waM 0) s (f, 400, 0) a) b).1) i))) = u5
            intro hB5 h35 h25 hX5 h5
            refine V_aload_n C dX8_tryThrees_120 rfl ?_
            refine V_aload_n C dX8_tryThrees_121 rfl ?_
            refine V_get C dX8_tryThrees_122 (rdX8_third) in_X8 (by decide) q236 rfl ?_
            refine V_bipush C 100 dX8_tryThrees_125 (by decide) ?_
            refine V_iload C dX8_tryThrees_127 rfl ?_
            refine V_imul C dX8_tryThrees_129 ?_
            refine V_bipush C 10 dX8_tryThrees_130 (by decide) ?_
            refine V_iload C dX8_tryThrees_132 rfl ?_
            refine V_imul C dX8_tryThrees_134 ?_
            refine V_iadd C dX8_tryThrees_135 ?_
            refine V_iload C dX8_tryThrees_136 rfl ?_
            refine V_iadd C dX8_tryThrees_138 ?_
            refine V_st (st' := [.int (nI (10 * (10 * a + b) + i)), .ref (ad E (vb 4)), .ref (ad E 85)]) (by rw [← T100]) ?_
            refine V_ca0 C hE dX8_tryThrees_139 (c_X6_look (v := 4) (by omega) hw) kAX6_look q586 hdc.2 (iso85 hw0 (cel85_1 hw _) rfl) rfl rfl rfl ?_
            refine V_iinc C 1 dX8_tryThrees_142 rfl (by decide) rfl ?_
            refine V_goto C dX8_tryThrees_145 ?_
            exact V_nx rfl (by simp [← nI_1] <;> rfl) (ih (i + 1) _ (by omega) (hX5.put (by omega)) (h25.o (by omega) (by omega)) (h35.o (by omega) (by omega)) (by exact (show Wb 0 (stp 0 (fun _ => 0) 0 (nI (10 * (10 * a + b) + i)) (lgT (waM 0) s (lgT (waM 0) s (lgT (waM 0) s (f, 400, 0) a) b) i) (fC 0 (fun _ => 0) 0 s (10 * a + b) (lgT (waM 0) s (lgT (waM 0) s (f, 400, 0) a) b) i B)) _ from (hB5.l0 h5))))
      exact lp (nh f) 0 u0 (by omega) hX0 h20 h30 hB0
    have lp : ∀ (d i : Nat) (u : Sg), i + d = nh f → (EqX2 σ u) → (VT 0 (lgT (waM 0) s (f, 400, 0) a) 2 u) → (Wb 0 (fBk 0 (fun _ => 0) 0 s a (lgT (waM 0) s (f, 400, 0) a) (nh f) i B) u) → V x (eA E) (AP x E (u)) 0 0 41 [some (.ref (ad E 60)), some (.int s), some (.ref (ad E 85)), some (.int (nI (nh f))), some (.int (nI a)), some (.int (nI i)), none] [] := by
      intro d
      induction d with
      | zero =>
        intro i u hi' hX h2 hB
        have hN : i = nh f := by omega
        refine V_iload C dX8_tryThrees_41 rfl ?_
        refine V_iload_n C dX8_tryThrees_43 rfl ?_
        refine V_icmp_ge C dX8_tryThrees_44 (fun c44 => ?_) (fun c44 => absurd (by rw [hN] <;> exact nI_le (Nat.le_refl _) (by omega)) c44)
        exact ja0 _ _ u hX (by have e : fB 0 (fun _ => 0) 0 s a (lgT (waM 0) s (f, 400, 0) a) (nh f) B = (fBk 0 (fun _ => 0) 0 s a (lgT (waM 0) s (f, 400, 0) a) (nh f) i B) := (by rw [hN]; rfl); rw [e]; exact hB)
      | succ d ih =>
        intro i u hi' hX h2 hB
        refine V_iload C dX8_tryThrees_41 rfl ?_
        refine V_iload_n C dX8_tryThrees_43 rfl ?_
        refine V_icmp_ge C dX8_tryThrees_44 (fun c44 => absurd c44 (nI_ge (by omega) (by omega))) (fun c44 => ?_)
        refine V_aload_n C dX8_tryThrees_47 rfl ?_
        refine V_aload_n C dX8_tryThrees_48 rfl ?_
        refine V_get C dX8_tryThrees_49 (rdX8_first) in_X8 (by decide) q234 rfl ?_
        refine V_ca C hE dX8_tryThrees_52 (c_X6_givesUp (v := 2) (by omega) hw) kAX6_givesUp q574 hdc.1 (iso85 hw0 (cel85_1 hw _) rfl) rfl rfl rfl ?_
        refine V_ifne_b C dX8_tryThrees_55 (fun c55 => ?_) (fun c55 => ?_)
        · exact ja0 _ _ u hX (by have e : fB 0 (fun _ => 0) 0 s a (lgT (waM 0) s (f, 400, 0) a) (nh f) B = (fBk 0 (fun _ => 0) 0 s a (lgT (waM 0) s (f, 400, 0) a) (nh f) i B) := (fB_gu g1.1 hs q1 (by omega) g1.2.1 g1.2.2.1 y1 (by omega) (by omega) (gu_0 hB h2 c55)); rw [e]; exact hB)
        · refine V_aload_n C dX8_tryThrees_58 rfl ?_
          refine V_get C dX8_tryThrees_59 (rdX8_second) in_X8 (by decide) q235 rfl ?_
          refine V_aload_n C dX8_tryThrees_62 rfl ?_
          refine V_get C dX8_tryThrees_63 (rdX8_first) in_X8 (by decide) q234 rfl ?_
          refine V_cv0 C hE dX8_tryThrees_66 (c_X5_be (v := 3) (w := 2) (by omega) (by omega) (by omega)) kyX5_be q447 (isoV (by first | assumption | omega)) rfl rfl rfl ?_
          have h3 := VT.be (v := 3) (w := 2) h2 (by omega) (by omega) (by omega)
          have hX4 : EqX2 σ (us (us u 3 (u 2)) (5+3) (lw (u (5+3)) (u (5+2) 0) (u (5+2) 1))) := (hX.put (by omega)).put (by omega)
          have h24 : VT 0 (lgT (waM 0) s (f, 400, 0) a) 2 (us (us u 3 (u 2)) (5+3) (lw (u (5+3)) (u (5+2) 0) (u (5+2) 1))) := (h2.o (by omega) (by omega)).o (by omega) (by omega)
          have hB4 : Wb 0 (fBk 0 (fun _ => 0) 0 s a (lgT (waM 0) s (f, 400, 0) a) (nh f) i B) (us (us u 3 (u 2)) (5+3) (lw (u (5+3)) (u (5+2) 0) (u (5+2) 1))) := (hB.o (by omega)).o (by omega)
          revert h3 hX4 h24 hB4
          generalize us (us u 3 (u 2)) (5+3) (lw (u (5+3)) (u (5+2) 0) (u (5+2) 1)) = u4
          intro h3 hX4 h24 hB4
          have hv3 := h3.1
          refine V_aload_n C dX8_tryThrees_69 rfl ?_
          refine V_get C dX8_tryThrees_70 (rdX8_second) in_X8 (by decide) q235 rfl ?_
          refine V_iload C dX8_tryThrees_73 rfl ?_
          refine V_iload_n C dX8_tryThrees_75 rfl ?_
          refine V_cv0 C hE dX8_tryThrees_76 (c_X5_leg (v := 3) (b := i) (n := legK s (lgT (waM 0) s (f, 400, 0) a).1 i) (p1 := s) (by omega) (by rw [hv3]; exact g1.1.2.2.1) (by rw [hv3]; exact g1.1.2.2.2) (by omega) (by rw [hv3]; exact g1.1.1) (by rw [hv3]; obtain ⟨z, hz, hz2⟩ := wayF_b g1.1.2.1 g1.1.2.2.2 (show i ≤ 7 by omega); rw [hz]; exact nI_pos' (by omega)) (by rw [hv3]; exact (legK_b g1.1 (by omega) hs).1) (by have := (legK_b g1.1 (show i ≤ 7 by omega) hs).2; omega)) kyX5_leg q535 (isoV (by first | assumption | omega)) rfl rfl rfl ?_
          have h5 := h3.leg (s := s) (b := i) (by omega)
          rw [hv3] at h5
          rw [hv3]
          refine V_iconst C 0 dX8_tryThrees_79 (by decide) ?_
          refine V_istore C dX8_tryThrees_80 rfl ?_
          refine lpc i (fBk 0 (fun _ => 0) 0 s a (lgT (waM 0) s (f, 400, 0) a) (nh f) i B) (by omega) ?_ _ ((hX4.put (by omega)).put (by omega)) ((h24.o (by omega) (by omega)).o (by omega) (by omega)) h5 ((hB4.o (by omega)).o (by omega))
          intro cc u2 hX2 h22 hB2
          refine V_forget 6 ?_
          refine V_iinc C 1 dX8_tryThrees_148 rfl (by decide) rfl ?_
          refine V_goto C dX8_tryThrees_151 ?_
          exact V_nx rfl (by simp [← nI_1] <;> rfl) (ih (i + 1) u2 (by omega) hX2 h22 hB2)
    exact lp (nh f) 0 u0 (by omega) hX0 h20 hB0
  have lp : ∀ (d i : Nat) (u : Sg), i + d = nh f → (EqX2 σ u) → (Wb 0 (fAk 0 (fun _ => 0) 0 s f (nh f) i Bi) u) → V x (eA E) (AP x E (u)) 0 0 11 [some (.ref (ad E 60)), some (.int s), some (.ref (ad E 85)), some (.int (nI (nh f))), some (.int (nI i)), none, none] [] := by
    intro d
    induction d with
    | zero =>
      intro i u hi' hX hB
      have hN : i = nh f := by omega
      refine V_iload C dX8_tryThrees_11 rfl ?_
      refine V_iload_n C dX8_tryThrees_13 rfl ?_
      refine V_icmp_ge C dX8_tryThrees_14 (fun c14 => ?_) (fun c14 => absurd (by rw [hN] <;> exact nI_le (Nat.le_refl _) (by omega)) c14)
      exact V_ret C (u := u) dX8_tryThrees_160 hT ⟨rfl, hX, by have z := hB; rw [hN] at z; exact z⟩ (fun _ h => h) PM_A
    | succ d ih =>
      intro i u hi' hX hB
      refine V_iload C dX8_tryThrees_11 rfl ?_
      refine V_iload_n C dX8_tryThrees_13 rfl ?_
      refine V_icmp_ge C dX8_tryThrees_14 (fun c14 => absurd c14 (nI_ge (by omega) (by omega))) (fun c14 => ?_)
      refine V_aload_n C dX8_tryThrees_17 rfl ?_
      refine V_get C dX8_tryThrees_18 (rdX8_first) in_X8 (by decide) q234 rfl ?_
      refine V_aload_n C dX8_tryThrees_21 rfl ?_
      refine V_get C dX8_tryThrees_22 (rdX8_live) in_X8 (by decide) q232 rfl ?_
      refine V_cv0 C hE dX8_tryThrees_25 (c_X5_beginRound (v := 2) (w := 0) (by omega) (by omega) (by omega)) kyX5_beginRound q530 (isoV (by first | assumption | omega)) rfl rfl rfl ?_
      have h3 := VT.beg (md := 0) (v := 2) (w := 0) (u := u) (by omega) (by omega) (by omega)
      rw [show u 0 = f by rw [hX 0 (by omega) (by omega)]; exact hf] at h3 ⊢
      have hX4 : EqX2 σ (us (us u 2 f) (5+2) (lw (u (5+2)) 400 0)) := (hX.put (by omega)).put (by omega)
      have hB4 : Wb 0 (fAk 0 (fun _ => 0) 0 s f (nh f) i Bi) (us (us u 2 f) (5+2) (lw (u (5+2)) 400 0)) := (hB.o (by omega)).o (by omega)
      revert h3 hX4 hB4
      generalize us (us u 2 f) (5+2) (lw (u (5+2)) 400 0) = u4
      intro h3 hX4 hB4
      have hv2 : u4 2 = f := h3.1
      refine V_aload_n C dX8_tryThrees_28 rfl ?_
      refine V_get C dX8_tryThrees_29 (rdX8_first) in_X8 (by decide) q234 rfl ?_
      refine V_iload C dX8_tryThrees_32 rfl ?_
      refine V_iload_n C dX8_tryThrees_34 rfl ?_
      refine V_cv0 C hE dX8_tryThrees_35 (c_X5_leg (v := 2) (b := i) (n := legK s f i) (p1 := s) (by omega) (by rw [hv2]; exact hGf.2.2.1) (by rw [hv2]; exact hGf.2.2.2) (by omega) (by rw [hv2]; exact hGf.1) (by rw [hv2]; obtain ⟨z, hz, hz2⟩ := wayF_b hGf.2.1 hGf.2.2.2 (show i ≤ 7 by omega); rw [hz]; exact nI_pos' (by omega)) (by rw [hv2]; exact (legK_b hGf (by omega) hs).1) (by have := (legK_b hGf (show i ≤ 7 by omega) hs).2; omega)) kyX5_leg q535 (isoV (by first | assumption | omega)) rfl rfl rfl ?_
      have h5 := h3.leg (s := s) (b := i) (by omega)
      rw [hv2] at h5
      rw [hv2]
      refine V_iconst C 0 dX8_tryThrees_38 (by decide) ?_
      refine V_istore C dX8_tryThrees_39 rfl ?_
      refine lpb i (fAk 0 (fun _ => 0) 0 s f (nh f) i Bi) (by omega) ?_ _ ((hX4.put (by omega)).put (by omega)) h5 ((hB4.o (by omega)).o (by omega))
      intro b c u2 hX2 hB2
      refine V_forget 5 ?_
      refine V_forget 6 ?_
      refine V_iinc C 1 dX8_tryThrees_154 rfl (by decide) rfl ?_
      refine V_goto C dX8_tryThrees_157 ?_
      exact V_nx rfl (by simp [← nI_1] <;> rfl) (ih (i + 1) u2 (by omega) hX2 hB2)
  exact lp (nh f) 0 σ (by omega) (fun _ _ _ => rfl) hBi

theorem kAX4_givesUp : KA RX4 RX7 yWgu yX4_givesUp cX4_givesUp 2 (some .boolean) 1 := ⟨q576, q580, q581, q73, q582, by decide +kernel⟩
theorem kAX4_look : KA RX4 RX7 yWlk yX4_look cX4_look 3 none 2 := ⟨q588, q598, q599, q73, q600, by decide +kernel⟩
theorem c_X8_tryThrees1 {l : Launch} {E : En} {σ : Sg} {s : Int32} {f : Nat → Int32} {Bi : Bst} (hw : eW E = 2) (hf : σ 0 = f) (hGf : GV f) (hq4 : Q4 f 20000) (hs : inP s 1 12) (hBi : Wb 1 Bi σ) : MG l yX8_tryThrees cX8_tryThrees 7 none rmX8_tryThrees 0 0 E [.ref (ad E 60), .int s, .ref (ad E 85)] (PT E σ) (fun r (u : Sg) => r = none ∧ EqX2 σ u ∧ Wb 1 (fA 1 (fun _ => 0) 0 s f (nh f) Bi) u) (fun u => PA E u) := by
  refine MG_of (by decide +kernel) rfl fun x C hE hT => V_use fun _ hP0 => ?_
  have C : CX x cX8_tryThrees RX8 rmX8_tryThrees := C
  have hdc : DC (xs x) := hP0.2
  have hcan := CA_of hP0.1
  have h8 : nh f ≤ 8 := hGf.1.1.2.1
  have hw0 : eW E ≠ 0 := by omega
  refine V_to (P' := AP x E σ) (fun _ h => h.1) rfl rfl ?_
  refine V_L (L' := [some (.ref (ad E 60)), some (.int s), some (.ref (ad E 85)), none, none, none, none]) rfl ?_
  refine V_aload_n C dX8_tryThrees_0 rfl ?_
  refine V_get C dX8_tryThrees_1 (rdX8_live) in_X8 (by decide) q232 rfl ?_
  refine V_getN C hE.nw dX8_tryThrees_4 (rdV (by first | assumption | omega) 3 1 rfl rfl rfl) in_X5 (by decide) q133 rfl ?_
  refine V_st (st' := [.int (nI (nh f))]) (by rw [hf, hGf.1.1.1]) ?_
  refine V_istore_n C dX8_tryThrees_7 rfl ?_
  refine V_iconst C 0 dX8_tryThrees_8 (by decide) ?_
  refine V_istore C dX8_tryThrees_9 rfl ?_
  have lpb : ∀ (a : Nat) (B : Bst), a < nh f → (∀ (b c : Option Value) (u : Sg), EqX2 σ u → Wb 1 (fB 1 (fun _ => 0) 0 s a (lgT (waM 1) s (f, 400, 0) a) (nh f) B) u → V x (eA E) (AP x E u) 0 0 154 [some (.ref (ad E 60)), some (.int s), some (.ref (ad E 85)), some (.int (nI (nh f))), some (.int (nI a)), b, c] []) → ∀ u, EqX2 σ u → VT 1 (lgT (waM 1) s (f, 400, 0) a) 2 u → Wb 1 B u → V x (eA E) (AP x E u) 0 0 41 [some (.ref (ad E 60)), some (.int s), some (.ref (ad E 85)), some (.int (nI (nh f))), some (.int (nI a)), some (.int (nI 0)), none] [] := by
    intro a B ha ja0 u0 hX0 h20 hB0
    have g1 := lgT_f (wa := (waM 1)) (s := s) (t := (f, 400, 0)) (b := a) hGf (show a ≤ 7 by omega) (show (0:Int32) ≤ 400 by decide) (show (400:Int32) ≤ 400 by decide)
    have q1 := (Q4_leg (s := s) (b := a) hGf (show a ≤ 7 by omega) hs hq4 (by omega)).1
    have y1 : (lgT (waM 1) s (f, 400, 0) a).2.2 = 0 ∨ (lgT (waM 1) s (f, 400, 0) a).2.2 = 1 := lgT_01 (Or.inl rfl)
    have lpc : ∀ (b : Nat) (B : Bst), b < nh f → (∀ (cc : Int32) (u : Sg), EqX2 σ u → VT 1 (lgT (waM 1) s (f, 400, 0) a) 2 u → Wb 1 (fC 1 (fun _ => 0) 0 s (10 * a + b) (lgT (waM 1) s (lgT (waM 1) s (f, 400, 0) a) b) (nh f) B) u → V x (eA E) (AP x E u) 0 0 148 [some (.ref (ad E 60)), some (.int s), some (.ref (ad E 85)), some (.int (nI (nh f))), some (.int (nI a)), some (.int (nI b)), some (.int cc)] []) → ∀ u, EqX2 σ u → VT 1 (lgT (waM 1) s (f, 400, 0) a) 2 u → VT 1 (lgT (waM 1) s (lgT (waM 1) s (f, 400, 0) a) b) 3 u → Wb 1 B u → V x (eA E) (AP x E u) 0 0 82 [some (.ref (ad E 60)), some (.int s), some (.ref (ad E 85)), some (.int (nI (nh f))), some (.int (nI a)), some (.int (nI b)), some (.int (nI 0))] [] := by
      intro b B hb jb0 u0 hX0 h20 h30 hB0
      have g2 := lgT_f (wa := (waM 1)) (s := s) (b := b) g1.1 (show b ≤ 7 by omega) g1.2.1 g1.2.2.1
      have q2 := (Q4_leg (s := s) (b := b) g1.1 (show b ≤ 7 by omega) hs q1 (by omega)).1
      have y2 : (lgT (waM 1) s (lgT (waM 1) s (f, 400, 0) a) b).2.2 = 0 ∨ (lgT (waM 1) s (lgT (waM 1) s (f, 400, 0) a) b).2.2 = 1 := lgT_01 y1
      have lp : ∀ (d i : Nat) (u : Sg), i + d = nh f → (EqX2 σ u) → (VT 1 (lgT (waM 1) s (f, 400, 0) a) 2 u) → (VT 1 (lgT (waM 1) s (lgT (waM 1) s (f, 400, 0) a) b) 3 u) → (Wb 1 (fC 1 (fun _ => 0) 0 s (10 * a + b) (lgT (waM 1) s (lgT (waM 1) s (f, 400, 0) a) b) i B) u) → V x (eA E) (AP x E (u)) 0 0 82 [some (.ref (ad E 60)), some (.int s), some (.ref (ad E 85)), some (.int (nI (nh f))), some (.int (nI a)), some (.int (nI b)), some (.int (nI i))] [] := by
        intro d
        induction d with
        | zero =>
          intro i u hi' hX h2 h3 hB
          have hN : i = nh f := by omega
          refine V_iload C dX8_tryThrees_82 rfl ?_
          refine V_iload_n C dX8_tryThrees_84 rfl ?_
          refine V_icmp_ge C dX8_tryThrees_85 (fun c85 => ?_) (fun c85 => absurd (by rw [hN] <;> exact nI_le (Nat.le_refl _) (by omega)) c85)
          exact jb0 _ u hX h2 (by have e : fC 1 (fun _ => 0) 0 s (10 * a + b) (lgT (waM 1) s (lgT (waM 1) s (f, 400, 0) a) b) (nh f) B = (fC 1 (fun _ => 0) 0 s (10 * a + b) (lgT (waM 1) s (lgT (waM 1) s (f, 400, 0) a) b) i B) := (by rw [hN]); rw [e]; exact hB)
        | succ d ih =>
          intro i u hi' hX h2 h3 hB
          refine V_iload C dX8_tryThrees_82 rfl ?_
          refine V_iload_n C dX8_tryThrees_84 rfl ?_
          refine V_icmp_ge C dX8_tryThrees_85 (fun c85 => absurd c85 (nI_ge (by omega) (by omega))) (fun c85 => ?_)
          refine V_aload_n C dX8_tryThrees_88 rfl ?_
          refine V_aload_n C dX8_tryThrees_89 rfl ?_
          refine V_get C dX8_tryThrees_90 (rdX8_second) in_X8 (by decide) q235 rfl ?_
          refine V_ca C hE dX8_tryThrees_93 (c_X4_givesUp (v := 3) (by omega) hw) kAX4_givesUp q574 hdc.1 (iso85 hw0 (cel85_2 hw _) rfl) rfl rfl rfl ?_
          refine V_ifne_b C dX8_tryThrees_96 (fun c96 => ?_) (fun c96 => ?_)
          · exact jb0 _ u hX h2 (by have e : fC 1 (fun _ => 0) 0 s (10 * a + b) (lgT (waM 1) s (lgT (waM 1) s (f, 400, 0) a) b) (nh f) B = (fC 1 (fun _ => 0) 0 s (10 * a + b) (lgT (waM 1) s (lgT (waM 1) s (f, 400, 0) a) b) i B) := (fC_gu g2.1 hs q2 (by omega) y2 (by omega) (by omega) (gu_1 hB h3 c96)); rw [e]; exact hB)
          · refine V_aload_n C dX8_tryThrees_99 rfl ?_
            refine V_get C dX8_tryThrees_100 (rdX8_third) in_X8 (by decide) q236 rfl ?_
            refine V_aload_n C dX8_tryThrees_103 rfl ?_
            refine V_get C dX8_tryThrees_104 (rdX8_second) in_X8 (by decide) q235 rfl ?_
            refine V_cv0 C hE dX8_tryThrees_107 (c_X5_be (v := 4) (w := 3) (by omega) (by omega) (by omega)) kyX5_be q447 (isoV (by first | assumption | omega)) rfl rfl rfl ?_
            have h4 := VT.be (v := 4) (w := 3) h3 (by omega) (by omega) (by omega)
            have hX4 : EqX2 σ (us (us u 4 (u 3)) (5+4) (lw (u (5+4)) (u (5+3) 0) (u (5+3) 1))) := (hX.put (by omega)).put (by omega)
            have h24 : VT 1 (lgT (waM 1) s (f, 400, 0) a) 2 (us (us u 4 (u 3)) (5+4) (lw (u (5+4)) (u (5+3) 0) (u (5+3) 1))) := (h2.o (by omega) (by omega)).o (by omega) (by omega)
            have h34 : VT 1 (lgT (waM 1) s (lgT (waM 1) s (f, 400, 0) a) b) 3 (us (us u 4 (u 3)) (5+4) (lw (u (5+4)) (u (5+3) 0) (u (5+3) 1))) := (h3.o (by omega) (by omega)).o (by omega) (by omega)
            have hB4 : Wb 1 (fC 1 (fun _ => 0) 0 s (10 * a + b) (lgT (waM 1) s (lgT (waM 1) s (f, 400, 0) a) b) i B) (us (us u 4 (u 3)) (5+4) (lw (u (5+4)) (u (5+3) 0) (u (5+3) 1))) := (hB.o (by omega)).o (by omega)
            revert h4 hX4 h24 h34 hB4
            generalize us (us u 4 (u 3)) (5+4) (lw (u (5+4)) (u (5+3) 0) (u (5+3) 1)) = u4
            intro h4 hX4 h24 h34 hB4
            have hv4 := h4.1
            refine V_aload_n C dX8_tryThrees_110 rfl ?_
            refine V_get C dX8_tryThrees_111 (rdX8_third) in_X8 (by decide) q236 rfl ?_
            refine V_iload C dX8_tryThrees_114 rfl ?_
            refine V_iload_n C dX8_tryThrees_116 rfl ?_
            refine V_cv0 C hE dX8_tryThrees_117 (c_X5_leg (v := 4) (b := i) (n := legK s (lgT (waM 1) s (lgT (waM 1) s (f, 400, 0) a) b).1 i) (p1 := s) (by omega) (by rw [hv4]; exact g2.1.2.2.1) (by rw [hv4]; exact g2.1.2.2.2) (by omega) (by rw [hv4]; exact g2.1.1) (by rw [hv4]; obtain ⟨z, hz, hz2⟩ := wayF_b g2.1.2.1 g2.1.2.2.2 (show i ≤ 7 by omega); rw [hz]; exact nI_pos' (by omega)) (by rw [hv4]; exact (legK_b g2.1 (by omega) hs).1) (by have := (legK_b g2.1 (show i ≤ 7 by omega) hs).2; omega)) kyX5_leg q535 (isoV (by first | assumption | omega)) rfl rfl rfl ?_
            have h5 := h4.leg (s := s) (b := i) (by omega)
            rw [hv4] at h5
            rw [hv4]
            revert h5
            have hX5 := (hX4.put (c := 4) (f := passN (legK s ((lgT (waM 1) s (lgT (waM 1) s (f, 400, 0) a) b).1) i) (goF ((lgT (waM 1) s (lgT (waM 1) s (f, 400, 0) a) b).1) i)) (by omega)).put (c := 5+4) (f := lw (u4 (5+4)) (lgA (goF ((lgT (waM 1) s (lgT (waM 1) s (f, 400, 0) a) b).1) i) (u4 (5+4) 0) (legK s ((lgT (waM 1) s (lgT (waM 1) s (f, 400, 0) a) b).1) i)) (lgC (goF ((lgT (waM 1) s (lgT (waM 1) s (f, 400, 0) a) b).1) i) (u4 (5+4) 1) (legK s ((lgT (waM 1) s (lgT (waM 1) s (f, 400, 0) a) b).1) i))) (by omega)
            revert hX5
            have h25 := (h24.o (c := 4) (f := passN (legK s ((lgT (waM 1) s (lgT (waM 1) s (f, 400, 0) a) b).1) i) (goF ((lgT (waM 1) s (lgT (waM 1) s (f, 400, 0) a) b).1) i)) (by omega) (by omega)).o (c := 5+4) (f := lw (u4 (5+4)) (lgA (goF ((lgT (waM 1) s (lgT (waM 1) s (f, 400, 0) a) b).1) i) (u4 (5+4) 0) (legK s ((lgT (waM 1) s (lgT (waM 1) s (f, 400, 0) a) b).1) i)) (lgC (goF ((lgT (waM 1) s (lgT (waM 1) s (f, 400, 0) a) b).1) i) (u4 (5+4) 1) (legK s ((lgT (waM 1) s (lgT (waM 1) s (f, 400, 0) a) b).1) i))) (by omega) (by omega)
            revert h25
            have h35 := (h34.o (c := 4) (f := passN (legK s ((lgT (waM 1) s (lgT (waM 1) s (f, 400, 0) a) b).1) i) (goF ((lgT (waM 1) s (lgT (waM 1) s (f, 400, 0) a) b).1) i)) (by omega) (by omega)).o (c := 5+4) (f := lw (u4 (5+4)) (lgA (goF ((lgT (waM 1) s (lgT (waM 1) s (f, 400, 0) a) b).1) i) (u4 (5+4) 0) (legK s ((lgT (waM 1) s (lgT (waM 1) s (f, 400, 0) a) b).1) i)) (lgC (goF ((lgT (waM 1) s (lgT (waM 1) s (f, 400, 0) a) b).1) i) (u4 (5+4) 1) (legK s ((lgT (waM 1) s (lgT (waM 1) s (f, 400, 0) a) b).1) i))) (by omega) (by omega)
            revert h35
            have hB5 := (hB4.o (c := 4) (f := passN (legK s ((lgT (waM 1) s (lgT (waM 1) s (f, 400, 0) a) b).1) i) (goF ((lgT (waM 1) s (lgT (waM 1) s (f, 400, 0) a) b).1) i)) (by omega)).o (c := 5+4) (f := lw (u4 (5+4)) (lgA (goF ((lgT (waM 1) s (lgT (waM 1) s (f, 400, 0) a) b).1) i) (u4 (5+4) 0) (legK s ((lgT (waM 1) s (lgT (waM 1) s (f, 400, 0) a) b).1) i)) (lgC (goF ((lgT (waM 1) s (lgT (waM 1) s (f, 400, 0) a) b).1) i) (u4 (5+4) 1) (legK s ((lgT (waM 1) s (lgT (waM 1) s (f, 400, 0) a) b).1) i))) (by omega)
            revert hB5
            generalize us (us u4 4 (passN (legK s ((lgT (waM 1) s (lgT (waM 1) s (f, 400, 0) a) b).1) i) (goF ((lgT (waM 1) s (lgT (waM 1) s (f, 400, 0) a) b).1) i))) (5+4) (lw (u4 (5+4)) (lgA (goF ((lgT (waM 1) s (lgT (waM 1) s (f, 400, 0) a) b).1) i) (u4 (5+4) 0) (legK s ((lgT (waM 1) s (lgT (waM 1) s (f, 400, 0) a) b).1) i)) (lgC (goF ((lgT (waM 1) s (lgT (waM 1) s (f, 400, 0) a) b).1) i) (u4 (5+4) 1) (legK s ((lgT (waM 1) s (lgT (waM 1) s (f, 400, 0) a) b).1) i))) = u5
            intro hB5 h35 h25 hX5 h5
            refine V_aload_n C dX8_tryThrees_120 rfl ?_
            refine V_aload_n C dX8_tryThrees_121 rfl ?_
            refine V_get C dX8_tryThrees_122 (rdX8_third) in_X8 (by decide) q236 rfl ?_
            refine V_bipush C 100 dX8_tryThrees_125 (by decide) ?_
            refine V_iload C dX8_tryThrees_127 rfl ?_
            refine V_imul C dX8_tryThrees_129 ?_
            refine V_bipush C 10 dX8_tryThrees_130 (by decide) ?_
            refine V_iload C dX8_tryThrees_132 rfl ?_
            refine V_imul C dX8_tryThrees_134 ?_
            refine V_iadd C dX8_tryThrees_135 ?_
            refine V_iload C dX8_tryThrees_136 rfl ?_
            refine V_iadd C dX8_tryThrees_138 ?_
            refine V_st (st' := [.int (nI (10 * (10 * a + b) + i)), .ref (ad E (vb 4)), .ref (ad E 85)]) (by rw [← T100]) ?_
            refine V_ca0 C hE dX8_tryThrees_139 (c_X4_look (v := 4) (by omega) hw) kAX4_look q586 hdc.2 (iso85 hw0 (cel85_2 hw _) rfl) rfl rfl rfl ?_
            refine V_iinc C 1 dX8_tryThrees_142 rfl (by decide) rfl ?_
            refine V_goto C dX8_tryThrees_145 ?_
            exact V_nx rfl (by simp [← nI_1] <;> rfl) (ih (i + 1) _ (by omega) (hX5.put (by omega)) (h25.o (by omega) (by omega)) (h35.o (by omega) (by omega)) (by exact (show Wb 1 (stp 1 (fun _ => 0) 0 (nI (10 * (10 * a + b) + i)) (lgT (waM 1) s (lgT (waM 1) s (lgT (waM 1) s (f, 400, 0) a) b) i) (fC 1 (fun _ => 0) 0 s (10 * a + b) (lgT (waM 1) s (lgT (waM 1) s (f, 400, 0) a) b) i B)) _ from (hB5.l1 h5))))
      exact lp (nh f) 0 u0 (by omega) hX0 h20 h30 hB0
    have lp : ∀ (d i : Nat) (u : Sg), i + d = nh f → (EqX2 σ u) → (VT 1 (lgT (waM 1) s (f, 400, 0) a) 2 u) → (Wb 1 (fBk 1 (fun _ => 0) 0 s a (lgT (waM 1) s (f, 400, 0) a) (nh f) i B) u) → V x (eA E) (AP x E (u)) 0 0 41 [some (.ref (ad E 60)), some (.int s), some (.ref (ad E 85)), some (.int (nI (nh f))), some (.int (nI a)), some (.int (nI i)), none] [] := by
      intro d
      induction d with
      | zero =>
        intro i u hi' hX h2 hB
        have hN : i = nh f := by omega
        refine V_iload C dX8_tryThrees_41 rfl ?_
        refine V_iload_n C dX8_tryThrees_43 rfl ?_
        refine V_icmp_ge C dX8_tryThrees_44 (fun c44 => ?_) (fun c44 => absurd (by rw [hN] <;> exact nI_le (Nat.le_refl _) (by omega)) c44)
        exact ja0 _ _ u hX (by have e : fB 1 (fun _ => 0) 0 s a (lgT (waM 1) s (f, 400, 0) a) (nh f) B = (fBk 1 (fun _ => 0) 0 s a (lgT (waM 1) s (f, 400, 0) a) (nh f) i B) := (by rw [hN]; rfl); rw [e]; exact hB)
      | succ d ih =>
        intro i u hi' hX h2 hB
        refine V_iload C dX8_tryThrees_41 rfl ?_
        refine V_iload_n C dX8_tryThrees_43 rfl ?_
        refine V_icmp_ge C dX8_tryThrees_44 (fun c44 => absurd c44 (nI_ge (by omega) (by omega))) (fun c44 => ?_)
        refine V_aload_n C dX8_tryThrees_47 rfl ?_
        refine V_aload_n C dX8_tryThrees_48 rfl ?_
        refine V_get C dX8_tryThrees_49 (rdX8_first) in_X8 (by decide) q234 rfl ?_
        refine V_ca C hE dX8_tryThrees_52 (c_X4_givesUp (v := 2) (by omega) hw) kAX4_givesUp q574 hdc.1 (iso85 hw0 (cel85_2 hw _) rfl) rfl rfl rfl ?_
        refine V_ifne_b C dX8_tryThrees_55 (fun c55 => ?_) (fun c55 => ?_)
        · exact ja0 _ _ u hX (by have e : fB 1 (fun _ => 0) 0 s a (lgT (waM 1) s (f, 400, 0) a) (nh f) B = (fBk 1 (fun _ => 0) 0 s a (lgT (waM 1) s (f, 400, 0) a) (nh f) i B) := (fB_gu g1.1 hs q1 (by omega) g1.2.1 g1.2.2.1 y1 (by omega) (by omega) (gu_1 hB h2 c55)); rw [e]; exact hB)
        · refine V_aload_n C dX8_tryThrees_58 rfl ?_
          refine V_get C dX8_tryThrees_59 (rdX8_second) in_X8 (by decide) q235 rfl ?_
          refine V_aload_n C dX8_tryThrees_62 rfl ?_
          refine V_get C dX8_tryThrees_63 (rdX8_first) in_X8 (by decide) q234 rfl ?_
          refine V_cv0 C hE dX8_tryThrees_66 (c_X5_be (v := 3) (w := 2) (by omega) (by omega) (by omega)) kyX5_be q447 (isoV (by first | assumption | omega)) rfl rfl rfl ?_
          have h3 := VT.be (v := 3) (w := 2) h2 (by omega) (by omega) (by omega)
          have hX4 : EqX2 σ (us (us u 3 (u 2)) (5+3) (lw (u (5+3)) (u (5+2) 0) (u (5+2) 1))) := (hX.put (by omega)).put (by omega)
          have h24 : VT 1 (lgT (waM 1) s (f, 400, 0) a) 2 (us (us u 3 (u 2)) (5+3) (lw (u (5+3)) (u (5+2) 0) (u (5+2) 1))) := (h2.o (by omega) (by omega)).o (by omega) (by omega)
          have hB4 : Wb 1 (fBk 1 (fun _ => 0) 0 s a (lgT (waM 1) s (f, 400, 0) a) (nh f) i B) (us (us u 3 (u 2)) (5+3) (lw (u (5+3)) (u (5+2) 0) (u (5+2) 1))) := (hB.o (by omega)).o (by omega)
          revert h3 hX4 h24 hB4
          generalize us (us u 3 (u 2)) (5+3) (lw (u (5+3)) (u (5+2) 0) (u (5+2) 1)) = u4
          intro h3 hX4 h24 hB4
          have hv3 := h3.1
          refine V_aload_n C dX8_tryThrees_69 rfl ?_
          refine V_get C dX8_tryThrees_70 (rdX8_second) in_X8 (by decide) q235 rfl ?_
          refine V_iload C dX8_tryThrees_73 rfl ?_
          refine V_iload_n C dX8_tryThrees_75 rfl ?_
          refine V_cv0 C hE dX8_tryThrees_76 (c_X5_leg (v := 3) (b := i) (n := legK s (lgT (waM 1) s (f, 400, 0) a).1 i) (p1 := s) (by omega) (by rw [hv3]; exact g1.1.2.2.1) (by rw [hv3]; exact g1.1.2.2.2) (by omega) (by rw [hv3]; exact g1.1.1) (by rw [hv3]; obtain ⟨z, hz, hz2⟩ := wayF_b g1.1.2.1 g1.1.2.2.2 (show i ≤ 7 by omega); rw [hz]; exact nI_pos' (by omega)) (by rw [hv3]; exact (legK_b g1.1 (by omega) hs).1) (by have := (legK_b g1.1 (show i ≤ 7 by omega) hs).2; omega)) kyX5_leg q535 (isoV (by first | assumption | omega)) rfl rfl rfl ?_
          have h5 := h3.leg (s := s) (b := i) (by omega)
          rw [hv3] at h5
          rw [hv3]
          refine V_iconst C 0 dX8_tryThrees_79 (by decide) ?_
          refine V_istore C dX8_tryThrees_80 rfl ?_
          refine lpc i (fBk 1 (fun _ => 0) 0 s a (lgT (waM 1) s (f, 400, 0) a) (nh f) i B) (by omega) ?_ _ ((hX4.put (by omega)).put (by omega)) ((h24.o (by omega) (by omega)).o (by omega) (by omega)) h5 ((hB4.o (by omega)).o (by omega))
          intro cc u2 hX2 h22 hB2
          refine V_forget 6 ?_
          refine V_iinc C 1 dX8_tryThrees_148 rfl (by decide) rfl ?_
          refine V_goto C dX8_tryThrees_151 ?_
          exact V_nx rfl (by simp [← nI_1] <;> rfl) (ih (i + 1) u2 (by omega) hX2 h22 hB2)
    exact lp (nh f) 0 u0 (by omega) hX0 h20 hB0
  have lp : ∀ (d i : Nat) (u : Sg), i + d = nh f → (EqX2 σ u) → (Wb 1 (fAk 1 (fun _ => 0) 0 s f (nh f) i Bi) u) → V x (eA E) (AP x E (u)) 0 0 11 [some (.ref (ad E 60)), some (.int s), some (.ref (ad E 85)), some (.int (nI (nh f))), some (.int (nI i)), none, none] [] := by
    intro d
    induction d with
    | zero =>
      intro i u hi' hX hB
      have hN : i = nh f := by omega
      refine V_iload C dX8_tryThrees_11 rfl ?_
      refine V_iload_n C dX8_tryThrees_13 rfl ?_
      refine V_icmp_ge C dX8_tryThrees_14 (fun c14 => ?_) (fun c14 => absurd (by rw [hN] <;> exact nI_le (Nat.le_refl _) (by omega)) c14)
      exact V_ret C (u := u) dX8_tryThrees_160 hT ⟨rfl, hX, by have z := hB; rw [hN] at z; exact z⟩ (fun _ h => h) PM_A
    | succ d ih =>
      intro i u hi' hX hB
      refine V_iload C dX8_tryThrees_11 rfl ?_
      refine V_iload_n C dX8_tryThrees_13 rfl ?_
      refine V_icmp_ge C dX8_tryThrees_14 (fun c14 => absurd c14 (nI_ge (by omega) (by omega))) (fun c14 => ?_)
      refine V_aload_n C dX8_tryThrees_17 rfl ?_
      refine V_get C dX8_tryThrees_18 (rdX8_first) in_X8 (by decide) q234 rfl ?_
      refine V_aload_n C dX8_tryThrees_21 rfl ?_
      refine V_get C dX8_tryThrees_22 (rdX8_live) in_X8 (by decide) q232 rfl ?_
      refine V_cv0 C hE dX8_tryThrees_25 (c_X5_beginRound (v := 2) (w := 0) (by omega) (by omega) (by omega)) kyX5_beginRound q530 (isoV (by first | assumption | omega)) rfl rfl rfl ?_
      have h3 := VT.beg (md := 1) (v := 2) (w := 0) (u := u) (by omega) (by omega) (by omega)
      rw [show u 0 = f by rw [hX 0 (by omega) (by omega)]; exact hf] at h3 ⊢
      have hX4 : EqX2 σ (us (us u 2 f) (5+2) (lw (u (5+2)) 400 0)) := (hX.put (by omega)).put (by omega)
      have hB4 : Wb 1 (fAk 1 (fun _ => 0) 0 s f (nh f) i Bi) (us (us u 2 f) (5+2) (lw (u (5+2)) 400 0)) := (hB.o (by omega)).o (by omega)
      revert h3 hX4 hB4
      generalize us (us u 2 f) (5+2) (lw (u (5+2)) 400 0) = u4
      intro h3 hX4 hB4
      have hv2 : u4 2 = f := h3.1
      refine V_aload_n C dX8_tryThrees_28 rfl ?_
      refine V_get C dX8_tryThrees_29 (rdX8_first) in_X8 (by decide) q234 rfl ?_
      refine V_iload C dX8_tryThrees_32 rfl ?_
      refine V_iload_n C dX8_tryThrees_34 rfl ?_
      refine V_cv0 C hE dX8_tryThrees_35 (c_X5_leg (v := 2) (b := i) (n := legK s f i) (p1 := s) (by omega) (by rw [hv2]; exact hGf.2.2.1) (by rw [hv2]; exact hGf.2.2.2) (by omega) (by rw [hv2]; exact hGf.1) (by rw [hv2]; obtain ⟨z, hz, hz2⟩ := wayF_b hGf.2.1 hGf.2.2.2 (show i ≤ 7 by omega); rw [hz]; exact nI_pos' (by omega)) (by rw [hv2]; exact (legK_b hGf (by omega) hs).1) (by have := (legK_b hGf (show i ≤ 7 by omega) hs).2; omega)) kyX5_leg q535 (isoV (by first | assumption | omega)) rfl rfl rfl ?_
      have h5 := h3.leg (s := s) (b := i) (by omega)
      rw [hv2] at h5
      rw [hv2]
      refine V_iconst C 0 dX8_tryThrees_38 (by decide) ?_
      refine V_istore C dX8_tryThrees_39 rfl ?_
      refine lpb i (fAk 1 (fun _ => 0) 0 s f (nh f) i Bi) (by omega) ?_ _ ((hX4.put (by omega)).put (by omega)) h5 ((hB4.o (by omega)).o (by omega))
      intro b c u2 hX2 hB2
      refine V_forget 5 ?_
      refine V_forget 6 ?_
      refine V_iinc C 1 dX8_tryThrees_154 rfl (by decide) rfl ?_
      refine V_goto C dX8_tryThrees_157 ?_
      exact V_nx rfl (by simp [← nI_1] <;> rfl) (ih (i + 1) u2 (by omega) hX2 hB2)
  exact lp (nh f) 0 σ (by omega) (fun _ _ _ => rfl) hBi

theorem kAX0_givesUp : KA RX0 RX7 yWgu yX0_givesUp cX0_givesUp 2 (some .boolean) 1 := ⟨q576, q577, q578, q79, q579, by decide +kernel⟩
theorem kAX0_look : KA RX0 RX7 yWlk yX0_look cX0_look 6 none 2 := ⟨q588, q589, q590, q79, q591, by decide +kernel⟩
theorem c_X8_tryThrees2 {l : Launch} {E : En} {σ : Sg} {s : Int32} {f : Nat → Int32} {Bi : Bst} {ss m : Nat} {g : Nat → Int32} (hw : eW E = 3 + ss) (hs4 : ss < 4) (hm : m ≤ 40) (hsl : σ (shc ss) 2 = nI m) (hgl : σ (nmc ss) = g) (hf : σ 0 = f) (hGf : GV f) (hq4 : Q4 f 20000) (hs : inP s 1 12) (hBi : Wb 2 Bi σ) : MG l yX8_tryThrees cX8_tryThrees 7 none rmX8_tryThrees 0 0 E [.ref (ad E 60), .int s, .ref (ad E 85)] (PT E σ) (fun r (u : Sg) => r = none ∧ EqX2 σ u ∧ Wb 2 (fA 2 g m s f (nh f) Bi) u) (fun u => PA E u) := by
  refine MG_of (by decide +kernel) rfl fun x C hE hT => V_use fun _ hP0 => ?_
  have C : CX x cX8_tryThrees RX8 rmX8_tryThrees := C
  have hdc : DC (xs x) := hP0.2
  have hcan := CA_of hP0.1
  have h8 : nh f ≤ 8 := hGf.1.1.2.1
  have hw0 : eW E ≠ 0 := by omega
  refine V_to (P' := AP x E σ) (fun _ h => h.1) rfl rfl ?_
  refine V_L (L' := [some (.ref (ad E 60)), some (.int s), some (.ref (ad E 85)), none, none, none, none]) rfl ?_
  refine V_aload_n C dX8_tryThrees_0 rfl ?_
  refine V_get C dX8_tryThrees_1 (rdX8_live) in_X8 (by decide) q232 rfl ?_
  refine V_getN C hE.nw dX8_tryThrees_4 (rdV (by first | assumption | omega) 3 1 rfl rfl rfl) in_X5 (by decide) q133 rfl ?_
  refine V_st (st' := [.int (nI (nh f))]) (by rw [hf, hGf.1.1.1]) ?_
  refine V_istore_n C dX8_tryThrees_7 rfl ?_
  refine V_iconst C 0 dX8_tryThrees_8 (by decide) ?_
  refine V_istore C dX8_tryThrees_9 rfl ?_
  have lpb : ∀ (a : Nat) (B : Bst), a < nh f → (∀ (b c : Option Value) (u : Sg), EqX2 σ u → Wb 2 (fB 2 g m s a (lgT (waM 2) s (f, 400, 0) a) (nh f) B) u → V x (eA E) (AP x E u) 0 0 154 [some (.ref (ad E 60)), some (.int s), some (.ref (ad E 85)), some (.int (nI (nh f))), some (.int (nI a)), b, c] []) → ∀ u, EqX2 σ u → VT 2 (lgT (waM 2) s (f, 400, 0) a) 2 u → Wb 2 B u → V x (eA E) (AP x E u) 0 0 41 [some (.ref (ad E 60)), some (.int s), some (.ref (ad E 85)), some (.int (nI (nh f))), some (.int (nI a)), some (.int (nI 0)), none] [] := by
    intro a B ha ja0 u0 hX0 h20 hB0
    have g1 := lgT_f (wa := (waM 2)) (s := s) (t := (f, 400, 0)) (b := a) hGf (show a ≤ 7 by omega) (show (0:Int32) ≤ 400 by decide) (show (400:Int32) ≤ 400 by decide)
    have q1 := (Q4_leg (s := s) (b := a) hGf (show a ≤ 7 by omega) hs hq4 (by omega)).1
    have y1 : (lgT (waM 2) s (f, 400, 0) a).2.2 = 0 ∨ (lgT (waM 2) s (f, 400, 0) a).2.2 = 1 := lgT_01 (Or.inl rfl)
    have lpc : ∀ (b : Nat) (B : Bst), b < nh f → (∀ (cc : Int32) (u : Sg), EqX2 σ u → VT 2 (lgT (waM 2) s (f, 400, 0) a) 2 u → Wb 2 (fC 2 g m s (10 * a + b) (lgT (waM 2) s (lgT (waM 2) s (f, 400, 0) a) b) (nh f) B) u → V x (eA E) (AP x E u) 0 0 148 [some (.ref (ad E 60)), some (.int s), some (.ref (ad E 85)), some (.int (nI (nh f))), some (.int (nI a)), some (.int (nI b)), some (.int cc)] []) → ∀ u, EqX2 σ u → VT 2 (lgT (waM 2) s (f, 400, 0) a) 2 u → VT 2 (lgT (waM 2) s (lgT (waM 2) s (f, 400, 0) a) b) 3 u → Wb 2 B u → V x (eA E) (AP x E u) 0 0 82 [some (.ref (ad E 60)), some (.int s), some (.ref (ad E 85)), some (.int (nI (nh f))), some (.int (nI a)), some (.int (nI b)), some (.int (nI 0))] [] := by
      intro b B hb jb0 u0 hX0 h20 h30 hB0
      have g2 := lgT_f (wa := (waM 2)) (s := s) (b := b) g1.1 (show b ≤ 7 by omega) g1.2.1 g1.2.2.1
      have q2 := (Q4_leg (s := s) (b := b) g1.1 (show b ≤ 7 by omega) hs q1 (by omega)).1
      have y2 : (lgT (waM 2) s (lgT (waM 2) s (f, 400, 0) a) b).2.2 = 0 ∨ (lgT (waM 2) s (lgT (waM 2) s (f, 400, 0) a) b).2.2 = 1 := lgT_01 y1
      have lp : ∀ (d i : Nat) (u : Sg), i + d = nh f → (EqX2 σ u) → (VT 2 (lgT (waM 2) s (f, 400, 0) a) 2 u) → (VT 2 (lgT (waM 2) s (lgT (waM 2) s (f, 400, 0) a) b) 3 u) → (Wb 2 (fC 2 g m s (10 * a + b) (lgT (waM 2) s (lgT (waM 2) s (f, 400, 0) a) b) i B) u) → V x (eA E) (AP x E (u)) 0 0 82 [some (.ref (ad E 60)), some (.int s), some (.ref (ad E 85)), some (.int (nI (nh f))), some (.int (nI a)), some (.int (nI b)), some (.int (nI i))] [] := by
        intro d
        induction d with
        | zero =>
          intro i u hi' hX h2 h3 hB
          have hN : i = nh f := by omega
          refine V_iload C dX8_tryThrees_82 rfl ?_
          refine V_iload_n C dX8_tryThrees_84 rfl ?_
          refine V_icmp_ge C dX8_tryThrees_85 (fun c85 => ?_) (fun c85 => absurd (by rw [hN] <;> exact nI_le (Nat.le_refl _) (by omega)) c85)
          exact jb0 _ u hX h2 (by have e : fC 2 g m s (10 * a + b) (lgT (waM 2) s (lgT (waM 2) s (f, 400, 0) a) b) (nh f) B = (fC 2 g m s (10 * a + b) (lgT (waM 2) s (lgT (waM 2) s (f, 400, 0) a) b) i B) := (by rw [hN]); rw [e]; exact hB)
        | succ d ih =>
          intro i u hi' hX h2 h3 hB
          refine V_iload C dX8_tryThrees_82 rfl ?_
          refine V_iload_n C dX8_tryThrees_84 rfl ?_
          refine V_icmp_ge C dX8_tryThrees_85 (fun c85 => absurd c85 (nI_ge (by omega) (by omega))) (fun c85 => ?_)
          refine V_aload_n C dX8_tryThrees_88 rfl ?_
          refine V_aload_n C dX8_tryThrees_89 rfl ?_
          refine V_get C dX8_tryThrees_90 (rdX8_second) in_X8 (by decide) q235 rfl ?_
          refine V_ca C hE dX8_tryThrees_93 (c_X0_givesUp (v := 3) hw hs4) kAX0_givesUp q574 hdc.1 (iso85 hw0 (cel85_3 hw hs4 _) rfl) rfl rfl rfl ?_
          refine V_if_ne C dX8_tryThrees_96 (fun c96 => absurd (rfl) c96) (fun c96 => ?_)
          refine V_aload_n C dX8_tryThrees_99 rfl ?_
          refine V_get C dX8_tryThrees_100 (rdX8_third) in_X8 (by decide) q236 rfl ?_
          refine V_aload_n C dX8_tryThrees_103 rfl ?_
          refine V_get C dX8_tryThrees_104 (rdX8_second) in_X8 (by decide) q235 rfl ?_
          refine V_cv0 C hE dX8_tryThrees_107 (c_X5_be (v := 4) (w := 3) (by omega) (by omega) (by omega)) kyX5_be q447 (isoV (by first | assumption | omega)) rfl rfl rfl ?_
          have h4 := VT.be (v := 4) (w := 3) h3 (by omega) (by omega) (by omega)
          have hX4 : EqX2 σ (us (us u 4 (u 3)) (5+4) (lw (u (5+4)) (u (5+3) 0) (u (5+3) 1))) := (hX.put (by omega)).put (by omega)
          have h24 : VT 2 (lgT (waM 2) s (f, 400, 0) a) 2 (us (us u 4 (u 3)) (5+4) (lw (u (5+4)) (u (5+3) 0) (u (5+3) 1))) := (h2.o (by omega) (by omega)).o (by omega) (by omega)
          have h34 : VT 2 (lgT (waM 2) s (lgT (waM 2) s (f, 400, 0) a) b) 3 (us (us u 4 (u 3)) (5+4) (lw (u (5+4)) (u (5+3) 0) (u (5+3) 1))) := (h3.o (by omega) (by omega)).o (by omega) (by omega)
          have hB4 : Wb 2 (fC 2 g m s (10 * a + b) (lgT (waM 2) s (lgT (waM 2) s (f, 400, 0) a) b) i B) (us (us u 4 (u 3)) (5+4) (lw (u (5+4)) (u (5+3) 0) (u (5+3) 1))) := (hB.o (by omega)).o (by omega)
          revert h4 hX4 h24 h34 hB4
          generalize us (us u 4 (u 3)) (5+4) (lw (u (5+4)) (u (5+3) 0) (u (5+3) 1)) = u4
          intro h4 hX4 h24 h34 hB4
          have hv4 := h4.1
          refine V_aload_n C dX8_tryThrees_110 rfl ?_
          refine V_get C dX8_tryThrees_111 (rdX8_third) in_X8 (by decide) q236 rfl ?_
          refine V_iload C dX8_tryThrees_114 rfl ?_
          refine V_iload_n C dX8_tryThrees_116 rfl ?_
          refine V_cv0 C hE dX8_tryThrees_117 (c_X5_leg (v := 4) (b := i) (n := legK s (lgT (waM 2) s (lgT (waM 2) s (f, 400, 0) a) b).1 i) (p1 := s) (by omega) (by rw [hv4]; exact g2.1.2.2.1) (by rw [hv4]; exact g2.1.2.2.2) (by omega) (by rw [hv4]; exact g2.1.1) (by rw [hv4]; obtain ⟨z, hz, hz2⟩ := wayF_b g2.1.2.1 g2.1.2.2.2 (show i ≤ 7 by omega); rw [hz]; exact nI_pos' (by omega)) (by rw [hv4]; exact (legK_b g2.1 (by omega) hs).1) (by have := (legK_b g2.1 (show i ≤ 7 by omega) hs).2; omega)) kyX5_leg q535 (isoV (by first | assumption | omega)) rfl rfl rfl ?_
          have h5 := h4.leg (s := s) (b := i) (by omega)
          rw [hv4] at h5
          rw [hv4]
          revert h5
          have hX5 := (hX4.put (c := 4) (f := passN (legK s ((lgT (waM 2) s (lgT (waM 2) s (f, 400, 0) a) b).1) i) (goF ((lgT (waM 2) s (lgT (waM 2) s (f, 400, 0) a) b).1) i)) (by omega)).put (c := 5+4) (f := lw (u4 (5+4)) (lgA (goF ((lgT (waM 2) s (lgT (waM 2) s (f, 400, 0) a) b).1) i) (u4 (5+4) 0) (legK s ((lgT (waM 2) s (lgT (waM 2) s (f, 400, 0) a) b).1) i)) (lgC (goF ((lgT (waM 2) s (lgT (waM 2) s (f, 400, 0) a) b).1) i) (u4 (5+4) 1) (legK s ((lgT (waM 2) s (lgT (waM 2) s (f, 400, 0) a) b).1) i))) (by omega)
          revert hX5
          have h25 := (h24.o (c := 4) (f := passN (legK s ((lgT (waM 2) s (lgT (waM 2) s (f, 400, 0) a) b).1) i) (goF ((lgT (waM 2) s (lgT (waM 2) s (f, 400, 0) a) b).1) i)) (by omega) (by omega)).o (c := 5+4) (f := lw (u4 (5+4)) (lgA (goF ((lgT (waM 2) s (lgT (waM 2) s (f, 400, 0) a) b).1) i) (u4 (5+4) 0) (legK s ((lgT (waM 2) s (lgT (waM 2) s (f, 400, 0) a) b).1) i)) (lgC (goF ((lgT (waM 2) s (lgT (waM 2) s (f, 400, 0) a) b).1) i) (u4 (5+4) 1) (legK s ((lgT (waM 2) s (lgT (waM 2) s (f, 400, 0) a) b).1) i))) (by omega) (by omega)
          revert h25
          have h35 := (h34.o (c := 4) (f := passN (legK s ((lgT (waM 2) s (lgT (waM 2) s (f, 400, 0) a) b).1) i) (goF ((lgT (waM 2) s (lgT (waM 2) s (f, 400, 0) a) b).1) i)) (by omega) (by omega)).o (c := 5+4) (f := lw (u4 (5+4)) (lgA (goF ((lgT (waM 2) s (lgT (waM 2) s (f, 400, 0) a) b).1) i) (u4 (5+4) 0) (legK s ((lgT (waM 2) s (lgT (waM 2) s (f, 400, 0) a) b).1) i)) (lgC (goF ((lgT (waM 2) s (lgT (waM 2) s (f, 400, 0) a) b).1) i) (u4 (5+4) 1) (legK s ((lgT (waM 2) s (lgT (waM 2) s (f, 400, 0) a) b).1) i))) (by omega) (by omega)
          revert h35
          have hB5 := (hB4.o (c := 4) (f := passN (legK s ((lgT (waM 2) s (lgT (waM 2) s (f, 400, 0) a) b).1) i) (goF ((lgT (waM 2) s (lgT (waM 2) s (f, 400, 0) a) b).1) i)) (by omega)).o (c := 5+4) (f := lw (u4 (5+4)) (lgA (goF ((lgT (waM 2) s (lgT (waM 2) s (f, 400, 0) a) b).1) i) (u4 (5+4) 0) (legK s ((lgT (waM 2) s (lgT (waM 2) s (f, 400, 0) a) b).1) i)) (lgC (goF ((lgT (waM 2) s (lgT (waM 2) s (f, 400, 0) a) b).1) i) (u4 (5+4) 1) (legK s ((lgT (waM 2) s (lgT (waM 2) s (f, 400, 0) a) b).1) i))) (by omega)
          revert hB5
          generalize us (us u4 4 (passN (legK s ((lgT (waM 2) s (lgT (waM 2) s (f, 400, 0) a) b).1) i) (goF ((lgT (waM 2) s (lgT (waM 2) s (f, 400, 0) a) b).1) i))) (5+4) (lw (u4 (5+4)) (lgA (goF ((lgT (waM 2) s (lgT (waM 2) s (f, 400, 0) a) b).1) i) (u4 (5+4) 0) (legK s ((lgT (waM 2) s (lgT (waM 2) s (f, 400, 0) a) b).1) i)) (lgC (goF ((lgT (waM 2) s (lgT (waM 2) s (f, 400, 0) a) b).1) i) (u4 (5+4) 1) (legK s ((lgT (waM 2) s (lgT (waM 2) s (f, 400, 0) a) b).1) i))) = u5
          intro hB5 h35 h25 hX5 h5
          have hml : u5 (shc ss) 2 = nI m := by rw [hX5 (shc ss) (nTR_sh hs4) (by unfold shc; omega)]; exact hsl
          have hg5 : u5 (nmc ss) = g := by rw [hX5 (nmc ss) (nTR_nm hs4) (by unfold nmc; omega)]; exact hgl
          refine V_aload_n C dX8_tryThrees_120 rfl ?_
          refine V_aload_n C dX8_tryThrees_121 rfl ?_
          refine V_get C dX8_tryThrees_122 (rdX8_third) in_X8 (by decide) q236 rfl ?_
          refine V_bipush C 100 dX8_tryThrees_125 (by decide) ?_
          refine V_iload C dX8_tryThrees_127 rfl ?_
          refine V_imul C dX8_tryThrees_129 ?_
          refine V_bipush C 10 dX8_tryThrees_130 (by decide) ?_
          refine V_iload C dX8_tryThrees_132 rfl ?_
          refine V_imul C dX8_tryThrees_134 ?_
          refine V_iadd C dX8_tryThrees_135 ?_
          refine V_iload C dX8_tryThrees_136 rfl ?_
          refine V_iadd C dX8_tryThrees_138 ?_
          refine V_st (st' := [.int (nI (10 * (10 * a + b) + i)), .ref (ad E (vb 4)), .ref (ad E 85)]) (by rw [← T100]) ?_
          refine V_ca0 C hE dX8_tryThrees_139 (c_X0_look (v := 4) (m := m) (by omega) hw hs4 hm (by first | exact hml | (simp (disch := omega) only [us_n]; exact hsl))) kAX0_look q586 hdc.2 (iso85 hw0 (cel85_3 hw hs4 _) rfl) rfl rfl rfl ?_
          refine V_iinc C 1 dX8_tryThrees_142 rfl (by decide) rfl ?_
          refine V_goto C dX8_tryThrees_145 ?_
          exact V_nx rfl (by simp [← nI_1] <;> rfl) (ih (i + 1) _ (by omega) (hX5.put (by omega)) (h25.o (by omega) (by omega)) (h35.o (by omega) (by omega)) (by rw [hg5]; exact (show Wb 2 (stp 2 g m (nI (10 * (10 * a + b) + i)) (lgT (waM 2) s (lgT (waM 2) s (lgT (waM 2) s (f, 400, 0) a) b) i) (fC 2 g m s (10 * a + b) (lgT (waM 2) s (lgT (waM 2) s (f, 400, 0) a) b) i B)) _ from (hB5.l2 h5))))
      exact lp (nh f) 0 u0 (by omega) hX0 h20 h30 hB0
    have lp : ∀ (d i : Nat) (u : Sg), i + d = nh f → (EqX2 σ u) → (VT 2 (lgT (waM 2) s (f, 400, 0) a) 2 u) → (Wb 2 (fBk 2 g m s a (lgT (waM 2) s (f, 400, 0) a) (nh f) i B) u) → V x (eA E) (AP x E (u)) 0 0 41 [some (.ref (ad E 60)), some (.int s), some (.ref (ad E 85)), some (.int (nI (nh f))), some (.int (nI a)), some (.int (nI i)), none] [] := by
      intro d
      induction d with
      | zero =>
        intro i u hi' hX h2 hB
        have hN : i = nh f := by omega
        refine V_iload C dX8_tryThrees_41 rfl ?_
        refine V_iload_n C dX8_tryThrees_43 rfl ?_
        refine V_icmp_ge C dX8_tryThrees_44 (fun c44 => ?_) (fun c44 => absurd (by rw [hN] <;> exact nI_le (Nat.le_refl _) (by omega)) c44)
        exact ja0 _ _ u hX (by have e : fB 2 g m s a (lgT (waM 2) s (f, 400, 0) a) (nh f) B = (fBk 2 g m s a (lgT (waM 2) s (f, 400, 0) a) (nh f) i B) := (by rw [hN]; rfl); rw [e]; exact hB)
      | succ d ih =>
        intro i u hi' hX h2 hB
        refine V_iload C dX8_tryThrees_41 rfl ?_
        refine V_iload_n C dX8_tryThrees_43 rfl ?_
        refine V_icmp_ge C dX8_tryThrees_44 (fun c44 => absurd c44 (nI_ge (by omega) (by omega))) (fun c44 => ?_)
        refine V_aload_n C dX8_tryThrees_47 rfl ?_
        refine V_aload_n C dX8_tryThrees_48 rfl ?_
        refine V_get C dX8_tryThrees_49 (rdX8_first) in_X8 (by decide) q234 rfl ?_
        refine V_ca C hE dX8_tryThrees_52 (c_X0_givesUp (v := 2) hw hs4) kAX0_givesUp q574 hdc.1 (iso85 hw0 (cel85_3 hw hs4 _) rfl) rfl rfl rfl ?_
        refine V_if_ne C dX8_tryThrees_55 (fun c55 => absurd (rfl) c55) (fun c55 => ?_)
        refine V_aload_n C dX8_tryThrees_58 rfl ?_
        refine V_get C dX8_tryThrees_59 (rdX8_second) in_X8 (by decide) q235 rfl ?_
        refine V_aload_n C dX8_tryThrees_62 rfl ?_
        refine V_get C dX8_tryThrees_63 (rdX8_first) in_X8 (by decide) q234 rfl ?_
        refine V_cv0 C hE dX8_tryThrees_66 (c_X5_be (v := 3) (w := 2) (by omega) (by omega) (by omega)) kyX5_be q447 (isoV (by first | assumption | omega)) rfl rfl rfl ?_
        have h3 := VT.be (v := 3) (w := 2) h2 (by omega) (by omega) (by omega)
        have hX4 : EqX2 σ (us (us u 3 (u 2)) (5+3) (lw (u (5+3)) (u (5+2) 0) (u (5+2) 1))) := (hX.put (by omega)).put (by omega)
        have h24 : VT 2 (lgT (waM 2) s (f, 400, 0) a) 2 (us (us u 3 (u 2)) (5+3) (lw (u (5+3)) (u (5+2) 0) (u (5+2) 1))) := (h2.o (by omega) (by omega)).o (by omega) (by omega)
        have hB4 : Wb 2 (fBk 2 g m s a (lgT (waM 2) s (f, 400, 0) a) (nh f) i B) (us (us u 3 (u 2)) (5+3) (lw (u (5+3)) (u (5+2) 0) (u (5+2) 1))) := (hB.o (by omega)).o (by omega)
        revert h3 hX4 h24 hB4
        generalize us (us u 3 (u 2)) (5+3) (lw (u (5+3)) (u (5+2) 0) (u (5+2) 1)) = u4
        intro h3 hX4 h24 hB4
        have hv3 := h3.1
        refine V_aload_n C dX8_tryThrees_69 rfl ?_
        refine V_get C dX8_tryThrees_70 (rdX8_second) in_X8 (by decide) q235 rfl ?_
        refine V_iload C dX8_tryThrees_73 rfl ?_
        refine V_iload_n C dX8_tryThrees_75 rfl ?_
        refine V_cv0 C hE dX8_tryThrees_76 (c_X5_leg (v := 3) (b := i) (n := legK s (lgT (waM 2) s (f, 400, 0) a).1 i) (p1 := s) (by omega) (by rw [hv3]; exact g1.1.2.2.1) (by rw [hv3]; exact g1.1.2.2.2) (by omega) (by rw [hv3]; exact g1.1.1) (by rw [hv3]; obtain ⟨z, hz, hz2⟩ := wayF_b g1.1.2.1 g1.1.2.2.2 (show i ≤ 7 by omega); rw [hz]; exact nI_pos' (by omega)) (by rw [hv3]; exact (legK_b g1.1 (by omega) hs).1) (by have := (legK_b g1.1 (show i ≤ 7 by omega) hs).2; omega)) kyX5_leg q535 (isoV (by first | assumption | omega)) rfl rfl rfl ?_
        have h5 := h3.leg (s := s) (b := i) (by omega)
        rw [hv3] at h5
        rw [hv3]
        refine V_iconst C 0 dX8_tryThrees_79 (by decide) ?_
        refine V_istore C dX8_tryThrees_80 rfl ?_
        refine lpc i (fBk 2 g m s a (lgT (waM 2) s (f, 400, 0) a) (nh f) i B) (by omega) ?_ _ ((hX4.put (by omega)).put (by omega)) ((h24.o (by omega) (by omega)).o (by omega) (by omega)) h5 ((hB4.o (by omega)).o (by omega))
        intro cc u2 hX2 h22 hB2
        refine V_forget 6 ?_
        refine V_iinc C 1 dX8_tryThrees_148 rfl (by decide) rfl ?_
        refine V_goto C dX8_tryThrees_151 ?_
        exact V_nx rfl (by simp [← nI_1] <;> rfl) (ih (i + 1) u2 (by omega) hX2 h22 hB2)
    exact lp (nh f) 0 u0 (by omega) hX0 h20 hB0
  have lp : ∀ (d i : Nat) (u : Sg), i + d = nh f → (EqX2 σ u) → (Wb 2 (fAk 2 g m s f (nh f) i Bi) u) → V x (eA E) (AP x E (u)) 0 0 11 [some (.ref (ad E 60)), some (.int s), some (.ref (ad E 85)), some (.int (nI (nh f))), some (.int (nI i)), none, none] [] := by
    intro d
    induction d with
    | zero =>
      intro i u hi' hX hB
      have hN : i = nh f := by omega
      refine V_iload C dX8_tryThrees_11 rfl ?_
      refine V_iload_n C dX8_tryThrees_13 rfl ?_
      refine V_icmp_ge C dX8_tryThrees_14 (fun c14 => ?_) (fun c14 => absurd (by rw [hN] <;> exact nI_le (Nat.le_refl _) (by omega)) c14)
      exact V_ret C (u := u) dX8_tryThrees_160 hT ⟨rfl, hX, by have z := hB; rw [hN] at z; exact z⟩ (fun _ h => h) PM_A
    | succ d ih =>
      intro i u hi' hX hB
      refine V_iload C dX8_tryThrees_11 rfl ?_
      refine V_iload_n C dX8_tryThrees_13 rfl ?_
      refine V_icmp_ge C dX8_tryThrees_14 (fun c14 => absurd c14 (nI_ge (by omega) (by omega))) (fun c14 => ?_)
      refine V_aload_n C dX8_tryThrees_17 rfl ?_
      refine V_get C dX8_tryThrees_18 (rdX8_first) in_X8 (by decide) q234 rfl ?_
      refine V_aload_n C dX8_tryThrees_21 rfl ?_
      refine V_get C dX8_tryThrees_22 (rdX8_live) in_X8 (by decide) q232 rfl ?_
      refine V_cv0 C hE dX8_tryThrees_25 (c_X5_beginRound (v := 2) (w := 0) (by omega) (by omega) (by omega)) kyX5_beginRound q530 (isoV (by first | assumption | omega)) rfl rfl rfl ?_
      have h3 := VT.beg (md := 2) (v := 2) (w := 0) (u := u) (by omega) (by omega) (by omega)
      rw [show u 0 = f by rw [hX 0 (by omega) (by omega)]; exact hf] at h3 ⊢
      have hX4 : EqX2 σ (us (us u 2 f) (5+2) (lw (u (5+2)) 400 0)) := (hX.put (by omega)).put (by omega)
      have hB4 : Wb 2 (fAk 2 g m s f (nh f) i Bi) (us (us u 2 f) (5+2) (lw (u (5+2)) 400 0)) := (hB.o (by omega)).o (by omega)
      revert h3 hX4 hB4
      generalize us (us u 2 f) (5+2) (lw (u (5+2)) 400 0) = u4
      intro h3 hX4 hB4
      have hv2 : u4 2 = f := h3.1
      refine V_aload_n C dX8_tryThrees_28 rfl ?_
      refine V_get C dX8_tryThrees_29 (rdX8_first) in_X8 (by decide) q234 rfl ?_
      refine V_iload C dX8_tryThrees_32 rfl ?_
      refine V_iload_n C dX8_tryThrees_34 rfl ?_
      refine V_cv0 C hE dX8_tryThrees_35 (c_X5_leg (v := 2) (b := i) (n := legK s f i) (p1 := s) (by omega) (by rw [hv2]; exact hGf.2.2.1) (by rw [hv2]; exact hGf.2.2.2) (by omega) (by rw [hv2]; exact hGf.1) (by rw [hv2]; obtain ⟨z, hz, hz2⟩ := wayF_b hGf.2.1 hGf.2.2.2 (show i ≤ 7 by omega); rw [hz]; exact nI_pos' (by omega)) (by rw [hv2]; exact (legK_b hGf (by omega) hs).1) (by have := (legK_b hGf (show i ≤ 7 by omega) hs).2; omega)) kyX5_leg q535 (isoV (by first | assumption | omega)) rfl rfl rfl ?_
      have h5 := h3.leg (s := s) (b := i) (by omega)
      rw [hv2] at h5
      rw [hv2]
      refine V_iconst C 0 dX8_tryThrees_38 (by decide) ?_
      refine V_istore C dX8_tryThrees_39 rfl ?_
      refine lpb i (fAk 2 g m s f (nh f) i Bi) (by omega) ?_ _ ((hX4.put (by omega)).put (by omega)) h5 ((hB4.o (by omega)).o (by omega))
      intro b c u2 hX2 hB2
      refine V_forget 5 ?_
      refine V_forget 6 ?_
      refine V_iinc C 1 dX8_tryThrees_154 rfl (by decide) rfl ?_
      refine V_goto C dX8_tryThrees_157 ?_
      exact V_nx rfl (by simp [← nI_1] <;> rfl) (ih (i + 1) u2 (by omega) hX2 hB2)
  exact lp (nh f) 0 σ (by omega) (fun _ _ _ => rfl) hBi

