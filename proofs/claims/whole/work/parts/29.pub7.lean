theorem amin_s {g : Nat → Int32} {i : Nat} (h : (amin g i).2 < 0 ∨ g i < (amin g i).2) : amin g (i+1) = (nI i, g i) := if_pos h
theorem amin_k {g : Nat → Int32} {i : Nat} (h : ¬ (amin g i).2 < 0) (h2 : (amin g i).2 ≤ g i) : amin g (i+1) = amin g i := if_neg (fun q => q.elim h (Int32.not_lt.mpr h2))

theorem c_X8_middle {l : Launch} {E : En} {σ : Sg}   : MN l yX8_middle cX8_middle 6 (some .int) rmX8_middle E [.ref (ad E 60)] σ (PX σ (S_middle (σ 0)) (σ 0)) := by
  refine MN_of (by decide +kernel) rfl fun x C hE hT hcan => ?_
  have C : CX x cX8_middle RX8 rmX8_middle := C
  have hn1 := (hcan.1 0 (by omega)).1
  have h8 := (hcan.1 0 (by omega)).2.1
  refine V_L (L' := [some (.ref (ad E 60)), none, none, none, none, none]) rfl ?_
  refine V_aload_n C dX8_middle_0 rfl ?_
  refine V_get C dX8_middle_1 (rdX8_live) in_X8 (by decide) q232 rfl ?_
  refine V_getN C hE.nw dX8_middle_4 (rdV (by first | assumption | omega) 3 1 rfl rfl rfl) in_X5 (by decide) q133 rfl ?_
  refine V_if_ne C dX8_middle_7 (fun c7 => ?_) (fun c7 => ?_)
  · refine V_iconst C 0 dX8_middle_16 (by decide) ?_
    refine V_istore_n C dX8_middle_17 rfl ?_
    refine V_iconst C (-1) dX8_middle_18 (by decide) ?_
    refine V_istore_n C dX8_middle_19 rfl ?_
    refine V_iconst C 0 dX8_middle_20 (by decide) ?_
    refine V_istore_n C dX8_middle_21 rfl ?_
    have lp : ∀ d i : Nat, i + d = nh (σ 0) → V x (eA E) (AP x E σ) 0 0 22 [some (.ref (ad E 60)), some (.int (amin (fun i => swN (σ 0) i (nh (σ 0))) i).1), some (.int (amin (fun i => swN (σ 0) i (nh (σ 0))) i).2), some (.int (nI i)), none, none] [] := by
      intro d
      induction d with
      | zero =>
        intro i hi'
        have hN : i = nh (σ 0) := by omega
        refine V_iload_n C dX8_middle_22 rfl ?_
        refine V_aload_n C dX8_middle_23 rfl ?_
        refine V_get C dX8_middle_24 (rdX8_live) in_X8 (by decide) q232 rfl ?_
        refine V_getN C hE.nw dX8_middle_27 (rdV (by first | assumption | omega) 3 1 rfl rfl rfl) in_X5 (by decide) q133 rfl ?_
        refine V_icmp_ge C dX8_middle_30 (fun c30 => ?_) (fun c30 => absurd (by rw [hn1, hN]; exact nI_le (Nat.le_refl _) (by omega)) c30)
        refine V_iload_n C dX8_middle_93 rfl ?_
        exact V_iretN C dX8_middle_94 hT (PX_rd (by unfold S_middle; rw [if_neg c7, hN]) (EqX.rf σ))
      | succ d ih =>
        intro i hi'
        have hi8 : i < 8 := by omega
        refine V_iload_n C dX8_middle_22 rfl ?_
        refine V_aload_n C dX8_middle_23 rfl ?_
        refine V_get C dX8_middle_24 (rdX8_live) in_X8 (by decide) q232 rfl ?_
        refine V_getN C hE.nw dX8_middle_27 (rdV (by first | assumption | omega) 3 1 rfl rfl rfl) in_X5 (by decide) q133 rfl ?_
        refine V_icmp_ge C dX8_middle_30 (fun c30 => absurd c30 (by rw [hn1]; exact nI_ge (by omega) (by omega))) (fun c30 => ?_)
        refine V_iconst C 0 dX8_middle_33 (by decide) ?_
        refine V_istore C dX8_middle_34 rfl ?_
        refine V_iconst C 0 dX8_middle_36 (by decide) ?_
        refine V_istore C dX8_middle_37 rfl ?_
        have j72 : V x (eA E) (AP x E σ) 0 0 72 [some (.ref (ad E 60)), some (.int (amin (fun i => swN (σ 0) i (nh (σ 0))) i).1), some (.int (amin (fun i => swN (σ 0) i (nh (σ 0))) i).2), some (.int (nI i)), some (.int (swN (σ 0) i (nh (σ 0)))), some (.int (nI (nh (σ 0))))] [] := by
          refine V_iload_n C dX8_middle_72 rfl ?_
          refine V_if_lt C dX8_middle_73 (fun c73 => ?_) (fun c73 => ?_)
          · refine V_iload C dX8_middle_82 rfl ?_
            refine V_istore_n C dX8_middle_84 rfl ?_
            refine V_iload_n C dX8_middle_85 rfl ?_
            refine V_istore_n C dX8_middle_86 rfl ?_
            refine V_forget 4 ?_
            refine V_forget 5 ?_
            refine V_iinc C 1 dX8_middle_87 rfl (by decide) rfl ?_
            refine V_goto C dX8_middle_90 ?_
            exact V_nx rfl (by rw [amin_s (g := (fun i => swN (σ 0) i (nh (σ 0)))) (Or.inl c73)]; simp [← nI_1] <;> rfl) (ih (i + 1) (by omega))
          · refine V_iload C dX8_middle_76 rfl ?_
            refine V_iload_n C dX8_middle_78 rfl ?_
            refine V_icmp_ge C dX8_middle_79 (fun c79 => ?_) (fun c79 => ?_)
            · refine V_forget 4 ?_
              refine V_forget 5 ?_
              refine V_iinc C 1 dX8_middle_87 rfl (by decide) rfl ?_
              refine V_goto C dX8_middle_90 ?_
              exact V_nx rfl (by rw [amin_k (g := (fun i => swN (σ 0) i (nh (σ 0)))) c73 c79]; simp [← nI_1] <;> rfl) (ih (i + 1) (by omega))
            · refine V_iload C dX8_middle_82 rfl ?_
              refine V_istore_n C dX8_middle_84 rfl ?_
              refine V_iload_n C dX8_middle_85 rfl ?_
              refine V_istore_n C dX8_middle_86 rfl ?_
              refine V_forget 4 ?_
              refine V_forget 5 ?_
              refine V_iinc C 1 dX8_middle_87 rfl (by decide) rfl ?_
              refine V_goto C dX8_middle_90 ?_
              exact V_nx rfl (by rw [amin_s (g := (fun i => swN (σ 0) i (nh (σ 0)))) (Or.inr (Int32.not_le.mp c79))]; simp [← nI_1] <;> rfl) (ih (i + 1) (by omega))
        have lp2 : ∀ (d2 k : Nat) , k + d2 = nh (σ 0) → V x (eA E) (AP x E (σ)) 0 0 39 [some (.ref (ad E 60)), some (.int (amin (fun i => swN (σ 0) i (nh (σ 0))) i).1), some (.int (amin (fun i => swN (σ 0) i (nh (σ 0))) i).2), some (.int (nI i)), some (.int (swN (σ 0) i k)), some (.int (nI k))] [] := by
          intro d2
          induction d2 with
          | zero =>
            intro k hk'
            have hN2 : k = nh (σ 0) := by omega
            refine V_iload C dX8_middle_39 rfl ?_
            refine V_aload_n C dX8_middle_41 rfl ?_
            refine V_get C dX8_middle_42 (rdX8_live) in_X8 (by decide) q232 rfl ?_
            refine V_getN C hE.nw dX8_middle_45 (rdV (by first | assumption | omega) 3 1 rfl rfl rfl) in_X5 (by decide) q133 rfl ?_
            refine V_icmp_ge C dX8_middle_48 (fun c48 => ?_) (fun c48 => absurd (by rw [hn1, hN2]; exact nI_le (Nat.le_refl _) (by omega)) c48)
            rw [hN2]; exact j72
          | succ d2 ih2 =>
            intro k hk'
            refine V_iload C dX8_middle_39 rfl ?_
            refine V_aload_n C dX8_middle_41 rfl ?_
            refine V_get C dX8_middle_42 (rdX8_live) in_X8 (by decide) q232 rfl ?_
            refine V_getN C hE.nw dX8_middle_45 (rdV (by first | assumption | omega) 3 1 rfl rfl rfl) in_X5 (by decide) q133 rfl ?_
            refine V_icmp_ge C dX8_middle_48 (fun c48 => absurd c48 (by rw [hn1]; exact nI_ge (by omega) (by omega))) (fun c48 => ?_)
            refine V_iload C dX8_middle_51 rfl ?_
            refine V_aload_n C dX8_middle_53 rfl ?_
            refine V_get C dX8_middle_54 (rdX8_live) in_X8 (by decide) q232 rfl ?_
            refine V_iload_n C dX8_middle_57 rfl ?_
            refine V_iload C dX8_middle_58 rfl ?_
            refine V_cv C hE dX8_middle_60 (c_X5_between (v := 0) (a := i) (b := k) (by omega) (by omega) (by omega)) kyX5_between q353 (isoV (by first | assumption | omega)) rfl rfl rfl ?_
            refine V_iadd C dX8_middle_63 ?_
            refine V_istore C dX8_middle_64 rfl ?_
            refine V_iinc C 1 dX8_middle_66 rfl (by decide) rfl ?_
            refine V_goto C dX8_middle_69 ?_
            exact V_nx rfl (by simp [swN, ← nI_1] <;> rfl) (ih2 (k + 1) (by omega))
        exact lp2 (nh (σ 0)) 0 (by omega)
    exact lp (nh (σ 0)) 0 (by omega)
  · refine V_aload_n C dX8_middle_10 rfl ?_
    refine V_iconst C 3 dX8_middle_11 (by decide) ?_
    refine V_cv C hE dX8_middle_12 (c_X8_fail (j := 3) (by omega)) kyX8_fail q273 (isoO 60 rfl rfl rfl rfl) rfl rfl rfl ?_
    exact V_iretN C dX8_middle_15 hT (PX_fail (by unfold S_middle; all_goals (first | rw [if_pos c7] | rw [if_neg c7])) (EqX.rf σ))

theorem c_X8_seed {l : Launch} {E : En} {σ : Sg} {p0 : Int32}  : MN l yX8_seed cX8_seed 3 (some .int) rmX8_seed E [.ref (ad E 60), .int p0] σ (fun r u => r = some (.int (σ 0 7)) ∧ u = us σ 0 (upd (σ 0) 7 p0)) := by
  refine MN_of (by decide +kernel) rfl fun x C hE hT hcan => ?_
  have C : CX x cX8_seed RX8 rmX8_seed := C
  refine V_L (L' := [some (.ref (ad E 60)), some (.int p0), none]) rfl ?_
  refine V_aload_n C dX8_seed_0 rfl ?_
  refine V_get C dX8_seed_1 (rdX8_live) in_X8 (by decide) q232 rfl ?_
  refine V_getN C hE.nw dX8_seed_4 (rdV (by first | assumption | omega) 10 7 rfl rfl rfl) in_X5 (by decide) q151 rfl ?_
  refine V_istore_n C dX8_seed_7 rfl ?_
  refine V_aload_n C dX8_seed_8 rfl ?_
  refine V_get C dX8_seed_9 (rdX8_live) in_X8 (by decide) q232 rfl ?_
  refine V_iload_n C dX8_seed_12 rfl ?_
  refine V_putN C hE.nw dX8_seed_13 (wrV (by first | assumption | omega) 10 7 rfl rfl rfl) ft_X5 (by decide) q151 rfl rfl rfl rfl ?_
  refine V_iload_n C dX8_seed_16 rfl ?_
  exact V_iretN C dX8_seed_17 hT (⟨rfl, rfl⟩)

theorem c_X8_wipe {l : Launch} {E : En} {σ : Sg}   : MN l yX8_wipe cX8_wipe 2 (some .int) rmX8_wipe E [.ref (ad E 60)] σ (fun r u => r = some (.int (σ 60 9)) ∧ u = us σ 60 (upd (σ 60) 9 0)) := by
  refine MN_of (by decide +kernel) rfl fun x C hE hT hcan => ?_
  have C : CX x cX8_wipe RX8 rmX8_wipe := C
  refine V_L (L' := [some (.ref (ad E 60)), none]) rfl ?_
  refine V_aload_n C dX8_wipe_0 rfl ?_
  refine V_get C dX8_wipe_1 (rdO (j := 9) 60 rfl rfl rfl rfl rfl) in_X8 (by decide) q241 rfl ?_
  refine V_istore_n C dX8_wipe_4 rfl ?_
  refine V_aload_n C dX8_wipe_5 rfl ?_
  refine V_iconst C 0 dX8_wipe_6 (by decide) ?_
  refine V_put C dX8_wipe_7 (wrO (j := 9) 60 rfl rfl rfl rfl rfl rfl) ft_X8 (by decide) q241 rfl rfl rfl rfl ?_
  refine V_iload_n C dX8_wipe_10 rfl ?_
  exact V_iretN C dX8_wipe_11 hT (⟨rfl, rfl⟩)

