theorem V_cq {x : Cx} {cc : ByteArray} {own : String} {R : Room} {E : En} {k n pc pc' : Nat} {L : List (Option Value)} {st : List Value} {σ : Sg} (C : CX x cc own R) (hE : CE E (xs x) (xs x).heap) {idx nn ynL : Nat} {Cn : String} {b : Nat} {As rest : List Value} {y : MethodName} {ycc : ByteArray} {ret : Option FieldType} {rm : Room} {v : Value} {Pu : Sg → Prop}
    (hd : D1 cc pc (.invokevirtual idx) 3 pc') (hM : MN (xl x) y ycc ynL ret rm E (.ref b :: As) σ (fun r u => r = some v ∧ Pu u)) (hk : KV Cn y ycc ynL ret nn) (hl : Cond.methodLink own idx y ∈ lw_gd) (ho : IsO (xs x) (AP x E σ) b Cn) (hst : st = As.reverse ++ .ref b :: rest) (hro : ROb rm ynL R nn As rest = true) (hkc : (Nat.ble k R.cells && Nat.ble n R.slots) = true)
    (h : ∀ u, Pu u → V x (eA E) (AP x E u) k n pc' L (v :: rest)) : V x (eA E) (AP x E σ) k n pc L st := by
  refine V_cn C hE hd hM hk hl ho hst hro hkc ?_
  rintro r u ⟨rfl, hp⟩
  exact h u hp
theorem fst_some {p : Nat → Bool} : ∀ (m a i : Nat), a ≤ i → i < a + m → (∀ j, a ≤ j → j < i → p j = false) → p i = true → fstN p m a = some i := by
  intro m
  induction m with
  | zero => intro a i h1 h2; omega
  | succ m ih =>
    intro a i h1 h2 hp hi
    unfold fstN
    by_cases e : i = a
    · subst e; rw [if_pos hi]
    · rw [if_neg (by rw [hp a (by omega) (by omega)]; decide)]
      exact ih (a+1) i (by omega) (by omega) (fun j h3 h4 => hp j (by omega) h4) hi
theorem fst_none {p : Nat → Bool} : ∀ (m a : Nat), (∀ j, a ≤ j → j < a + m → p j = false) → fstN p m a = none := by
  intro m
  induction m with
  | zero => intro a _; rfl
  | succ m ih =>
    intro a hp
    unfold fstN
    rw [if_neg (by rw [hp a (by omega) (by omega)]; decide)]
    exact ih (a+1) (fun j h1 h2 => hp j (by omega) (by omega))
theorem amax_s {g : Nat → Int32} {i : Nat} (h : ¬ g i ≤ (amax g i).2) : amax g (i+1) = (nI i, g i) := if_pos (Int32.not_le.mp h)
theorem amax_k {g : Nat → Int32} {i : Nat} (h : g i ≤ (amax g i).2) : amax g (i+1) = amax g i := if_neg (Int32.not_lt.mpr h)
theorem fal_s {p : Nat → Bool} {a i : Nat} (h : ∀ j, a ≤ j → j < i → p j = false) (hi : ¬ p i = true) : ∀ j, a ≤ j → j < i + 1 → p j = false := fun j h1 h2 => by
  by_cases e : j = i
  · subst e; exact Bool.eq_false_iff.mpr hi
  · exact h j h1 (by omega)

theorem c_X8_cold {l : Launch} {E : En} {σ : Sg} {p0 : Int32}  (hG : GV (σ 0)) : MN l yX8_cold cX8_cold 4 (some .int) rmX8_cold E [.ref (ad E 60), .int p0] σ (PX σ (S_cold (σ 0) p0) (σ 0)) := by
  refine MN_of (by decide +kernel) rfl fun x C hE hT hcan => ?_
  have C : CX x cX8_cold RX8 rmX8_cold := C
  refine V_L (L' := [some (.ref (ad E 60)), some (.int p0), none, none]) rfl ?_
  refine V_aload_n C dX8_cold_0 rfl ?_
  refine V_get C dX8_cold_1 (rdX8_live) in_X8 (by decide) q232 rfl ?_
  refine V_iload_n C dX8_cold_4 rfl ?_
  by_cases hh : isH (σ 0) p0
  · obtain ⟨b, hb, rfl, hb8⟩ := isH_of (hcan.1 0 (by omega)) hh
    refine V_cv C hE dX8_cold_5 (c_X5_get (v := 0) (i := b) (by omega) hb) kyX5_get q294 (isoV (by first | assumption | omega)) rfl rfl rfl ?_
    refine V_ifnonnull C dX8_cold_8 ?_
    refine V_aload_n C dX8_cold_17 rfl ?_
    refine V_bipush C 96 dX8_cold_18 (by decide) ?_
    refine V_cv C hE dX8_cold_20 (c_X8_endsTooLate) kyX8_endsTooLate q377 (isoO 60 rfl rfl rfl rfl) rfl rfl rfl ?_
    refine V_ifeq_b C dX8_cold_23 (fun c23 => ?_) (fun c23 => ?_)
    · refine V_aload_n C dX8_cold_32 rfl ?_
      refine V_cv C hE dX8_cold_33 (c_X8_trial) kyX8_trial q443 (isoO 60 rfl rfl rfl rfl) rfl rfl rfl ?_
      refine V_astore_n C dX8_cold_36 rfl ?_
      refine V_iconst C 0 dX8_cold_37 (by decide) ?_
      refine V_istore_n C dX8_cold_38 rfl ?_
      have lp : ∀ (d i : Nat) , i + d = 97 → (∀ j, 0 ≤ j → j < i → (fun n => cldF (passN n (σ 0)) b) j = false) → V x (eA E) (AP x E (us (trS σ) 2 (passN i (σ 0)))) 0 0 39 [some (.ref (ad E 60)), some (.int (nI b)), some (.ref (ad E (vb 2))), some (.int (nI i))] [] := by
        intro d
        induction d with
        | zero =>
          intro i  hi' hp
          have hN : i = 97 := by omega
          refine V_iload_n C dX8_cold_39 rfl ?_
          refine V_bipush C 96 dX8_cold_40 (by decide) ?_
          refine V_icmp_gt C dX8_cold_42 (fun c42 => ?_) (fun c42 => absurd (nI_lt (a := 96) (by omega) (by omega)) c42)
          refine V_aload_n C dX8_cold_66 rfl ?_
          refine V_iconst C 3 dX8_cold_67 (by decide) ?_
          refine V_cv C hE dX8_cold_68 (c_X8_fail (j := 3) (by omega)) kyX8_fail q273 (isoO 60 rfl rfl rfl rfl) rfl rfl rfl ?_
          exact V_iretN C dX8_cold_71 hT (PX_fail (by unfold S_cold; rw [if_pos hh, if_neg c23, hk_nI hb8, fst_none 97 0 (fun j h1 h2 => hp j h1 (by omega))]; rfl) ((EqX_tr σ).put (by omega)))
        | succ d ih =>
          intro i  hi' hp
          refine V_iload_n C dX8_cold_39 rfl ?_
          refine V_bipush C 96 dX8_cold_40 (by decide) ?_
          refine V_icmp_gt C dX8_cold_42 (fun c42 => absurd c42 (nI_nlt (a := 96) (by omega) (by omega))) (fun c42 => ?_)
          refine V_aload_n C dX8_cold_45 rfl ?_
          refine V_iload_n C dX8_cold_46 rfl ?_
          refine V_cv C hE dX8_cold_47 (c_X5_isCold (v := 2) (i := b) (by omega) (by rw [us_s, nh_passN]; exact hb)) kyX5_isCold q467 (isoV (by first | assumption | omega)) rfl rfl rfl ?_
          rw [us_s]
          refine V_ifeq_b C dX8_cold_50 (fun c50 => ?_) (fun c50 => ?_)
          · refine V_aload_n C dX8_cold_55 rfl ?_
            refine V_iconst C 1 dX8_cold_56 (by decide) ?_
            refine V_cv0 C hE dX8_cold_57 (c_X5_pass (v := 2) (n := 1) (by omega) (by omega) (by rw [us_s]; exact Inv_passN hG.1 i)) kyX5_pass q386 (isoV (by first | assumption | omega)) rfl rfl rfl ?_
            refine V_iinc C 1 dX8_cold_60 rfl (by decide) rfl ?_
            refine V_goto C dX8_cold_63 ?_
            exact V_nx (by simp only [us_us, us_s]; rfl) (by simp [← nI_1] <;> rfl) (ih (i + 1) (by omega) (fal_s hp (fun q => c50 (of_decide_eq_true q))))
          · refine V_iload_n C dX8_cold_53 rfl ?_
            exact V_iretN C dX8_cold_54 hT (PX_rd (by unfold S_cold; rw [if_pos hh, if_neg c23, hk_nI hb8, fst_some 97 0 i (by omega) (by omega) hp (decide_eq_true c50)]; rfl) ((EqX_tr σ).put (by omega)))
      exact V_nx (by show _ = us (trS σ) 2 (σ 0); have e := us_id (trS σ) 2; rw [trS_2] at e; exact e.symm) rfl (lp 97 0 (by omega) (fun j h1 h2 => absurd h2 (by omega)))
    · refine V_aload_n C dX8_cold_26 rfl ?_
      refine V_iconst C 4 dX8_cold_27 (by decide) ?_
      refine V_cv C hE dX8_cold_28 (c_X8_fail (j := 4) (by omega)) kyX8_fail q273 (isoO 60 rfl rfl rfl rfl) rfl rfl rfl ?_
      exact V_iretN C dX8_cold_31 hT (PX_fail (by unfold S_cold; all_goals (first | rw [if_pos hh] | rw [if_neg hh]); all_goals (first | rw [if_pos c23] | rw [if_neg c23])) (EqX.rf σ))
  · refine V_cv C hE dX8_cold_5 (c_X5_getN (v := 0) (by omega) hh) kyX5_get q294 (isoV (by first | assumption | omega)) rfl rfl rfl ?_
    refine V_ifnonnullN C dX8_cold_8 ?_
    refine V_aload_n C dX8_cold_11 rfl ?_
    refine V_iconst C 0 dX8_cold_12 (by decide) ?_
    refine V_cv C hE dX8_cold_13 (c_X8_fail (j := 0) (by omega)) kyX8_fail q273 (isoO 60 rfl rfl rfl rfl) rfl rfl rfl ?_
    exact V_iretN C dX8_cold_16 hT (PX_fail (by unfold S_cold; all_goals (first | rw [if_pos hh] | rw [if_neg hh])) (EqX.rf σ))

theorem c_X8_sentTo {l : Launch} {E : En} {σ : Sg} {i q : Nat} (hG : GV (σ 0)) (hi : i ≤ 7) (hq : q < 2 ^ 31) : MN l yX8_sentTo cX8_sentTo 4 (some (.object "SledgeStove$Village")) rmX8_sentTo E [.ref (ad E 60), .int (nI i), .int (nI q)] σ (fun r u => r = some (.ref (ad E (vb 2))) ∧ (u 2 = passN q (goF (σ 0) i) ∧ EqX σ u)) := by
  refine MN_of (by decide +kernel) rfl fun x C hE hT hcan => ?_
  have C : CX x cX8_sentTo RX8 rmX8_sentTo := C
  refine V_L (L' := [some (.ref (ad E 60)), some (.int (nI i)), some (.int (nI q)), none]) rfl ?_
  refine V_aload_n C dX8_sentTo_0 rfl ?_
  refine V_cv C hE dX8_sentTo_1 (c_X8_trial) kyX8_trial q443 (isoO 60 rfl rfl rfl rfl) rfl rfl rfl ?_
  try simp only [us_us, us_s, trS_2]
  refine V_astore_n C dX8_sentTo_4 rfl ?_
  refine V_aload_n C dX8_sentTo_5 rfl ?_
  refine V_iload_n C dX8_sentTo_6 rfl ?_
  refine V_cv C hE dX8_sentTo_7 (c_X5_go (v := 2) (b := i) (by omega) (by rw [trS_2]; exact hG.2.2.1) (by rw [trS_2]; exact hG.2.2.2) hi) kyX5_go q368 (isoV (by first | assumption | omega)) rfl rfl rfl ?_
  try simp only [us_us, us_s, trS_2]
  refine V_pop C dX8_sentTo_10 rfl ?_
  refine V_aload_n C dX8_sentTo_11 rfl ?_
  refine V_iload_n C dX8_sentTo_12 rfl ?_
  refine V_cv0 C hE dX8_sentTo_13 (c_X5_pass (v := 2) (n := q) (by omega) hq (by rw [us_s]; exact (GV_goF hG hi).1)) kyX5_pass q386 (isoV (by first | assumption | omega)) rfl rfl rfl ?_
  try simp only [us_us, us_s, trS_2]
  refine V_aload_n C dX8_sentTo_16 rfl ?_
  exact V_aretR C dX8_sentTo_17 hT (⟨rfl, by rw [us_s], (EqX_tr σ).put (by omega)⟩)

theorem c_X8_best {l : Launch} {E : En} {σ : Sg} {p0 : Int32}  (hG : GV (σ 0)) : MN l yX8_best cX8_best 6 (some .int) rmX8_best E [.ref (ad E 60), .int p0] σ (PX σ (S_best (σ 0) p0) (σ 0)) := by
  refine MN_of (by decide +kernel) rfl fun x C hE hT hcan => ?_
  have C : CX x cX8_best RX8 rmX8_best := C
  have hn1 := (hcan.1 0 (by omega)).1
  have h8 := (hcan.1 0 (by omega)).2.1
  refine V_L (L' := [some (.ref (ad E 60)), some (.int p0), none, none, none, none]) rfl ?_
  refine V_iload_n C dX8_best_0 rfl ?_
  refine V_iconst C 1 dX8_best_1 (by decide) ?_
  refine V_bipush C 96 dX8_best_2 (by decide) ?_
  refine V_cs C hE dX8_best_4 (c_X8_within) kyX8_within q270 rfl rfl rfl ?_
  refine V_ifne_b C dX8_best_7 (fun c7 => ?_) (fun c7 => ?_)
  · refine V_aload_n C dX8_best_16 rfl ?_
    refine V_sipush C 9999 dX8_best_17 (by decide) ?_
    refine V_iload_n C dX8_best_20 rfl ?_
    refine V_isub C dX8_best_21 ?_
    refine V_cv C hE dX8_best_22 (c_X8_cannotStart) kyX8_cannotStart q472 (isoO 60 rfl rfl rfl rfl) rfl rfl rfl ?_
    refine V_ifeq_b C dX8_best_25 (fun c25 => ?_) (fun c25 => ?_)
    · obtain ⟨q, rfl, hq⟩ := i32_le (m := 96) (by omega) (Int32.le_trans (by decide) c7.1) c7.2
      refine V_iconst C 0 dX8_best_34 (by decide) ?_
      refine V_istore_n C dX8_best_35 rfl ?_
      refine V_iconst C (-1) dX8_best_36 (by decide) ?_
      refine V_istore_n C dX8_best_37 rfl ?_
      refine V_iconst C 0 dX8_best_38 (by decide) ?_
      refine V_istore C dX8_best_39 rfl ?_
      have lp : ∀ (d i : Nat) (u : Sg), i + d = nh (σ 0) → (EqX σ u) → V x (eA E) (AP x E (u)) 0 0 41 [some (.ref (ad E 60)), some (.int (nI q)), some (.int (amax (fun i => lstF (passN q (goF (σ 0) i))) i).1), some (.int (amax (fun i => lstF (passN q (goF (σ 0) i))) i).2), some (.int (nI i)), none] [] := by
        intro d
        induction d with
        | zero =>
          intro i u hi' hu
          have hN : i = nh (σ 0) := by omega
          refine V_iload C dX8_best_41 rfl ?_
          refine V_aload_n C dX8_best_43 rfl ?_
          refine V_get C dX8_best_44 (rdX8_live) in_X8 (by decide) q232 rfl ?_
          refine V_getN C hE.nw dX8_best_47 (rdV (by first | assumption | omega) 3 1 rfl rfl rfl) in_X5 (by decide) q133 rfl ?_
          refine V_icmp_ge C dX8_best_50 (fun c50 => ?_) (fun c50 => absurd (by rw [hu.z, hn1, hN]; exact nI_le (Nat.le_refl _) (by omega)) c50)
          refine V_iload_n C dX8_best_83 rfl ?_
          exact V_iretN C dX8_best_84 hT (PX_rd (by unfold S_best; rw [if_pos c7, if_neg c25, hk_n (by omega), hN]) hu)
        | succ d ih =>
          intro i u hi' hu
          have hi8 : i < 8 := by omega
          refine V_iload C dX8_best_41 rfl ?_
          refine V_aload_n C dX8_best_43 rfl ?_
          refine V_get C dX8_best_44 (rdX8_live) in_X8 (by decide) q232 rfl ?_
          refine V_getN C hE.nw dX8_best_47 (rdV (by first | assumption | omega) 3 1 rfl rfl rfl) in_X5 (by decide) q133 rfl ?_
          refine V_icmp_ge C dX8_best_50 (fun c50 => absurd c50 (by rw [hu.z, hn1]; exact nI_ge (by omega) (by omega))) (fun c50 => ?_)
          refine V_aload_n C dX8_best_53 rfl ?_
          refine V_iload C dX8_best_54 rfl ?_
          refine V_iload_n C dX8_best_56 rfl ?_
          refine V_cq C hE dX8_best_57 (c_X8_sentTo (i := i) (q := q) (by rw [hu.z]; exact hG) (by omega) (by omega)) kyX8_sentTo q480 (isoO 60 rfl rfl rfl rfl) rfl rfl rfl ?_
          rintro u2 ⟨h2, hu2⟩
          refine V_cv C hE dX8_best_60 (c_X5_leastWarmth (v := 2) (by omega)) kyX5_leastWarmth q458 (isoV (by first | assumption | omega)) rfl rfl rfl ?_
          rw [h2, hu.z]
          refine V_istore C dX8_best_63 rfl ?_
          refine V_iload C dX8_best_65 rfl ?_
          refine V_iload_n C dX8_best_67 rfl ?_
          refine V_icmp_le C dX8_best_68 (fun c68 => ?_) (fun c68 => ?_)
          · refine V_forget 5 ?_
            refine V_iinc C 1 dX8_best_77 rfl (by decide) rfl ?_
            refine V_goto C dX8_best_80 ?_
            exact V_nx rfl (by first | (rw [amax_k (g := (fun i => lstF (passN q (goF (σ 0) i)))) c68]; simp [← nI_1] <;> rfl) | (rw [amax_s (g := (fun i => lstF (passN q (goF (σ 0) i)))) c68]; simp [← nI_1] <;> rfl)) (ih (i + 1) u2 (by omega) (hu.tr hu2))
          · refine V_iload C dX8_best_71 rfl ?_
            refine V_istore_n C dX8_best_73 rfl ?_
            refine V_iload C dX8_best_74 rfl ?_
            refine V_istore_n C dX8_best_76 rfl ?_
            refine V_forget 5 ?_
            refine V_iinc C 1 dX8_best_77 rfl (by decide) rfl ?_
            refine V_goto C dX8_best_80 ?_
            exact V_nx rfl (by first | (rw [amax_k (g := (fun i => lstF (passN q (goF (σ 0) i)))) c68]; simp [← nI_1] <;> rfl) | (rw [amax_s (g := (fun i => lstF (passN q (goF (σ 0) i)))) c68]; simp [← nI_1] <;> rfl)) (ih (i + 1) u2 (by omega) (hu.tr hu2))
      exact lp (nh (σ 0)) 0 σ (by omega) (EqX.rf σ)
    · refine V_aload_n C dX8_best_28 rfl ?_
      refine V_iconst C 4 dX8_best_29 (by decide) ?_
      refine V_cv C hE dX8_best_30 (c_X8_fail (j := 4) (by omega)) kyX8_fail q273 (isoO 60 rfl rfl rfl rfl) rfl rfl rfl ?_
      exact V_iretN C dX8_best_33 hT (PX_fail (by unfold S_best; all_goals (first | rw [if_pos c7] | rw [if_neg c7]); all_goals (first | rw [if_pos c25] | rw [if_neg c25])) (EqX.rf σ))
  · refine V_aload_n C dX8_best_10 rfl ?_
    refine V_iconst C 0 dX8_best_11 (by decide) ?_
    refine V_cv C hE dX8_best_12 (c_X8_fail (j := 0) (by omega)) kyX8_fail q273 (isoO 60 rfl rfl rfl rfl) rfl rfl rfl ?_
    exact V_iretN C dX8_best_15 hT (PX_fail (by unfold S_best; all_goals (first | rw [if_pos c7] | rw [if_neg c7])) (EqX.rf σ))

theorem c_X8_lost {l : Launch} {E : En} {σ : Sg} {p0 : Int32}  (hG : GV (σ 0)) : MN l yX8_lost cX8_lost 4 (some .int) rmX8_lost E [.ref (ad E 60), .int p0] σ (PX σ (S_lost (σ 0) p0) (σ 0)) := by
  refine MN_of (by decide +kernel) rfl fun x C hE hT hcan => ?_
  have C : CX x cX8_lost RX8 rmX8_lost := C
  have hn1 := (hcan.1 0 (by omega)).1
  have h8 := (hcan.1 0 (by omega)).2.1
  refine V_L (L' := [some (.ref (ad E 60)), some (.int p0), none, none]) rfl ?_
  refine V_iload_n C dX8_lost_0 rfl ?_
  refine V_iconst C 1 dX8_lost_1 (by decide) ?_
  refine V_bipush C 96 dX8_lost_2 (by decide) ?_
  refine V_cs C hE dX8_lost_4 (c_X8_within) kyX8_within q270 rfl rfl rfl ?_
  refine V_ifne_b C dX8_lost_7 (fun c7 => ?_) (fun c7 => ?_)
  · refine V_aload_n C dX8_lost_16 rfl ?_
    refine V_sipush C 9999 dX8_lost_17 (by decide) ?_
    refine V_iload_n C dX8_lost_20 rfl ?_
    refine V_isub C dX8_lost_21 ?_
    refine V_cv C hE dX8_lost_22 (c_X8_cannotStart) kyX8_cannotStart q472 (isoO 60 rfl rfl rfl rfl) rfl rfl rfl ?_
    refine V_ifeq_b C dX8_lost_25 (fun c25 => ?_) (fun c25 => ?_)
    · obtain ⟨q, rfl, hq⟩ := i32_le (m := 96) (by omega) (Int32.le_trans (by decide) c7.1) c7.2
      refine V_iconst C (-1) dX8_lost_34 (by decide) ?_
      refine V_istore_n C dX8_lost_35 rfl ?_
      refine V_iconst C 0 dX8_lost_36 (by decide) ?_
      refine V_istore_n C dX8_lost_37 rfl ?_
      have lp : ∀ (d i : Nat) (u : Sg), i + d = nh (σ 0) → (EqX σ u) → V x (eA E) (AP x E (u)) 0 0 38 [some (.ref (ad E 60)), some (.int (nI q)), some (.int (andN (fun i => setF (passN q (goF (σ 0) i))) i)), some (.int (nI i))] [] := by
        intro d
        induction d with
        | zero =>
          intro i u hi' hu
          have hN : i = nh (σ 0) := by omega
          refine V_iload_n C dX8_lost_38 rfl ?_
          refine V_aload_n C dX8_lost_39 rfl ?_
          refine V_get C dX8_lost_40 (rdX8_live) in_X8 (by decide) q232 rfl ?_
          refine V_getN C hE.nw dX8_lost_43 (rdV (by first | assumption | omega) 3 1 rfl rfl rfl) in_X5 (by decide) q133 rfl ?_
          refine V_icmp_ge C dX8_lost_46 (fun c46 => ?_) (fun c46 => absurd (by rw [hu.z, hn1, hN]; exact nI_le (Nat.le_refl _) (by omega)) c46)
          refine V_iload_n C dX8_lost_67 rfl ?_
          exact V_iretN C dX8_lost_68 hT (PX_rd (by unfold S_lost; rw [if_pos c7, if_neg c25, hk_n (by omega), hN]) hu)
        | succ d ih =>
          intro i u hi' hu
          have hi8 : i < 8 := by omega
          refine V_iload_n C dX8_lost_38 rfl ?_
          refine V_aload_n C dX8_lost_39 rfl ?_
          refine V_get C dX8_lost_40 (rdX8_live) in_X8 (by decide) q232 rfl ?_
          refine V_getN C hE.nw dX8_lost_43 (rdV (by first | assumption | omega) 3 1 rfl rfl rfl) in_X5 (by decide) q133 rfl ?_
          refine V_icmp_ge C dX8_lost_46 (fun c46 => absurd c46 (by rw [hu.z, hn1]; exact nI_ge (by omega) (by omega))) (fun c46 => ?_)
          refine V_iload_n C dX8_lost_49 rfl ?_
          refine V_aload_n C dX8_lost_50 rfl ?_
          refine V_iload_n C dX8_lost_51 rfl ?_
          refine V_iload_n C dX8_lost_52 rfl ?_
          refine V_cq C hE dX8_lost_53 (c_X8_sentTo (i := i) (q := q) (by rw [hu.z]; exact hG) (by omega) (by omega)) kyX8_sentTo q480 (isoO 60 rfl rfl rfl rfl) rfl rfl rfl ?_
          rintro u2 ⟨h2, hu2⟩
          refine V_cv C hE dX8_lost_56 (c_X5_coldSet (v := 2) (by omega)) kyX5_coldSet q423 (isoV (by first | assumption | omega)) rfl rfl rfl ?_
          rw [h2, hu.z]
          refine V_iand C dX8_lost_59 ?_
          refine V_istore_n C dX8_lost_60 rfl ?_
          refine V_iinc C 1 dX8_lost_61 rfl (by decide) rfl ?_
          refine V_goto C dX8_lost_64 ?_
          exact V_nx rfl (by simp [andN, ← nI_1] <;> rfl) (ih (i + 1) u2 (by omega) (hu.tr hu2))
      exact lp (nh (σ 0)) 0 σ (by omega) (EqX.rf σ)
    · refine V_aload_n C dX8_lost_28 rfl ?_
      refine V_iconst C 4 dX8_lost_29 (by decide) ?_
      refine V_cv C hE dX8_lost_30 (c_X8_fail (j := 4) (by omega)) kyX8_fail q273 (isoO 60 rfl rfl rfl rfl) rfl rfl rfl ?_
      exact V_iretN C dX8_lost_33 hT (PX_fail (by unfold S_lost; all_goals (first | rw [if_pos c7] | rw [if_neg c7]); all_goals (first | rw [if_pos c25] | rw [if_neg c25])) (EqX.rf σ))
  · refine V_aload_n C dX8_lost_10 rfl ?_
    refine V_iconst C 0 dX8_lost_11 (by decide) ?_
    refine V_cv C hE dX8_lost_12 (c_X8_fail (j := 0) (by omega)) kyX8_fail q273 (isoO 60 rfl rfl rfl rfl) rfl rfl rfl ?_
    exact V_iretN C dX8_lost_15 hT (PX_fail (by unfold S_lost; all_goals (first | rw [if_pos c7] | rw [if_neg c7])) (EqX.rf σ))

