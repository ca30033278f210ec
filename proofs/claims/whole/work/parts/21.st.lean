theorem V_iretN {x : Cx} {cc : ByteArray} {own : String} {R : Room} {E : En} {pc pc' : Nat} {L : List (Option Value)} {σ : Sg} (C : CX x cc own R) {a : Int32} {post : Option Value → Sg → Prop} (hd : D1 cc pc .ireturn 1 pc') (hT : RTN x (some .int) E post) (hp : post (some (.int a)) σ) : V x (eA E) (AP x E σ) 0 0 pc L [.int a] :=
  V_iret C (u := σ) hd hT hp (fun _ h => h) PM_A
theorem V_retN {x : Cx} {cc : ByteArray} {own : String} {R : Room} {E : En} {pc pc' : Nat} {L : List (Option Value)} {σ : Sg} (C : CX x cc own R) {post : Option Value → Sg → Prop} (hd : D1 cc pc .return_ 1 pc') (hT : RTN x none E post) (hp : post none σ) : V x (eA E) (AP x E σ) 0 0 pc L [] :=
  V_ret C (u := σ) hd hT hp (fun _ h => h) PM_A
theorem V_aretR {x : Cx} {cc : ByteArray} {own : String} {R : Room} {E : En} {pc pc' : Nat} {L : List (Option Value)} {σ : Sg} (C : CX x cc own R) {a : Nat} {post : Option Value → Sg → Prop} {nm : String} (hd : D1 cc pc .areturn 1 pc') (hT : RTN x (some (.object nm)) E post) (hp : post (some (.ref a)) σ) : V x (eA E) (AP x E σ) 0 0 pc L [.ref a] :=
  V_aret C (u := σ) hd hT (Or.inr ⟨a, rfl⟩) hp (fun _ h => h) PM_A
theorem i6 : (Int32.ofNat 7 - 1 : Int32) = nI 6 := by decide
theorem i3 : (Int32.ofNat 4 - 1 : Int32) = nI 3 := by decide
/-- how far a variable of parts may go -/
def loV (w : Int32) : Int32 := if w = 2 then 1 else 0
def hiV (w : Int32) : Int32 := if w = 0 then 6 else if w = 2 then 40 else if w = 3 then 99 else 400
def csP (f : Nat → Int32) (p : Int32) : Prop := 0 < f 3 ∨ f 1 = 0 ∨ p < f 0
def finR (f : Nat → Int32) (s : Int32) : Int32 := if ¬ inP s 1 12 then 0 else if 0 < f 3 ∨ f 1 = 0 ∨ 9700 < f 0 then 4 else -1
def trS (σ : Sg) : Sg := us (us σ 2 (σ 0)) (5+2) (lw (σ (5+2)) (σ (5+0) 0) (σ (5+0) 1))
theorem sw3 (a : Int32) : a = 0 ∨ a = 1 ∨ a = 2 ∨ a = 3 ∨ (a.toInt < 0 ∨ 3 < a.toInt) := by
  rcases sw_x 3 (by omega) a with ⟨j, hj, rfl⟩ | h
  · rcases (show j = 0 ∨ j = 1 ∨ j = 2 ∨ j = 3 by omega) with rfl | rfl | rfl | rfl <;> simp [nI]
  · exact Or.inr (Or.inr (Or.inr (Or.inr h)))
theorem sw3n {a : Int32} (h : a.toInt < 0 ∨ 3 < a.toInt) : ¬ a = 0 ∧ ¬ a = 2 ∧ ¬ a = 3 := by
  refine ⟨?_, ?_, ?_⟩ <;> (rintro rfl; revert h; decide)

theorem c_X8_within {l : Launch} {E : En} {σ : Sg}  {p0 p1 p2 : Int32}  : MD l yX8_within cX8_within 3 (some .boolean) rmX8_within E [.int p0, .int p1, .int p2] σ (some (.int (bI (inP p0 p1 p2)))) (σ) := by
  refine MD_of (by decide +kernel) rfl fun x C hE hT hcan => ?_
  have C : CX x cX8_within RX8 rmX8_within := C
  refine V_L (L' := [some (.int p0), some (.int p1), some (.int p2)]) rfl ?_
  refine V_iload_n C dX8_within_0 rfl ?_
  refine V_iload_n C dX8_within_1 rfl ?_
  refine V_icmp_lt C dX8_within_2 (fun c2 => ?_) (fun c2 => ?_)
  · refine V_iconst C 0 dX8_within_14 (by decide) ?_
    exact V_zretD C dX8_within_15 hT (by first | exact (bI_t ⟨Int32.not_lt.mp c2, Int32.not_lt.mp c7⟩).symm | exact (bI_f (fun q => absurd q.1 (Int32.not_le.mpr c2))).symm | exact (bI_f (fun q => absurd q.2 (Int32.not_le.mpr c7))).symm) rfl
  · refine V_iload_n C dX8_within_5 rfl ?_
    refine V_iload_n C dX8_within_6 rfl ?_
    refine V_icmp_gt C dX8_within_7 (fun c7 => ?_) (fun c7 => ?_)
    · refine V_iconst C 0 dX8_within_14 (by decide) ?_
      exact V_zretD C dX8_within_15 hT (by first | exact (bI_t ⟨Int32.not_lt.mp c2, Int32.not_lt.mp c7⟩).symm | exact (bI_f (fun q => absurd q.1 (Int32.not_le.mpr c2))).symm | exact (bI_f (fun q => absurd q.2 (Int32.not_le.mpr c7))).symm) rfl
    · refine V_iconst C 1 dX8_within_10 (by decide) ?_
      refine V_goto C dX8_within_11 ?_
      exact V_zretD C dX8_within_15 hT (by first | exact (bI_t ⟨Int32.not_lt.mp c2, Int32.not_lt.mp c7⟩).symm | exact (bI_f (fun q => absurd q.1 (Int32.not_le.mpr c2))).symm | exact (bI_f (fun q => absurd q.2 (Int32.not_le.mpr c7))).symm) rfl

theorem c_X8_lowest {l : Launch} {E : En} {σ : Sg}  {p0 : Int32}  : MD l yX8_lowest cX8_lowest 1 (some .int) rmX8_lowest E [.int p0] σ (some (.int (loV p0))) (σ) := by
  refine MD_of (by decide +kernel) rfl fun x C hE hT hcan => ?_
  have C : CX x cX8_lowest RX8 rmX8_lowest := C
  refine V_L (L' := [some (.int p0)]) rfl ?_
  refine V_iload_n C dX8_lowest_0 rfl ?_
  refine V_iconst C 2 dX8_lowest_1 (by decide) ?_
  refine V_icmp_ne C dX8_lowest_2 (fun c2 => ?_) (fun c2 => ?_)
  · refine V_iconst C 0 dX8_lowest_9 (by decide) ?_
    exact V_iretD C dX8_lowest_10 hT (by simp [loV, c2]) rfl
  · refine V_iconst C 1 dX8_lowest_5 (by decide) ?_
    refine V_goto C dX8_lowest_6 ?_
    exact V_iretD C dX8_lowest_10 hT (by simp [loV, c2]) rfl

theorem c_X8_highest {l : Launch} {E : En} {σ : Sg}  {p0 : Int32}  : MD l yX8_highest cX8_highest 1 (some .int) rmX8_highest E [.int p0] σ (some (.int (hiV p0))) (σ) := by
  refine MD_of (by decide +kernel) rfl fun x C hE hT hcan => ?_
  have C : CX x cX8_highest RX8 rmX8_highest := C
  refine V_L (L' := [some (.int p0)]) rfl ?_
  refine V_iload_n C dX8_highest_0 rfl ?_
  rcases sw3 p0 with rfl | rfl | rfl | rfl | hsw
  · refine V_tableIn (tgt := 32) C dX8_highest_1 (by decide) (by decide) rfl (by decide) ?_
    refine V_bipush C 6 dX8_highest_32 (by decide) ?_
    exact V_iretD C dX8_highest_34 hT (by first | rfl | (have := sw3n hsw; simp [hiV, this])) rfl
  · refine V_tableIn (tgt := 41) C dX8_highest_1 (by decide) (by decide) rfl (by decide) ?_
    refine V_sipush C 400 dX8_highest_41 (by decide) ?_
    exact V_iretD C dX8_highest_44 hT (by first | rfl | (have := sw3n hsw; simp [hiV, this])) rfl
  · refine V_tableIn (tgt := 35) C dX8_highest_1 (by decide) (by decide) rfl (by decide) ?_
    refine V_bipush C 40 dX8_highest_35 (by decide) ?_
    exact V_iretD C dX8_highest_37 hT (by first | rfl | (have := sw3n hsw; simp [hiV, this])) rfl
  · refine V_tableIn (tgt := 38) C dX8_highest_1 (by decide) (by decide) rfl (by decide) ?_
    refine V_bipush C 99 dX8_highest_38 (by decide) ?_
    exact V_iretD C dX8_highest_40 hT (by first | rfl | (have := sw3n hsw; simp [hiV, this])) rfl
  · refine V_tableOut (tgt := 41) C dX8_highest_1 (hsw) (by decide) ?_
    refine V_sipush C 400 dX8_highest_41 (by decide) ?_
    exact V_iretD C dX8_highest_44 hT (by first | rfl | (have := sw3n hsw; simp [hiV, this])) rfl

theorem c_X8_fail {l : Launch} {E : En} {σ : Sg}  {j : Nat}  (hj : j < 7) : MD l yX8_fail cX8_fail 2 (some .int) rmX8_fail E [.ref (ad E 60), .int (nI j)] σ (some (.int (-1000001 - nI j))) (us σ 62 (upd (σ 62) j (σ 62 j + 1))) := by
  refine MD_of (by decide +kernel) rfl fun x C hE hT hcan => ?_
  have C : CX x cX8_fail RX8 rmX8_fail := C
  refine V_L (L' := [some (.ref (ad E 60)), some (.int (nI j))]) rfl ?_
  refine V_iload_n C dX8_fail_0 rfl ?_
  refine V_iconst C 0 dX8_fail_1 (by decide) ?_
  refine V_aload_n C dX8_fail_2 rfl ?_
  refine V_get C dX8_fail_3 (rdO (j := 6) 60 rfl rfl rfl rfl rfl) in_X8 (by decide) q238 rfl ?_
  refine V_alen C dX8_fail_6 (rdOL 62 rfl rfl rfl) rfl ?_
  refine V_iconst C 1 dX8_fail_7 (by decide) ?_
  refine V_isub C dX8_fail_8 ?_
  rw [i6]
  refine V_cs C hE dX8_fail_9 (c_X8_within) kyX8_within q270 rfl rfl rfl ?_
  refine V_ifeq_b C dX8_fail_12 (fun c12 => absurd (⟨nI_pos' (by omega), nI_le (by omega) (by omega)⟩) c12) (fun c12 => ?_)
  refine V_aload_n C dX8_fail_15 rfl ?_
  refine V_get C dX8_fail_16 (rdO (j := 6) 60 rfl rfl rfl rfl rfl) in_X8 (by decide) q238 rfl ?_
  refine V_iload_n C dX8_fail_19 rfl ?_
  refine V_dup2 C dX8_fail_20 rfl rfl ?_
  refine V_ialdN C j rfl (hj) (by omega) dX8_fail_21 (rdOA 62 rfl rfl rfl) ?_
  refine V_iconst C 1 dX8_fail_22 (by decide) ?_
  refine V_iadd C dX8_fail_23 ?_
  refine V_iastN C j rfl (hj) (by omega) dX8_fail_24 (wrOA 62 rfl rfl (fun _ => rfl)) ?_
  refine V_ldc_w C dX8_fail_25 q277 ?_
  refine V_iload_n C dX8_fail_28 rfl ?_
  refine V_isub C dX8_fail_29 ?_
  exact V_iretD C dX8_fail_30 hT rfl rfl

theorem c_X8_endsTooLate {l : Launch} {E : En} {σ : Sg}  {p0 : Int32}  : MD l yX8_endsTooLate cX8_endsTooLate 2 (some .boolean) rmX8_endsTooLate E [.ref (ad E 60), .int p0] σ (some (.int (bI (9999 - p0 < σ 0 0)))) (σ) := by
  refine MD_of (by decide +kernel) rfl fun x C hE hT hcan => ?_
  have C : CX x cX8_endsTooLate RX8 rmX8_endsTooLate := C
  refine V_L (L' := [some (.ref (ad E 60)), some (.int p0)]) rfl ?_
  refine V_aload_n C dX8_endsTooLate_0 rfl ?_
  refine V_get C dX8_endsTooLate_1 (rdX8_live) in_X8 (by decide) q232 rfl ?_
  refine V_getN C hE.nw dX8_endsTooLate_4 (rdV (by first | assumption | omega) 8 0 rfl rfl rfl) in_X5 (by decide) q146 rfl ?_
  refine V_sipush C 9999 dX8_endsTooLate_7 (by decide) ?_
  refine V_iload_n C dX8_endsTooLate_10 rfl ?_
  refine V_isub C dX8_endsTooLate_11 ?_
  refine V_icmp_le C dX8_endsTooLate_12 (fun c12 => ?_) (fun c12 => ?_)
  · refine V_iconst C 0 dX8_endsTooLate_19 (by decide) ?_
    exact V_zretD C dX8_endsTooLate_20 hT (by first | exact (bI_f (Int32.not_lt.mpr c12)).symm | exact (bI_t (Int32.not_le.mp c12)).symm) rfl
  · refine V_iconst C 1 dX8_endsTooLate_15 (by decide) ?_
    refine V_goto C dX8_endsTooLate_16 ?_
    exact V_zretD C dX8_endsTooLate_20 hT (by first | exact (bI_f (Int32.not_lt.mpr c12)).symm | exact (bI_t (Int32.not_le.mp c12)).symm) rfl

theorem c_X8_cannotStart {l : Launch} {E : En} {σ : Sg}  {p0 : Int32}  : MD l yX8_cannotStart cX8_cannotStart 2 (some .boolean) rmX8_cannotStart E [.ref (ad E 60), .int p0] σ (some (.int (bI (0 < σ 0 3 ∨ σ 0 1 = 0 ∨ p0 < σ 0 0)))) (σ) := by
  refine MD_of (by decide +kernel) rfl fun x C hE hT hcan => ?_
  have C : CX x cX8_cannotStart RX8 rmX8_cannotStart := C
  refine V_L (L' := [some (.ref (ad E 60)), some (.int p0)]) rfl ?_
  refine V_aload_n C dX8_cannotStart_0 rfl ?_
  refine V_get C dX8_cannotStart_1 (rdX8_live) in_X8 (by decide) q232 rfl ?_
  refine V_getN C hE.nw dX8_cannotStart_4 (rdV (by first | assumption | omega) 7 3 rfl rfl rfl) in_X5 (by decide) q144 rfl ?_
  refine V_if_gt C dX8_cannotStart_7 (fun c7 => ?_) (fun c7 => ?_)
  · refine V_iconst C 1 dX8_cannotStart_31 (by decide) ?_
    refine V_goto C dX8_cannotStart_32 ?_
    exact V_zretD C dX8_cannotStart_36 hT (by first | exact (bI_t (Or.inl c7)).symm | exact (bI_t (Or.inr (Or.inl c17))).symm | exact (bI_t (Or.inr (Or.inr (Int32.not_le.mp c28)))).symm | exact (bI_f (fun q => q.elim c7 (fun q => q.elim c17 (Int32.not_lt.mpr c28)))).symm) rfl
  · refine V_aload_n C dX8_cannotStart_10 rfl ?_
    refine V_get C dX8_cannotStart_11 (rdX8_live) in_X8 (by decide) q232 rfl ?_
    refine V_getN C hE.nw dX8_cannotStart_14 (rdV (by first | assumption | omega) 3 1 rfl rfl rfl) in_X5 (by decide) q133 rfl ?_
    refine V_if_eq C dX8_cannotStart_17 (fun c17 => ?_) (fun c17 => ?_)
    · refine V_iconst C 1 dX8_cannotStart_31 (by decide) ?_
      refine V_goto C dX8_cannotStart_32 ?_
      exact V_zretD C dX8_cannotStart_36 hT (by first | exact (bI_t (Or.inl c7)).symm | exact (bI_t (Or.inr (Or.inl c17))).symm | exact (bI_t (Or.inr (Or.inr (Int32.not_le.mp c28)))).symm | exact (bI_f (fun q => q.elim c7 (fun q => q.elim c17 (Int32.not_lt.mpr c28)))).symm) rfl
    · refine V_aload_n C dX8_cannotStart_20 rfl ?_
      refine V_get C dX8_cannotStart_21 (rdX8_live) in_X8 (by decide) q232 rfl ?_
      refine V_getN C hE.nw dX8_cannotStart_24 (rdV (by first | assumption | omega) 8 0 rfl rfl rfl) in_X5 (by decide) q146 rfl ?_
      refine V_iload_n C dX8_cannotStart_27 rfl ?_
      refine V_icmp_le C dX8_cannotStart_28 (fun c28 => ?_) (fun c28 => ?_)
      · refine V_iconst C 0 dX8_cannotStart_35 (by decide) ?_
        exact V_zretD C dX8_cannotStart_36 hT (by first | exact (bI_t (Or.inl c7)).symm | exact (bI_t (Or.inr (Or.inl c17))).symm | exact (bI_t (Or.inr (Or.inr (Int32.not_le.mp c28)))).symm | exact (bI_f (fun q => q.elim c7 (fun q => q.elim c17 (Int32.not_lt.mpr c28)))).symm) rfl
      · refine V_iconst C 1 dX8_cannotStart_31 (by decide) ?_
        refine V_goto C dX8_cannotStart_32 ?_
        exact V_zretD C dX8_cannotStart_36 hT (by first | exact (bI_t (Or.inl c7)).symm | exact (bI_t (Or.inr (Or.inl c17))).symm | exact (bI_t (Or.inr (Or.inr (Int32.not_le.mp c28)))).symm | exact (bI_f (fun q => q.elim c7 (fun q => q.elim c17 (Int32.not_lt.mpr c28)))).symm) rfl

theorem c_X8_roundFinding {l : Launch} {E : En} {σ : Sg}  {p0 : Int32}  : MD l yX8_roundFinding cX8_roundFinding 2 (some .int) rmX8_roundFinding E [.ref (ad E 60), .int p0] σ (some (.int (finR (σ 0) p0))) (σ) := by
  refine MD_of (by decide +kernel) rfl fun x C hE hT hcan => ?_
  have C : CX x cX8_roundFinding RX8 rmX8_roundFinding := C
  refine V_L (L' := [some (.ref (ad E 60)), some (.int p0)]) rfl ?_
  refine V_iload_n C dX8_roundFinding_0 rfl ?_
  refine V_iconst C 1 dX8_roundFinding_1 (by decide) ?_
  refine V_bipush C 12 dX8_roundFinding_2 (by decide) ?_
  refine V_cs C hE dX8_roundFinding_4 (c_X8_within) kyX8_within q270 rfl rfl rfl ?_
  refine V_ifne_b C dX8_roundFinding_7 (fun c7 => ?_) (fun c7 => ?_)
  · refine V_aload_n C dX8_roundFinding_12 rfl ?_
    refine V_sipush C 9700 dX8_roundFinding_13 (by decide) ?_
    refine V_cv C hE dX8_roundFinding_16 (c_X8_cannotStart) kyX8_cannotStart q472 (isoO 60 rfl rfl rfl rfl) rfl rfl rfl ?_
    refine V_ifeq_b C dX8_roundFinding_19 (fun c19 => ?_) (fun c19 => ?_)
    · refine V_iconst C (-1) dX8_roundFinding_26 (by decide) ?_
      exact V_iretD C dX8_roundFinding_27 hT (by first | (unfold finR; rw [if_pos c7]; done) | (unfold finR; rw [if_neg (fun q => q c7), if_pos c19]; done) | (unfold finR; rw [if_neg (fun q => q c7), if_neg c19]; done)) rfl
    · refine V_iconst C 4 dX8_roundFinding_22 (by decide) ?_
      refine V_goto C dX8_roundFinding_23 ?_
      exact V_iretD C dX8_roundFinding_27 hT (by first | (unfold finR; rw [if_pos c7]; done) | (unfold finR; rw [if_neg (fun q => q c7), if_pos c19]; done) | (unfold finR; rw [if_neg (fun q => q c7), if_neg c19]; done)) rfl
  · refine V_iconst C 0 dX8_roundFinding_10 (by decide) ?_
    exact V_iretD C dX8_roundFinding_11 hT (by first | (unfold finR; rw [if_pos c7]; done) | (unfold finR; rw [if_neg (fun q => q c7), if_pos c19]; done) | (unfold finR; rw [if_neg (fun q => q c7), if_neg c19]; done)) rfl

theorem c_X8_trial {l : Launch} {E : En} {σ : Sg}   : MD l yX8_trial cX8_trial 1 (some (.object "SledgeStove$Village")) rmX8_trial E [.ref (ad E 60)] σ (some (.ref (ad E (vb 2)))) (trS σ) := by
  refine MD_of (by decide +kernel) rfl fun x C hE hT hcan => ?_
  have C : CX x cX8_trial RX8 rmX8_trial := C
  refine V_L (L' := [some (.ref (ad E 60))]) rfl ?_
  refine V_aload_n C dX8_trial_0 rfl ?_
  refine V_get C dX8_trial_1 (rdX8_first) in_X8 (by decide) q234 rfl ?_
  refine V_aload_n C dX8_trial_4 rfl ?_
  refine V_get C dX8_trial_5 (rdX8_live) in_X8 (by decide) q232 rfl ?_
  refine V_cv0 C hE dX8_trial_8 (c_X5_be (v := 2) (w := 0) (by omega) (by omega) (by omega)) kyX5_be q447 (isoV (by first | assumption | omega)) rfl rfl rfl ?_
  refine V_aload_n C dX8_trial_11 rfl ?_
  refine V_get C dX8_trial_12 (rdX8_first) in_X8 (by decide) q234 rfl ?_
  exact V_aretD C dX8_trial_15 hT rfl rfl

