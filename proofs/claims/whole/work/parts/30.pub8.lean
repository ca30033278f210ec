/-- the post of an act that changes other cells -/
def PZ (σ : Sg) (S : Rs) (σ1 : Sg) : Option Value → Sg → Prop := fun r u => r = some (.int (rsI S)) ∧ EqX (us (match S with | .inl _ => σ | .inr _ => σ1) 62 (rsT (σ 62) S)) u
theorem PZ_fail {σ σ1 u : Sg} {S : Rs} {j : Nat} (hS : S = .inl j) (hu : EqX σ u) : PZ σ S σ1 (some (.int (-1000001 - nI j))) (us u 62 (upd (u 62) j (u 62 j + 1))) := by
  subst hS
  refine ⟨rfl, ?_⟩
  show EqX (us σ 62 (upd (σ 62) j (σ 62 j + 1))) _
  rw [hu 62 (by omega)]
  exact hu.both
theorem PZ_ok {σ σ1 u : Sg} {S : Rs} {v : Int32} (hS : S = .inr v) (h62 : σ1 62 = σ 62) (hu : EqX σ1 u) : PZ σ S σ1 (some (.int v)) u := by
  subst hS
  refine ⟨rfl, ?_⟩
  show EqX (us σ1 62 (σ 62)) u
  rw [← h62, us_id]; exact hu
def S_hold (f : Nat → Int32) (s h : Int32) : Rs := if inP s 0 9 then (if h = -1 then .inr 1 else if isH f h then .inr 1 else .inl 0) else .inl 0
def S_as (f : Nat → Int32) (s k : Int32) : Rs := if inP s 0 9 then (if inP k 0 6 then (if isH f (f (63 + hk s)) then (if isAV (hf f (hk (f (63 + hk s))) 0) k then .inr (f (63 + hk s)) else .inl 2) else .inl 5) else .inl 0) else .inl 0
def S_sheet (s b n : Int32) : Rs := if inP s 0 3 then (if b = 0 ∨ b = 8 ∨ b = 16 ∨ b = 32 then (if n < 0 then .inl 6 else if n ≤ 40 then .inr (if b = 0 then 0 else n) else .inl 0) else .inl 0) else .inl 0
def N_sheet (σ : Sg) (s : Nat) (b n : Int32) : Sg := us (us σ (shc s) (upd (upd (σ (shc s)) 1 b) 2 (if b = 0 then 0 else n))) (nmc s) (zeroN (σ (nmc s)) 40)
def S_write (σ : Sg) (s i : Int32) : Rs := if inP s 0 3 then (if σ (shc (hk s)) 1 = 0 then .inl 5 else if inP i 0 (σ (shc (hk s)) 2 - 1) then .inr 1 else .inl 0) else .inl 0
def N_write (σ : Sg) (s i : Nat) (v : Int32) : Sg := us σ (nmc s) (upd (σ (nmc s)) i (cutV (σ (shc s) 1) v))
def S_count (f : Nat → Int32) (t w : Int32) : Rs := if w = 0 then .inr (f 0) else if w = 1 then .inr (f 1) else if w = 2 then .inr (sumF f 3) else if w = 3 then .inr (sumF f 5) else if w = 4 then .inr (sumF f 1) else if w = 5 then .inr t else if w = 6 then .inr (f 7) else if w = 7 then .inr (heldN f 10) else .inl 0
def S_undo (σ : Sg) : Rs := if σ 60 10 = 0 then .inl 3 else .inr (σ 1 0)
def toN (t : Nat → Int32) : Nat → Int32
  | 0 => 0
  | i + 1 => toN t i + t i
def S_status (t : Nat → Int32) (w : Int32) : Rs := if inP w 0 6 then .inr (t (hk w)) else if w = -1 then .inr (toN t 7) else .inl 0
theorem sw7 (a : Int32) : a = 0 ∨ a = 1 ∨ a = 2 ∨ a = 3 ∨ a = 4 ∨ a = 5 ∨ a = 6 ∨ a = 7 ∨ (a.toInt < 0 ∨ 7 < a.toInt) := by
  rcases sw_x 7 (by omega) a with ⟨j, hj, rfl⟩ | h
  · rcases (show j = 0 ∨ j = 1 ∨ j = 2 ∨ j = 3 ∨ j = 4 ∨ j = 5 ∨ j = 6 ∨ j = 7 by omega) with rfl | rfl | rfl | rfl | rfl | rfl | rfl | rfl <;> simp [nI]
  · exact Or.inr (Or.inr (Or.inr (Or.inr (Or.inr (Or.inr (Or.inr (Or.inr h)))))))
theorem sw7n {a : Int32} (h : a.toInt < 0 ∨ 7 < a.toInt) : ¬ a = 0 ∧ ¬ a = 1 ∧ ¬ a = 2 ∧ ¬ a = 3 ∧ ¬ a = 4 ∧ ¬ a = 5 ∧ ¬ a = 6 ∧ ¬ a = 7 := by
  refine ⟨?_, ?_, ?_, ?_, ?_, ?_, ?_, ?_⟩ <;> (rintro rfl; revert h; decide)

theorem c_X8_sheetAt {l : Launch} {E : En} {σ : Sg} {s : Nat} (hs : s < 4) : MD l yX8_sheetAt cX8_sheetAt 2 (some (.object "SledgeStove$Sheet")) rmX8_sheetAt E [.ref (ad E 60), .int (nI s)] σ (some (.ref (ad E (shc s)))) (σ) := by
  refine MD_of (by decide +kernel) rfl fun x C hE hT hcan => ?_
  have C : CX x cX8_sheetAt RX8 rmX8_sheetAt := C
  refine V_L (L' := [some (.ref (ad E 60)), some (.int (nI s))]) rfl ?_
  refine V_iload_n C dX8_sheetAt_0 rfl ?_
  refine V_iconst C 0 dX8_sheetAt_1 (by decide) ?_
  refine V_aload_n C dX8_sheetAt_2 rfl ?_
  refine V_get C dX8_sheetAt_3 (rdO (j := 5) 60 rfl rfl rfl rfl rfl) in_X8 (by decide) q237 rfl ?_
  refine V_alenQ C dX8_sheetAt_6 (rdSheetsQ) rfl ?_
  refine V_iconst C 1 dX8_sheetAt_7 (by decide) ?_
  refine V_isub C dX8_sheetAt_8 ?_
  rw [i3]
  refine V_cs C hE dX8_sheetAt_9 (c_X8_within) kyX8_within q270 rfl rfl rfl ?_
  refine V_ifeq_b C dX8_sheetAt_12 (fun c12 => absurd (⟨nI_pos' (by omega), nI_le (by omega) (by omega)⟩) c12) (fun c12 => ?_)
  refine V_aload_n C dX8_sheetAt_15 rfl ?_
  refine V_get C dX8_sheetAt_16 (rdO (j := 5) 60 rfl rfl rfl rfl rfl) in_X8 (by decide) q237 rfl ?_
  refine V_iload_n C dX8_sheetAt_19 rfl ?_
  refine V_aald C dX8_sheetAt_20 rdSheetsQ (vp_in_nI hs (by decide)) ?_
  refine V_st (st' := [.ref (ad E (shc s))]) (by rw [nI_clamp (by omega), if_pos hs]; rfl) ?_
  refine V_goto C dX8_sheetAt_21 ?_
  exact V_aretD C dX8_sheetAt_25 hT rfl rfl

theorem c_X8_sheetAtN {l : Launch} {E : En} {σ : Sg} {p0 : Int32} (hn : ¬ inP p0 0 3) : MD l yX8_sheetAt cX8_sheetAt 2 (some (.object "SledgeStove$Sheet")) rmX8_sheetAt E [.ref (ad E 60), .int p0] σ (some (.null)) (σ) := by
  refine MD_of (by decide +kernel) rfl fun x C hE hT hcan => ?_
  have C : CX x cX8_sheetAt RX8 rmX8_sheetAt := C
  refine V_L (L' := [some (.ref (ad E 60)), some (.int p0)]) rfl ?_
  refine V_iload_n C dX8_sheetAt_0 rfl ?_
  refine V_iconst C 0 dX8_sheetAt_1 (by decide) ?_
  refine V_aload_n C dX8_sheetAt_2 rfl ?_
  refine V_get C dX8_sheetAt_3 (rdO (j := 5) 60 rfl rfl rfl rfl rfl) in_X8 (by decide) q237 rfl ?_
  refine V_alenQ C dX8_sheetAt_6 (rdSheetsQ) rfl ?_
  refine V_iconst C 1 dX8_sheetAt_7 (by decide) ?_
  refine V_isub C dX8_sheetAt_8 ?_
  rw [i3]
  refine V_cs C hE dX8_sheetAt_9 (c_X8_within) kyX8_within q270 rfl rfl rfl ?_
  refine V_ifeq_b C dX8_sheetAt_12 (fun c12 => ?_) (fun c12 => absurd c12 (hn))
  refine V_null C dX8_sheetAt_24 ?_
  exact V_aretN C dX8_sheetAt_25 hT rfl rfl

theorem c_X8_hold {l : Launch} {E : En} {σ : Sg} {p0 p1 : Int32}  : MN l yX8_hold cX8_hold 3 (some .int) rmX8_hold E [.ref (ad E 60), .int p0, .int p1] σ (PX σ (S_hold (σ 0) p0 p1) (upd (σ 0) (63 + hk p0) p1)) := by
  refine MN_of (by decide +kernel) rfl fun x C hE hT hcan => ?_
  have C : CX x cX8_hold RX8 rmX8_hold := C
  refine V_L (L' := [some (.ref (ad E 60)), some (.int p0), some (.int p1)]) rfl ?_
  refine V_iload_n C dX8_hold_0 rfl ?_
  refine V_iconst C 0 dX8_hold_1 (by decide) ?_
  refine V_bipush C 9 dX8_hold_2 (by decide) ?_
  refine V_cs C hE dX8_hold_4 (c_X8_within) kyX8_within q270 rfl rfl rfl ?_
  refine V_ifeq_b C dX8_hold_7 (fun c7 => ?_) (fun c7 => ?_)
  · refine V_aload_n C dX8_hold_26 rfl ?_
    refine V_iconst C 0 dX8_hold_27 (by decide) ?_
    refine V_cv C hE dX8_hold_28 (c_X8_fail (j := 0) (by omega)) kyX8_fail q273 (isoO 60 rfl rfl rfl rfl) rfl rfl rfl ?_
    exact V_iretN C dX8_hold_31 hT (PX_fail (by unfold S_hold; all_goals (first | rw [if_pos c7] | rw [if_neg c7])) (EqX.rf σ))
  · refine V_iload_n C dX8_hold_10 rfl ?_
    refine V_iconst C (-1) dX8_hold_11 (by decide) ?_
    refine V_icmp_eq C dX8_hold_12 (fun c12 => ?_) (fun c12 => ?_)
    · obtain ⟨w, rfl, hw⟩ := i32_le (m := 9) (by omega) c7.1 c7.2
      refine V_aload_n C dX8_hold_32 rfl ?_
      refine V_get C dX8_hold_33 (rdX8_live) in_X8 (by decide) q232 rfl ?_
      refine V_iload_n C dX8_hold_36 rfl ?_
      refine V_iload_n C dX8_hold_37 rfl ?_
      refine V_cv0 C hE dX8_hold_38 (c_X5_putSpot (v := 0) (i := w) (by omega) (by omega)) kyX5_putSpot q793 (isoV (by first | assumption | omega)) rfl rfl rfl ?_
      refine V_iconst C 1 dX8_hold_41 (by decide) ?_
      exact V_iretN C dX8_hold_42 hT (PX_ok (by unfold S_hold; all_goals (first | rw [if_pos c7] | rw [if_neg c7]); all_goals (first | rw [if_pos c12] | rw [if_neg c12])) (by rw [hk_n (by omega)]; exact EqX.rf _))
    · by_cases hh : isH (σ 0) p1
      · obtain ⟨i, hi, rfl, hi8⟩ := isH_of (hcan.1 0 (by omega)) hh
        refine V_aload_n C dX8_hold_15 rfl ?_
        refine V_get C dX8_hold_16 (rdX8_live) in_X8 (by decide) q232 rfl ?_
        refine V_iload_n C dX8_hold_19 rfl ?_
        refine V_cv C hE dX8_hold_20 (c_X5_get (v := 0) (i := i) (by omega) hi) kyX5_get q294 (isoV (by first | assumption | omega)) rfl rfl rfl ?_
        refine V_ifnonnull C dX8_hold_23 ?_
        obtain ⟨w, rfl, hw⟩ := i32_le (m := 9) (by omega) c7.1 c7.2
        refine V_aload_n C dX8_hold_32 rfl ?_
        refine V_get C dX8_hold_33 (rdX8_live) in_X8 (by decide) q232 rfl ?_
        refine V_iload_n C dX8_hold_36 rfl ?_
        refine V_iload_n C dX8_hold_37 rfl ?_
        refine V_cv0 C hE dX8_hold_38 (c_X5_putSpot (v := 0) (i := w) (by omega) (by omega)) kyX5_putSpot q793 (isoV (by first | assumption | omega)) rfl rfl rfl ?_
        refine V_iconst C 1 dX8_hold_41 (by decide) ?_
        exact V_iretN C dX8_hold_42 hT (PX_ok (by unfold S_hold; all_goals (first | rw [if_pos c7] | rw [if_neg c7]); all_goals (first | rw [if_pos c12] | rw [if_neg c12]); all_goals (first | rw [if_pos hh] | rw [if_neg hh])) (by rw [hk_n (by omega)]; exact EqX.rf _))
      · refine V_aload_n C dX8_hold_15 rfl ?_
        refine V_get C dX8_hold_16 (rdX8_live) in_X8 (by decide) q232 rfl ?_
        refine V_iload_n C dX8_hold_19 rfl ?_
        refine V_cv C hE dX8_hold_20 (c_X5_getN (v := 0) (by omega) hh) kyX5_get q294 (isoV (by first | assumption | omega)) rfl rfl rfl ?_
        refine V_ifnonnullN C dX8_hold_23 ?_
        refine V_aload_n C dX8_hold_26 rfl ?_
        refine V_iconst C 0 dX8_hold_27 (by decide) ?_
        refine V_cv C hE dX8_hold_28 (c_X8_fail (j := 0) (by omega)) kyX8_fail q273 (isoO 60 rfl rfl rfl rfl) rfl rfl rfl ?_
        exact V_iretN C dX8_hold_31 hT (PX_fail (by unfold S_hold; all_goals (first | rw [if_pos c7] | rw [if_neg c7]); all_goals (first | rw [if_pos c12] | rw [if_neg c12]); all_goals (first | rw [if_pos hh] | rw [if_neg hh])) (EqX.rf σ))

theorem c_X8_as {l : Launch} {E : En} {σ : Sg} {p0 p1 : Int32}  : MN l yX8_as cX8_as 5 (some .int) rmX8_as E [.ref (ad E 60), .int p0, .int p1] σ (PX σ (S_as (σ 0) p0 p1) (σ 0)) := by
  refine MN_of (by decide +kernel) rfl fun x C hE hT hcan => ?_
  have C : CX x cX8_as RX8 rmX8_as := C
  refine V_L (L' := [some (.ref (ad E 60)), some (.int p0), some (.int p1), none, none]) rfl ?_
  refine V_iload_n C dX8_as_0 rfl ?_
  refine V_iconst C 0 dX8_as_1 (by decide) ?_
  refine V_bipush C 9 dX8_as_2 (by decide) ?_
  refine V_cs C hE dX8_as_4 (c_X8_within) kyX8_within q270 rfl rfl rfl ?_
  refine V_ifeq_b C dX8_as_7 (fun c7 => ?_) (fun c7 => ?_)
  · refine V_aload_n C dX8_as_20 rfl ?_
    refine V_iconst C 0 dX8_as_21 (by decide) ?_
    refine V_cv C hE dX8_as_22 (c_X8_fail (j := 0) (by omega)) kyX8_fail q273 (isoO 60 rfl rfl rfl rfl) rfl rfl rfl ?_
    exact V_iretN C dX8_as_25 hT (PX_fail (by unfold S_as; all_goals (first | rw [if_pos c7] | rw [if_neg c7])) (EqX.rf σ))
  · refine V_iload_n C dX8_as_10 rfl ?_
    refine V_iconst C 0 dX8_as_11 (by decide) ?_
    refine V_bipush C 6 dX8_as_12 (by decide) ?_
    refine V_cs C hE dX8_as_14 (c_X8_within) kyX8_within q270 rfl rfl rfl ?_
    refine V_ifne_b C dX8_as_17 (fun c17 => ?_) (fun c17 => ?_)
    · obtain ⟨w, rfl, hw⟩ := i32_le (m := 9) (by omega) c7.1 c7.2
      refine V_aload_n C dX8_as_26 rfl ?_
      refine V_get C dX8_as_27 (rdX8_live) in_X8 (by decide) q232 rfl ?_
      refine V_iload_n C dX8_as_30 rfl ?_
      refine V_cv C hE dX8_as_31 (c_X5_spotAt (v := 0) (i := w) (by omega) (by omega)) kyX5_spotAt q801 (isoV (by first | assumption | omega)) rfl rfl rfl ?_
      refine V_istore_n C dX8_as_34 rfl ?_
      refine V_aload_n C dX8_as_35 rfl ?_
      refine V_get C dX8_as_36 (rdX8_live) in_X8 (by decide) q232 rfl ?_
      refine V_iload_n C dX8_as_39 rfl ?_
      by_cases hh : isH (σ 0) (σ 0 (63 + w))
      · obtain ⟨i, hi, hie, hi8⟩ := isH_of (hcan.1 0 (by omega)) hh
        have hkw : hk (nI w) = w := hk_n (by omega)
        refine V_st (st' := [.int (nI i), .ref (ad E (vb 0))]) (by rw [hie]) ?_
        refine V_cv C hE dX8_as_40 (c_X5_get (v := 0) (i := i) (by omega) hi) kyX5_get q294 (isoV (by first | assumption | omega)) rfl rfl rfl ?_
        refine V_astore C dX8_as_43 rfl ?_
        refine V_aload C dX8_as_45 rfl ?_
        refine V_ifnonnull C dX8_as_47 ?_
        refine V_aload C dX8_as_56 rfl ?_
        refine V_iload_n C dX8_as_58 rfl ?_
        refine V_cv C hE dX8_as_59 (c_X1_isA (v := 0) (i := i) (by omega) hi) kyX1_isA q805 (isoH (by first | assumption | omega) (by first | assumption | omega)) rfl rfl rfl ?_
        refine V_ifeq_b C dX8_as_62 (fun c62 => ?_) (fun c62 => ?_)
        · refine V_aload_n C dX8_as_69 rfl ?_
          refine V_iconst C 2 dX8_as_70 (by decide) ?_
          refine V_cv C hE dX8_as_71 (c_X8_fail (j := 2) (by omega)) kyX8_fail q273 (isoO 60 rfl rfl rfl rfl) rfl rfl rfl ?_
          exact V_iretN C dX8_as_74 hT (PX_fail (by unfold S_as; rw [hkw]; all_goals (first | rw [if_pos c7] | rw [if_neg c7]); all_goals (first | rw [if_pos c17] | rw [if_neg c17]); all_goals (first | rw [if_pos hh] | rw [if_neg hh]); rw [hie, hk_nI hi8]; all_goals (first | rw [if_pos c62] | rw [if_neg c62])) (EqX.rf σ))
        · refine V_iload_n C dX8_as_65 rfl ?_
          refine V_goto C dX8_as_66 ?_
          exact V_iretN C dX8_as_74 hT (PX_rd (by unfold S_as; rw [hkw, if_pos c7, if_pos c17, if_pos hh, hie, hk_nI hi8, if_pos c62]) (EqX.rf σ))
      · have hkw : hk (nI w) = w := hk_n (by omega)
        refine V_cv C hE dX8_as_40 (c_X5_getN (v := 0) (by omega) hh) kyX5_get q294 (isoV (by first | assumption | omega)) rfl rfl rfl ?_
        refine V_astoreN C dX8_as_43 rfl ?_
        refine V_aloadN C dX8_as_45 rfl ?_
        refine V_ifnonnullN C dX8_as_47 ?_
        refine V_aload_n C dX8_as_50 rfl ?_
        refine V_iconst C 5 dX8_as_51 (by decide) ?_
        refine V_cv C hE dX8_as_52 (c_X8_fail (j := 5) (by omega)) kyX8_fail q273 (isoO 60 rfl rfl rfl rfl) rfl rfl rfl ?_
        exact V_iretN C dX8_as_55 hT (PX_fail (by unfold S_as; rw [hkw]; all_goals (first | rw [if_pos c7] | rw [if_neg c7]); all_goals (first | rw [if_pos c17] | rw [if_neg c17]); all_goals (first | rw [if_pos hh] | rw [if_neg hh])) (EqX.rf σ))
    · refine V_aload_n C dX8_as_20 rfl ?_
      refine V_iconst C 0 dX8_as_21 (by decide) ?_
      refine V_cv C hE dX8_as_22 (c_X8_fail (j := 0) (by omega)) kyX8_fail q273 (isoO 60 rfl rfl rfl rfl) rfl rfl rfl ?_
      exact V_iretN C dX8_as_25 hT (PX_fail (by unfold S_as; all_goals (first | rw [if_pos c7] | rw [if_neg c7]); all_goals (first | rw [if_pos c17] | rw [if_neg c17])) (EqX.rf σ))

