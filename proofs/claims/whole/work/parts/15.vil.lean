theorem c_X5_get {l : Launch} {E : En} {σ : Sg} {v : Nat} {i : Nat} (hv : v < 5) (hi : i < nh (σ v)) : MD l yX5_get cX5_get 2 (some (.object "SledgeStove$House")) rmX5_get E [.ref (ad E (vb v)), .int (nI i)] σ (some (.ref (ad E (hc v i)))) (σ) := by
  refine MD_of (by decide +kernel) rfl fun x C hE hT hcan => ?_
  have C : CX x cX5_get RX5 rmX5_get := C
  have h8 : nh (σ v) ≤ 8 := (hcan.1 v hv).2.1
  refine V_L (L' := [some (.ref (ad E (vb v))), some (.int (nI i))]) rfl ?_
  refine V_iload_n C dX5_get_0 rfl ?_
  refine V_if_lt C dX5_get_1 (fun c1 => absurd c1 (nI_pos (by omega))) (fun c1 => ?_)
  refine V_iload_n C dX5_get_4 rfl ?_
  refine V_aload_n C dX5_get_5 rfl ?_
  refine V_get C dX5_get_6 (rdV (by first | assumption | omega) 3 1 rfl rfl rfl) in_X5 (by decide) q132 rfl ?_
  refine V_icmp_ge C dX5_get_9 (fun c9 => absurd c9 (by rw [(hcan.1 v hv).1]; exact nI_ge (by omega) (by omega))) (fun c9 => ?_)
  refine V_iload_n C dX5_get_12 rfl ?_
  refine V_aload_n C dX5_get_13 rfl ?_
  refine V_get C dX5_get_14 (rdLane (by first | assumption | omega)) in_X5 (by decide) q129 rfl ?_
  refine V_alenQ C dX5_get_17 (rdLq hv) rfl ?_
  refine V_icmp_ge C dX5_get_18 (fun c18 => absurd c18 (nI_ge (b := 8) (by omega) (by decide))) (fun c18 => ?_)
  refine V_aload_n C dX5_get_21 rfl ?_
  refine V_get C dX5_get_22 (rdLane (by first | assumption | omega)) in_X5 (by decide) q129 rfl ?_
  refine V_iload_n C dX5_get_25 rfl ?_
  refine V_aald C dX5_get_26 (rdLq hv) (vp_in_nI (by omega) (by decide)) ?_
  refine V_st (st' := [.ref (ad E (hc v i))]) (by rw [nI_clamp (by omega), if_pos (show i < 8 by omega)]; rfl) ?_
  refine V_goto C dX5_get_27 ?_
  exact V_aretD C dX5_get_31 hT rfl rfl

theorem c_X5_getN {l : Launch} {E : En} {σ : Sg} {v : Nat} {p0 : Int32} (hv : v < 5) (hn : ¬ isH (σ v) p0) : MD l yX5_get cX5_get 2 (some (.object "SledgeStove$House")) rmX5_get E [.ref (ad E (vb v)), .int p0] σ (some (.null)) (σ) := by
  refine MD_of (by decide +kernel) rfl fun x C hE hT hcan => ?_
  have C : CX x cX5_get RX5 rmX5_get := C
  refine V_L (L' := [some (.ref (ad E (vb v))), some (.int p0)]) rfl ?_
  refine V_iload_n C dX5_get_0 rfl ?_
  refine V_if_lt C dX5_get_1 (fun c1 => ?_) (fun c1 => ?_)
  · refine V_null C dX5_get_30 ?_
    exact V_aretN C dX5_get_31 hT rfl rfl
  · refine V_iload_n C dX5_get_4 rfl ?_
    refine V_aload_n C dX5_get_5 rfl ?_
    refine V_get C dX5_get_6 (rdV (by first | assumption | omega) 3 1 rfl rfl rfl) in_X5 (by decide) q132 rfl ?_
    refine V_icmp_ge C dX5_get_9 (fun c9 => ?_) (fun c9 => absurd (Int32.not_lt.mp (fun q => hn ⟨Int32.not_lt.mp c1, q⟩)) c9)
    refine V_null C dX5_get_30 ?_
    exact V_aretN C dX5_get_31 hT rfl rfl

theorem c_X5_steepAt {l : Launch} {E : En} {σ : Sg} {v : Nat} {i : Nat} (hv : v < 5) (hi : i < 7) : MD l yX5_steepAt cX5_steepAt 2 (some .int) rmX5_steepAt E [.ref (ad E (vb v)), .int (nI i)] σ (some (.int (σ v (8+i)))) (σ) := by
  refine MD_of (by decide +kernel) rfl fun x C hE hT hcan => ?_
  have C : CX x cX5_steepAt RX5 rmX5_steepAt := C
  refine V_L (L' := [some (.ref (ad E (vb v))), some (.int (nI i))]) rfl ?_
  refine V_iload_n C dX5_steepAt_0 rfl ?_
  refine V_if_lt C dX5_steepAt_1 (fun c1 => absurd c1 (nI_pos (by omega))) (fun c1 => ?_)
  refine V_iload_n C dX5_steepAt_4 rfl ?_
  refine V_aload_n C dX5_steepAt_5 rfl ?_
  refine V_get C dX5_steepAt_6 (rdSteeps (by first | assumption | omega)) in_X5 (by decide) q130 rfl ?_
  refine V_alen C dX5_steepAt_9 (rdStL hv) rfl ?_
  refine V_icmp_ge C dX5_steepAt_10 (fun c10 => absurd c10 (nI_ge (b := 7) (by omega) (by decide))) (fun c10 => ?_)
  refine V_aload_n C dX5_steepAt_13 rfl ?_
  refine V_get C dX5_steepAt_14 (rdSteeps (by first | assumption | omega)) in_X5 (by decide) q130 rfl ?_
  refine V_iload_n C dX5_steepAt_17 rfl ?_
  refine V_ialdN C i rfl (hi) (by omega) dX5_steepAt_18 (rdSt hv hi) ?_
  refine V_goto C dX5_steepAt_19 ?_
  exact V_iretD C dX5_steepAt_23 hT rfl rfl

theorem c_X5_spotAt {l : Launch} {E : En} {σ : Sg} {v : Nat} {i : Nat} (hv : v < 5) (hi : i < 10) : MD l yX5_spotAt cX5_spotAt 2 (some .int) rmX5_spotAt E [.ref (ad E (vb v)), .int (nI i)] σ (some (.int (σ v (63+i)))) (σ) := by
  refine MD_of (by decide +kernel) rfl fun x C hE hT hcan => ?_
  have C : CX x cX5_spotAt RX5 rmX5_spotAt := C
  refine V_L (L' := [some (.ref (ad E (vb v))), some (.int (nI i))]) rfl ?_
  refine V_iload_n C dX5_spotAt_0 rfl ?_
  refine V_if_lt C dX5_spotAt_1 (fun c1 => absurd c1 (nI_pos (by omega))) (fun c1 => ?_)
  refine V_iload_n C dX5_spotAt_4 rfl ?_
  refine V_aload_n C dX5_spotAt_5 rfl ?_
  refine V_get C dX5_spotAt_6 (rdSpots (by first | assumption | omega)) in_X5 (by decide) q131 rfl ?_
  refine V_alen C dX5_spotAt_9 (rdSpL hv) rfl ?_
  refine V_icmp_ge C dX5_spotAt_10 (fun c10 => absurd c10 (nI_ge (b := 10) (by omega) (by decide))) (fun c10 => ?_)
  refine V_aload_n C dX5_spotAt_13 rfl ?_
  refine V_get C dX5_spotAt_14 (rdSpots (by first | assumption | omega)) in_X5 (by decide) q131 rfl ?_
  refine V_iload_n C dX5_spotAt_17 rfl ?_
  refine V_ialdN C i rfl (hi) (by omega) dX5_spotAt_18 (rdSp hv hi) ?_
  refine V_goto C dX5_spotAt_19 ?_
  exact V_iretD C dX5_spotAt_23 hT rfl rfl

theorem c_X5_putSteep {l : Launch} {E : En} {σ : Sg} {v : Nat} {i : Nat} {p1 : Int32} (hv : v < 5) (hi : i < 7) : MD l yX5_putSteep cX5_putSteep 3 none rmX5_putSteep E [.ref (ad E (vb v)), .int (nI i), .int p1] σ none (us σ v (upd (σ v) (8+i) p1)) := by
  refine MD_of (by decide +kernel) rfl fun x C hE hT hcan => ?_
  have C : CX x cX5_putSteep RX5 rmX5_putSteep := C
  refine V_L (L' := [some (.ref (ad E (vb v))), some (.int (nI i)), some (.int p1)]) rfl ?_
  refine V_iload_n C dX5_putSteep_0 rfl ?_
  refine V_if_lt C dX5_putSteep_1 (fun c1 => absurd c1 (nI_pos (by omega))) (fun c1 => ?_)
  refine V_iload_n C dX5_putSteep_4 rfl ?_
  refine V_aload_n C dX5_putSteep_5 rfl ?_
  refine V_get C dX5_putSteep_6 (rdSteeps (by first | assumption | omega)) in_X5 (by decide) q130 rfl ?_
  refine V_alen C dX5_putSteep_9 (rdStL hv) rfl ?_
  refine V_icmp_ge C dX5_putSteep_10 (fun c10 => absurd c10 (nI_ge (b := 7) (by omega) (by decide))) (fun c10 => ?_)
  refine V_aload_n C dX5_putSteep_13 rfl ?_
  refine V_get C dX5_putSteep_14 (rdSteeps (by first | assumption | omega)) in_X5 (by decide) q130 rfl ?_
  refine V_iload_n C dX5_putSteep_17 rfl ?_
  refine V_iload_n C dX5_putSteep_18 rfl ?_
  refine V_iastN C i rfl (hi) (by omega) dX5_putSteep_19 (wrSt hv hi) ?_
  exact V_retD C dX5_putSteep_20 hT rfl

theorem c_X5_putSpot {l : Launch} {E : En} {σ : Sg} {v : Nat} {i : Nat} {p1 : Int32} (hv : v < 5) (hi : i < 10) : MD l yX5_putSpot cX5_putSpot 3 none rmX5_putSpot E [.ref (ad E (vb v)), .int (nI i), .int p1] σ none (us σ v (upd (σ v) (63+i) p1)) := by
  refine MD_of (by decide +kernel) rfl fun x C hE hT hcan => ?_
  have C : CX x cX5_putSpot RX5 rmX5_putSpot := C
  refine V_L (L' := [some (.ref (ad E (vb v))), some (.int (nI i)), some (.int p1)]) rfl ?_
  refine V_iload_n C dX5_putSpot_0 rfl ?_
  refine V_if_lt C dX5_putSpot_1 (fun c1 => absurd c1 (nI_pos (by omega))) (fun c1 => ?_)
  refine V_iload_n C dX5_putSpot_4 rfl ?_
  refine V_aload_n C dX5_putSpot_5 rfl ?_
  refine V_get C dX5_putSpot_6 (rdSpots (by first | assumption | omega)) in_X5 (by decide) q131 rfl ?_
  refine V_alen C dX5_putSpot_9 (rdSpL hv) rfl ?_
  refine V_icmp_ge C dX5_putSpot_10 (fun c10 => absurd c10 (nI_ge (b := 10) (by omega) (by decide))) (fun c10 => ?_)
  refine V_aload_n C dX5_putSpot_13 rfl ?_
  refine V_get C dX5_putSpot_14 (rdSpots (by first | assumption | omega)) in_X5 (by decide) q131 rfl ?_
  refine V_iload_n C dX5_putSpot_17 rfl ?_
  refine V_iload_n C dX5_putSpot_18 rfl ?_
  refine V_iastN C i rfl (hi) (by omega) dX5_putSpot_19 (wrSp hv hi) ?_
  exact V_retD C dX5_putSpot_20 hT rfl

theorem c_X5_spotsHeld {l : Launch} {E : En} {σ : Sg} {v : Nat} (hv : v < 5) : MD l yX5_spotsHeld cX5_spotsHeld 3 (some .int) rmX5_spotsHeld E [.ref (ad E (vb v))] σ (some (.int (heldN (σ v) 10))) (σ) := by
  refine MD_of (by decide +kernel) rfl fun x C hE hT hcan => ?_
  have C : CX x cX5_spotsHeld RX5 rmX5_spotsHeld := C
  refine V_L (L' := [some (.ref (ad E (vb v))), none, none]) rfl ?_
  have lp : ∀ (d i : Nat), i + d = 10 → V x (eA E) (AP x E (σ)) 0 0 4 [some (.ref (ad E (vb v))), some (.int (heldN (σ v) i)), some (.int (nI i))] [] := by
    intro d
    induction d with
    | zero =>
      intro i hi'
      have hN : i = 10 := by omega
      refine V_iload_n C dX5_spotsHeld_4 rfl ?_
      refine V_aload_n C dX5_spotsHeld_5 rfl ?_
      refine V_get C dX5_spotsHeld_6 (rdSpots (by first | assumption | omega)) in_X5 (by decide) q131 rfl ?_
      refine V_alen C dX5_spotsHeld_9 (rdSpL hv) rfl ?_
      refine V_icmp_ge C dX5_spotsHeld_10 (fun c10 => ?_) (fun c10 => absurd (nI_le (a := 10) (by omega) (by omega)) c10)
      refine V_iload_n C dX5_spotsHeld_32 rfl ?_
      exact V_iretD C dX5_spotsHeld_33 hT (by rw [hN]) rfl
    | succ d ih =>
      intro i hi'
      refine V_iload_n C dX5_spotsHeld_4 rfl ?_
      refine V_aload_n C dX5_spotsHeld_5 rfl ?_
      refine V_get C dX5_spotsHeld_6 (rdSpots (by first | assumption | omega)) in_X5 (by decide) q131 rfl ?_
      refine V_alen C dX5_spotsHeld_9 (rdSpL hv) rfl ?_
      refine V_icmp_ge C dX5_spotsHeld_10 (fun c10 => absurd c10 (nI_ge (b := 10) (by omega) (by decide))) (fun c10 => ?_)
      refine V_aload_n C dX5_spotsHeld_13 rfl ?_
      refine V_get C dX5_spotsHeld_14 (rdSpots (by first | assumption | omega)) in_X5 (by decide) q131 rfl ?_
      refine V_iload_n C dX5_spotsHeld_17 rfl ?_
      refine V_ialdN C i rfl (by omega) (by omega) dX5_spotsHeld_18 (rdSp hv (by omega)) ?_
      refine V_iconst C (-1) dX5_spotsHeld_19 (by decide) ?_
      refine V_icmp_eq C dX5_spotsHeld_20 (fun c20 => ?_) (fun c20 => ?_)
      · refine V_iinc C 1 dX5_spotsHeld_26 rfl (by decide) rfl ?_
        refine V_goto C dX5_spotsHeld_29 ?_
        exact V_nx rfl (by simp [heldN, ← nI_1, c20] <;> rfl) (ih (i + 1) (by omega))
      · refine V_iinc C 1 dX5_spotsHeld_23 rfl (by decide) rfl ?_
        refine V_iinc C 1 dX5_spotsHeld_26 rfl (by decide) rfl ?_
        refine V_goto C dX5_spotsHeld_29 ?_
        exact V_nx rfl (by simp [heldN, ← nI_1, c20] <;> rfl) (ih (i + 1) (by omega))
  refine V_iconst C 0 dX5_spotsHeld_0 (by decide) ?_
  refine V_istore_n C dX5_spotsHeld_1 rfl ?_
  refine V_iconst C 0 dX5_spotsHeld_2 (by decide) ?_
  refine V_istore_n C dX5_spotsHeld_3 rfl ?_
  exact lp 10 0 rfl

theorem c_X5_between {l : Launch} {E : En} {σ : Sg} {v : Nat} {a b : Nat} (hv : v < 5) (ha : a ≤ 7) (hb : b ≤ 7) : MD l yX5_between cX5_between 6 (some .int) rmX5_between E [.ref (ad E (vb v)), .int (nI a), .int (nI b)] σ (some (.int (wayF (σ v) a b))) (σ) := by
  refine MD_of (by decide +kernel) rfl fun x C hE hT hcan => ?_
  have C : CX x cX5_between RX5 rmX5_between := C
  refine V_L (L' := [some (.ref (ad E (vb v))), some (.int (nI a)), some (.int (nI b)), none, none, none]) rfl ?_
  have lp : ∀ (d i : Nat), i + d = max a b - min a b → V x (eA E) (AP x E (σ)) 0 0 16 [some (.ref (ad E (vb v))), some (.int (nI a)), some (.int (nI b)), some (.int (wayN (σ v) (min a b) i)), some (.int (nI (max a b))), some (.int (nI (min a b + i)))] [] := by
    intro d
    induction d with
    | zero =>
      intro i hi'
      have hN : i = max a b - min a b := by omega
      refine V_iload C dX5_between_16 rfl ?_
      refine V_iload C dX5_between_18 rfl ?_
      refine V_icmp_ge C dX5_between_20 (fun c20 => ?_) (fun c20 => absurd (nI_le (a := max a b) (by omega) (by omega)) c20)
      refine V_iload_n C dX5_between_43 rfl ?_
      exact V_iretD C dX5_between_44 hT (by rw [hN]; rfl) rfl
    | succ d ih =>
      intro i hi'
      refine V_iload C dX5_between_16 rfl ?_
      refine V_iload C dX5_between_18 rfl ?_
      refine V_icmp_ge C dX5_between_20 (fun c20 => absurd c20 (nI_ge (b := max a b) (by omega) (by omega))) (fun c20 => ?_)
      refine V_iload_n C dX5_between_23 rfl ?_
      refine V_aload_n C dX5_between_24 rfl ?_
      refine V_iload C dX5_between_25 rfl ?_
      refine V_cv C hE dX5_between_27 (c_X5_steepAt hv (by omega)) kyX5_steepAt q363 (isoV (by first | assumption | omega)) rfl rfl rfl ?_
      refine V_aload_n C dX5_between_30 rfl ?_
      refine V_get C dX5_between_31 (rdV (by first | assumption | omega) 4 5 rfl rfl rfl) in_X5 (by decide) q135 rfl ?_
      refine V_iadd C dX5_between_34 ?_
      refine V_iadd C dX5_between_35 ?_
      refine V_istore_n C dX5_between_36 rfl ?_
      refine V_iinc C 1 dX5_between_37 rfl (by decide) rfl ?_
      refine V_goto C dX5_between_40 ?_
      exact V_nx rfl (by simp [wayN, ← nI_1, ← Nat.add_assoc] <;> rfl) (ih (i + 1) (by omega))
  refine V_iconst C 0 dX5_between_0 (by decide) ?_
  refine V_istore_n C dX5_between_1 rfl ?_
  refine V_iload_n C dX5_between_2 rfl ?_
  refine V_iload_n C dX5_between_3 rfl ?_
  refine V_mmax C dX5_between_4 q357 q358 q69 q359 rfl rfl (Nat.zero_le _) (Nat.zero_le _) ?_
  rw [mx_nI (by omega) (by omega)]
  refine V_istore C dX5_between_7 rfl ?_
  refine V_iload_n C dX5_between_9 rfl ?_
  refine V_iload_n C dX5_between_10 rfl ?_
  refine V_mmin C dX5_between_11 q360 q361 q69 q362 rfl rfl (Nat.zero_le _) (Nat.zero_le _) ?_
  rw [mn_nI (by omega) (by omega)]
  refine V_istore C dX5_between_14 rfl ?_
  exact lp (max a b - min a b) 0 (by omega)

theorem c_X5_go {l : Launch} {E : En} {σ : Sg} {v : Nat} {b : Nat} (hv : v < 5) (hat : σ v 2 = nI (hx (σ v))) (ha : hx (σ v) ≤ 7) (hb : b ≤ 7) : MD l yX5_go cX5_go 2 (some .int) rmX5_go E [.ref (ad E (vb v)), .int (nI b)] σ (some (.int (wayF (σ v) (hx (σ v)) b))) (us σ v (goF (σ v) b)) := by
  refine MD_of (by decide +kernel) rfl fun x C hE hT hcan => ?_
  have C : CX x cX5_go RX5 rmX5_go := C
  refine V_L (L' := [some (.ref (ad E (vb v))), some (.int (nI b))]) rfl ?_
  refine V_aload_n C dX5_go_0 rfl ?_
  refine V_aload_n C dX5_go_1 rfl ?_
  refine V_aload_n C dX5_go_2 rfl ?_
  refine V_get C dX5_go_3 (rdV (by first | assumption | omega) 6 2 rfl rfl rfl) in_X5 (by decide) q141 rfl ?_
  refine V_st (st' := [.int (nI (hx (σ v))), .ref (ad E (vb v)), .ref (ad E (vb v))]) (by rw [hat]) ?_
  refine V_iload_n C dX5_go_6 rfl ?_
  refine V_cv C hE dX5_go_7 (c_X5_between hv ha hb) kyX5_between q372 (isoV (by first | assumption | omega)) rfl rfl rfl ?_
  try simp only [us_us, us_s]
  refine V_put C dX5_go_10 (wrV (by first | assumption | omega) 7 3 rfl rfl rfl) ft_X5 (by decide) q143 rfl rfl rfl rfl ?_
  try simp only [us_us, us_s]
  refine V_aload_n C dX5_go_13 rfl ?_
  refine V_iload_n C dX5_go_14 rfl ?_
  refine V_put C dX5_go_15 (wrV (by first | assumption | omega) 6 2 rfl rfl rfl) ft_X5 (by decide) q141 rfl rfl rfl rfl ?_
  try simp only [us_us, us_s]
  refine V_aload_n C dX5_go_18 rfl ?_
  refine V_get C dX5_go_19 (rdV (by first | assumption | omega) 7 3 rfl rfl rfl) in_X5 (by decide) q143 rfl ?_
  exact V_iretD C dX5_go_22 hT (by rw [us_s, upd_n (by decide), upd_s]) rfl

theorem c_X5_isCold {l : Launch} {E : En} {σ : Sg} {v : Nat} {i : Nat} (hv : v < 5) (hi : i < nh (σ v)) : MD l yX5_isCold cX5_isCold 3 (some .boolean) rmX5_isCold E [.ref (ad E (vb v)), .int (nI i)] σ (some (.int (bI (coldV (hf (σ v) i 0) (hf (σ v) i 1) (hf (σ v) i 4))))) (σ) := by
  refine MD_of (by decide +kernel) rfl fun x C hE hT hcan => ?_
  have C : CX x cX5_isCold RX5 rmX5_isCold := C
  have h8 : nh (σ v) ≤ 8 := (hcan.1 v hv).2.1
  have hi8 : i < 8 := by omega
  refine V_L (L' := [some (.ref (ad E (vb v))), some (.int (nI i)), none]) rfl ?_
  refine V_aload_n C dX5_isCold_0 rfl ?_
  refine V_iload_n C dX5_isCold_1 rfl ?_
  refine V_cv C hE dX5_isCold_2 (c_X5_get hv hi) kyX5_get q282 (isoV (by first | assumption | omega)) rfl rfl rfl ?_
  refine V_astore_n C dX5_isCold_5 rfl ?_
  refine V_aload_n C dX5_isCold_6 rfl ?_
  refine V_ifnull C dX5_isCold_7 ?_
  refine V_aload_n C dX5_isCold_10 rfl ?_
  refine V_cv C hE dX5_isCold_11 (c_X1_isCold hv hi) kyX1_isCold q431 (isoH (by first | assumption | omega) (by first | assumption | omega)) rfl rfl rfl ?_
  refine V_ifeq_b C dX5_isCold_14 (fun c14 => ?_) (fun c14 => ?_)
  · refine V_iconst C 0 dX5_isCold_21 (by decide) ?_
    exact V_zretD C dX5_isCold_22 hT (by simp [bI, c14]) rfl
  · refine V_iconst C 1 dX5_isCold_17 (by decide) ?_
    refine V_goto C dX5_isCold_18 ?_
    exact V_zretD C dX5_isCold_22 hT (by simp [bI, c14]) rfl

theorem c_X5_coldSet {l : Launch} {E : En} {σ : Sg} {v : Nat} (hv : v < 5) : MD l yX5_coldSet cX5_coldSet 3 (some .int) rmX5_coldSet E [.ref (ad E (vb v))] σ (some (.int (setF (σ v)))) (σ) := by
  refine MD_of (by decide +kernel) rfl fun x C hE hT hcan => ?_
  have C : CX x cX5_coldSet RX5 rmX5_coldSet := C
  have h8 : nh (σ v) ≤ 8 := (hcan.1 v hv).2.1
  refine V_L (L' := [some (.ref (ad E (vb v))), none, none]) rfl ?_
  have lp : ∀ (d i : Nat), i + d = nh (σ v) → V x (eA E) (AP x E (σ)) 0 0 4 [some (.ref (ad E (vb v))), some (.int (setN (σ v) i)), some (.int (nI i))] [] := by
    intro d
    induction d with
    | zero =>
      intro i hi'
      have hN : i = nh (σ v) := by omega
      refine V_iload_n C dX5_coldSet_4 rfl ?_
      refine V_aload_n C dX5_coldSet_5 rfl ?_
      refine V_get C dX5_coldSet_6 (rdV (by first | assumption | omega) 3 1 rfl rfl rfl) in_X5 (by decide) q132 rfl ?_
      refine V_icmp_ge C dX5_coldSet_9 (fun c9 => ?_) (fun c9 => absurd (by rw [(hcan.1 v hv).1, hN]; exact nI_le (Nat.le_refl _) (by omega)) c9)
      refine V_iload_n C dX5_coldSet_32 rfl ?_
      exact V_iretD C dX5_coldSet_33 hT (by rw [hN]; rfl) rfl
    | succ d ih =>
      intro i hi'
      have hlt : i < nh (σ v) := by omega
      have hi8 : i < 8 := by omega
      refine V_iload_n C dX5_coldSet_4 rfl ?_
      refine V_aload_n C dX5_coldSet_5 rfl ?_
      refine V_get C dX5_coldSet_6 (rdV (by first | assumption | omega) 3 1 rfl rfl rfl) in_X5 (by decide) q132 rfl ?_
      refine V_icmp_ge C dX5_coldSet_9 (fun c9 => absurd c9 (by rw [(hcan.1 v hv).1]; exact nI_ge (by omega) (by omega))) (fun c9 => ?_)
      refine V_aload_n C dX5_coldSet_12 rfl ?_
      refine V_iload_n C dX5_coldSet_13 rfl ?_
      refine V_cv C hE dX5_coldSet_14 (c_X5_isCold hv hlt) kyX5_isCold q427 (isoV (by first | assumption | omega)) rfl rfl rfl ?_
      refine V_ifeq_b C dX5_coldSet_17 (fun c17 => ?_) (fun c17 => ?_)
      · refine V_iinc C 1 dX5_coldSet_26 rfl (by decide) rfl ?_
        refine V_goto C dX5_coldSet_29 ?_
        exact V_nx rfl (by simp [setN, ← nI_1, c17] <;> rfl) (ih (i + 1) (by omega))
      · refine V_iload_n C dX5_coldSet_20 rfl ?_
        refine V_iconst C 1 dX5_coldSet_21 (by decide) ?_
        refine V_iload_n C dX5_coldSet_22 rfl ?_
        refine V_ishl C dX5_coldSet_23 ?_
        refine V_ior C dX5_coldSet_24 ?_
        refine V_istore_n C dX5_coldSet_25 rfl ?_
        refine V_iinc C 1 dX5_coldSet_26 rfl (by decide) rfl ?_
        refine V_goto C dX5_coldSet_29 ?_
        exact V_nx rfl (by simp [setN, ← nI_1, c17] <;> rfl) (ih (i + 1) (by omega))
  refine V_iconst C 0 dX5_coldSet_0 (by decide) ?_
  refine V_istore_n C dX5_coldSet_1 rfl ?_
  refine V_iconst C 0 dX5_coldSet_2 (by decide) ?_
  refine V_istore_n C dX5_coldSet_3 rfl ?_
  exact lp (nh (σ v)) 0 (by omega)

theorem c_X5_leastWarmth {l : Launch} {E : En} {σ : Sg} {v : Nat} (hv : v < 5) : MD l yX5_leastWarmth cX5_leastWarmth 4 (some .int) rmX5_leastWarmth E [.ref (ad E (vb v))] σ (some (.int (lstF (σ v)))) (σ) := by
  refine MD_of (by decide +kernel) rfl fun x C hE hT hcan => ?_
  have C : CX x cX5_leastWarmth RX5 rmX5_leastWarmth := C
  have h8 : nh (σ v) ≤ 8 := (hcan.1 v hv).2.1
  refine V_L (L' := [some (.ref (ad E (vb v))), none, none, none]) rfl ?_
  have lp : ∀ (d i : Nat), i + d = nh (σ v) → V x (eA E) (AP x E (σ)) 0 0 6 [some (.ref (ad E (vb v))), some (.int (lstN (σ v) 400 i)), some (.int (nI i)), none] [] := by
    intro d
    induction d with
    | zero =>
      intro i hi'
      have hN : i = nh (σ v) := by omega
      refine V_iload_n C dX5_leastWarmth_6 rfl ?_
      refine V_aload_n C dX5_leastWarmth_7 rfl ?_
      refine V_get C dX5_leastWarmth_8 (rdV (by first | assumption | omega) 3 1 rfl rfl rfl) in_X5 (by decide) q132 rfl ?_
      refine V_icmp_ge C dX5_leastWarmth_11 (fun c11 => ?_) (fun c11 => absurd (by rw [(hcan.1 v hv).1, hN]; exact nI_le (Nat.le_refl _) (by omega)) c11)
      refine V_iload_n C dX5_leastWarmth_46 rfl ?_
      exact V_iretD C dX5_leastWarmth_47 hT (by rw [hN]; rfl) rfl
    | succ d ih =>
      intro i hi'
      have hlt : i < nh (σ v) := by omega
      have hi8 : i < 8 := by omega
      refine V_iload_n C dX5_leastWarmth_6 rfl ?_
      refine V_aload_n C dX5_leastWarmth_7 rfl ?_
      refine V_get C dX5_leastWarmth_8 (rdV (by first | assumption | omega) 3 1 rfl rfl rfl) in_X5 (by decide) q132 rfl ?_
      refine V_icmp_ge C dX5_leastWarmth_11 (fun c11 => absurd c11 (by rw [(hcan.1 v hv).1]; exact nI_ge (by omega) (by omega))) (fun c11 => ?_)
      refine V_aload_n C dX5_leastWarmth_14 rfl ?_
      refine V_iload_n C dX5_leastWarmth_15 rfl ?_
      refine V_cv C hE dX5_leastWarmth_16 (c_X5_get hv hlt) kyX5_get q282 (isoV (by first | assumption | omega)) rfl rfl rfl ?_
      refine V_astore_n C dX5_leastWarmth_19 rfl ?_
      refine V_aload_n C dX5_leastWarmth_20 rfl ?_
      refine V_ifnull C dX5_leastWarmth_21 ?_
      refine V_aload_n C dX5_leastWarmth_24 rfl ?_
      refine V_cv C hE dX5_leastWarmth_25 (c_X1_needs hv hlt) kyX1_needs q462 (isoH (by first | assumption | omega) (by first | assumption | omega)) rfl rfl rfl ?_
      refine V_ifeq_b C dX5_leastWarmth_28 (fun c28 => ?_) (fun c28 => ?_)
      · refine V_forget 3 ?_
        refine V_iinc C 1 dX5_leastWarmth_40 rfl (by decide) rfl ?_
        refine V_goto C dX5_leastWarmth_43 ?_
        exact V_nx rfl (by simp [lstN, ← nI_1, c28] <;> rfl) (ih (i + 1) (by omega))
      · refine V_iload_n C dX5_leastWarmth_31 rfl ?_
        refine V_aload_n C dX5_leastWarmth_32 rfl ?_
        refine V_getN C hE.nw dX5_leastWarmth_33 (rdH (by first | assumption | omega) (by first | assumption | omega) 1 rfl) in_X1 (by decide) q104 rfl ?_
        refine V_mmin C dX5_leastWarmth_36 q360 q361 q69 q362 rfl rfl (Nat.zero_le _) (Nat.zero_le _) ?_
        refine V_istore_n C dX5_leastWarmth_39 rfl ?_
        refine V_forget 3 ?_
        refine V_iinc C 1 dX5_leastWarmth_40 rfl (by decide) rfl ?_
        refine V_goto C dX5_leastWarmth_43 ?_
        exact V_nx rfl (by simp [lstN, ← nI_1, c28] <;> rfl) (ih (i + 1) (by omega))
  refine V_sipush C 400 dX5_leastWarmth_0 (by decide) ?_
  refine V_istore_n C dX5_leastWarmth_3 rfl ?_
  refine V_iconst C 0 dX5_leastWarmth_4 (by decide) ?_
  refine V_istore_n C dX5_leastWarmth_5 rfl ?_
  exact lp (nh (σ v)) 0 (by omega)

theorem c_X5_sum {l : Launch} {E : En} {σ : Sg} {v : Nat} {j : Nat} (hv : v < 5) (hj : j < 6) : MD l yX5_sum cX5_sum 5 (some .int) rmX5_sum E [.ref (ad E (vb v)), .int (nI j)] σ (some (.int (sumF (σ v) j))) (σ) := by
  refine MD_of (by decide +kernel) rfl fun x C hE hT hcan => ?_
  have C : CX x cX5_sum RX5 rmX5_sum := C
  have h8 : nh (σ v) ≤ 8 := (hcan.1 v hv).2.1
  refine V_L (L' := [some (.ref (ad E (vb v))), some (.int (nI j)), none, none, none]) rfl ?_
  have lp : ∀ (d i : Nat), i + d = nh (σ v) → V x (eA E) (AP x E (σ)) 0 0 4 [some (.ref (ad E (vb v))), some (.int (nI j)), some (.int (sumN (σ v) j i)), some (.int (nI i)), none] [] := by
    intro d
    induction d with
    | zero =>
      intro i hi'
      have hN : i = nh (σ v) := by omega
      refine V_iload_n C dX5_sum_4 rfl ?_
      refine V_aload_n C dX5_sum_5 rfl ?_
      refine V_get C dX5_sum_6 (rdV (by first | assumption | omega) 3 1 rfl rfl rfl) in_X5 (by decide) q132 rfl ?_
      refine V_icmp_ge C dX5_sum_9 (fun c9 => ?_) (fun c9 => absurd (by rw [(hcan.1 v hv).1, hN]; exact nI_le (Nat.le_refl _) (by omega)) c9)
      refine V_iload_n C dX5_sum_39 rfl ?_
      exact V_iretD C dX5_sum_40 hT (by rw [hN]; rfl) rfl
    | succ d ih =>
      intro i hi'
      have hlt : i < nh (σ v) := by omega
      have hi8 : i < 8 := by omega
      refine V_iload_n C dX5_sum_4 rfl ?_
      refine V_aload_n C dX5_sum_5 rfl ?_
      refine V_get C dX5_sum_6 (rdV (by first | assumption | omega) 3 1 rfl rfl rfl) in_X5 (by decide) q132 rfl ?_
      refine V_icmp_ge C dX5_sum_9 (fun c9 => absurd c9 (by rw [(hcan.1 v hv).1]; exact nI_ge (by omega) (by omega))) (fun c9 => ?_)
      refine V_aload_n C dX5_sum_12 rfl ?_
      refine V_iload_n C dX5_sum_13 rfl ?_
      refine V_cv C hE dX5_sum_14 (c_X5_get hv hlt) kyX5_get q282 (isoV (by first | assumption | omega)) rfl rfl rfl ?_
      refine V_astore C dX5_sum_17 rfl ?_
      refine V_aload C dX5_sum_19 rfl ?_
      refine V_ifnull C dX5_sum_21 ?_
      refine V_iload_n C dX5_sum_24 rfl ?_
      refine V_aload C dX5_sum_25 rfl ?_
      refine V_iload_n C dX5_sum_27 rfl ?_
      refine V_cv C hE dX5_sum_28 (c_X1_told hv hlt hj) kyX1_told q385 (isoH (by first | assumption | omega) (by first | assumption | omega)) rfl rfl rfl ?_
      refine V_iadd C dX5_sum_31 ?_
      refine V_istore_n C dX5_sum_32 rfl ?_
      refine V_forget 4 ?_
      refine V_iinc C 1 dX5_sum_33 rfl (by decide) rfl ?_
      refine V_goto C dX5_sum_36 ?_
      exact V_nx rfl (by simp [sumN, ← nI_1] <;> rfl) (ih (i + 1) (by omega))
  refine V_iconst C 0 dX5_sum_0 (by decide) ?_
  refine V_istore_n C dX5_sum_1 rfl ?_
  refine V_iconst C 0 dX5_sum_2 (by decide) ?_
  refine V_istore_n C dX5_sum_3 rfl ?_
  exact lp (nh (σ v)) 0 (by omega)

theorem c_X5_draw {l : Launch} {E : En} {σ : Sg} {v : Nat} (hv : v < 5) : MD l yX5_draw cX5_draw 1 (some .int) rmX5_draw E [.ref (ad E (vb v))] σ (some (.int (iush (drawF (σ v) 7) 8))) (us σ v (drawF (σ v))) := by
  refine MD_of (by decide +kernel) rfl fun x C hE hT hcan => ?_
  have C : CX x cX5_draw RX5 rmX5_draw := C
  refine V_L (L' := [some (.ref (ad E (vb v)))]) rfl ?_
  refine V_aload_n C dX5_draw_0 rfl ?_
  refine V_aload_n C dX5_draw_1 rfl ?_
  refine V_get C dX5_draw_2 (rdV (by first | assumption | omega) 10 7 rfl rfl rfl) in_X5 (by decide) q150 rfl ?_
  refine V_ldc C dX5_draw_5 q643 ?_
  refine V_imul C dX5_draw_7 ?_
  refine V_sipush C 12345 dX5_draw_8 (by decide) ?_
  refine V_iadd C dX5_draw_11 ?_
  refine V_put C dX5_draw_12 (wrV (by first | assumption | omega) 10 7 rfl rfl rfl) ft_X5 (by decide) q150 rfl rfl rfl rfl ?_
  try simp only [us_us, us_s]
  refine V_aload_n C dX5_draw_15 rfl ?_
  refine V_get C dX5_draw_16 (rdV (by first | assumption | omega) 10 7 rfl rfl rfl) in_X5 (by decide) q150 rfl ?_
  refine V_bipush C 8 dX5_draw_19 (by decide) ?_
  refine V_iushr C dX5_draw_21 ?_
  exact V_iretD C dX5_draw_22 hT (by simp only [us_s, drawF]) (by simp only [drawF])

