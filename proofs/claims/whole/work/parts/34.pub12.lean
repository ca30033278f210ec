def ldP (f g : Nat → Int32) (i : Nat) : Bool := !(decide (i < nh f) && decide (inP (g i) 0 99))
def ldK (f g : Nat → Int32) (n : Nat) : Nat := match fstN (ldP f g) n 0 with
  | some i => i
  | none => n
def ldF (f g : Nat → Int32) : Nat → Nat → Int32
  | 0 => f
  | i + 1 => uh (ldF f g i) i 3 (g i)
theorem ldF_lo {f g : Nat → Int32} {k : Nat} (hk : k < 15) : ∀ i, ldF f g i k = f k := by
  intro i
  induction i with
  | zero => rfl
  | succ i ih => exact (uh_lo hk).trans ih
theorem nh_ldF {f g : Nat → Int32} (i : Nat) : nh (ldF f g i) = nh f := by unfold nh; rw [ldF_lo (by omega)]
theorem ldK_some {f g : Nat → Int32} {n i : Nat} (h : i < n) (hp : ∀ j, 0 ≤ j → j < i → ldP f g j = false) (hi : ldP f g i = true) : ldK f g n = i := by
  unfold ldK; rw [fst_some n 0 i (by omega) (by omega) hp hi]
theorem ldK_none {f g : Nat → Int32} {n : Nat} (hp : ∀ j, 0 ≤ j → j < n → ldP f g j = false) : ldK f g n = n := by
  unfold ldK; rw [fst_none n 0 (fun j h1 h2 => hp j h1 (by omega))]
def S_load (σ : Sg) (s : Int32) : Rs := if inP s 0 3 then (if σ (shc (hk s)) 1 = 0 then .inl 5 else .inr (nI (ldK (σ 0) (σ (nmc (hk s))) (hk (σ (shc (hk s)) 2))))) else .inl 0
def N_load (σ : Sg) (s : Nat) : Nat → Int32 := ldF (σ 0) (σ (nmc s)) (ldK (σ 0) (σ (nmc s)) (hk (σ (shc s) 2)))

theorem c_X8_load {l : Launch} {E : En} {σ : Sg} {p0 : Int32}  (hln : ∀ s, s < 4 → ∃ n, n ≤ 40 ∧ σ (shc s) 2 = nI n) : MN l yX8_load cX8_load 7 (some .int) rmX8_load E [.ref (ad E 60), .int p0] σ (PX σ (S_load σ p0) (N_load σ (hk p0))) := by
  refine MN_of (by decide +kernel) rfl fun x C hE hT hcan => ?_
  have C : CX x cX8_load RX8 rmX8_load := C
  have hn1 := (hcan.1 0 (by omega)).1
  have h8 := (hcan.1 0 (by omega)).2.1
  refine V_L (L' := [some (.ref (ad E 60)), some (.int p0), none, none, none, none, none]) rfl ?_
  refine V_aload_n C dX8_load_0 rfl ?_
  refine V_iload_n C dX8_load_1 rfl ?_
  by_cases hq : inP p0 0 3
  · obtain ⟨s, rfl, hs3⟩ := i32_le (m := 3) (by omega) hq.1 hq.2
    have hs : s < 4 := by omega
    refine V_cv C hE dX8_load_2 (c_X8_sheetAt hs) kyX8_sheetAt q810 (isoO 60 rfl rfl rfl rfl) rfl rfl rfl ?_
    refine V_astore_n C dX8_load_5 rfl ?_
    refine V_aload_n C dX8_load_6 rfl ?_
    refine V_ifnonnull C dX8_load_7 ?_
    have hks : hk (nI s) = s := hk_n (by omega)
    obtain ⟨n, hn40, hn⟩ := hln s hs
    have hne : shc s ≠ 0 := by unfold shc; omega
    have hne2 : nmc s ≠ 0 := by unfold nmc; omega
    refine V_aload_n C dX8_load_16 rfl ?_
    refine V_cv C hE dX8_load_17 (c_X3_isMissing hs) kyX3_isMissing q822 (isoSh (by first | assumption | omega)) rfl rfl rfl ?_
    refine V_ifeq_b C dX8_load_20 (fun c20 => ?_) (fun c20 => ?_)
    · refine V_iconst C 0 dX8_load_29 (by decide) ?_
      refine V_istore_n C dX8_load_30 rfl ?_
      refine V_iconst C 0 dX8_load_31 (by decide) ?_
      refine V_istore C dX8_load_32 rfl ?_
      have c17x := c20
      have lp : ∀ (d i : Nat) , i + d = n → (∀ j, 0 ≤ j → j < i → ldP (σ 0) (σ (nmc s)) j = false) → V x (eA E) (AP x E (us σ 0 (ldF (σ 0) (σ (nmc s)) i))) 0 0 34 [some (.ref (ad E 60)), some (.int (nI s)), some (.ref (ad E (shc s))), some (.int (nI i)), some (.int (nI i)), none, none] [] := by
        intro d
        induction d with
        | zero =>
          intro i  hi' hp
          have hN : i = n := by omega
          refine V_iload C dX8_load_34 rfl ?_
          refine V_aload_n C dX8_load_36 rfl ?_
          refine V_getN C hE.nw dX8_load_37 (rdShL (by first | assumption | omega)) in_X3 (by decide) q224 rfl ?_
          refine V_icmp_ge C dX8_load_40 (fun c40 => ?_) (fun c40 => absurd (by rw [us_n hne, hn, hN]; exact nI_le (Nat.le_refl _) (by omega)) c40)
          refine V_iload_n C dX8_load_97 rfl ?_
          exact V_iretN C dX8_load_98 hT (PX_ok (by unfold S_load; rw [hks, if_pos hq, if_neg c17x, hn, hk_n (by omega), ldK_none (fun j h1 h2 => hp j h1 (by omega)), ← hN]) (by unfold N_load; rw [hks, hn, hk_n (by omega), ldK_none (fun j h1 h2 => hp j h1 (by omega)), ← hN]; exact EqX.rf _))
        | succ d ih =>
          intro i  hi' hp
          refine V_iload C dX8_load_34 rfl ?_
          refine V_aload_n C dX8_load_36 rfl ?_
          refine V_getN C hE.nw dX8_load_37 (rdShL (by first | assumption | omega)) in_X3 (by decide) q224 rfl ?_
          refine V_icmp_ge C dX8_load_40 (fun c40 => absurd c40 (by rw [us_n hne, hn]; exact nI_ge (by omega) (by omega))) (fun c40 => ?_)
          refine V_aload_n C dX8_load_43 rfl ?_
          refine V_get C dX8_load_44 (rdX8_live) in_X8 (by decide) q232 rfl ?_
          refine V_iload C dX8_load_47 rfl ?_
          by_cases hh : i < nh (σ 0)
          · refine V_cv C hE dX8_load_49 (c_X5_get (v := 0) (i := i) (by omega) (by rw [us_s, nh_ldF]; exact hh)) kyX5_get q294 (isoV (by first | assumption | omega)) rfl rfl rfl ?_
            try simp only [us_us, us_s]
            refine V_astore C dX8_load_52 rfl ?_
            refine V_aload_n C dX8_load_54 rfl ?_
            refine V_iload C dX8_load_55 rfl ?_
            refine V_cv C hE dX8_load_57 (c_X3_get (s := s) (i := i) hs (by omega)) kyX3_get q842 (isoSh (by first | assumption | omega)) rfl rfl rfl ?_
            try simp only [us_us, us_s]
            rw [us_n hne2]
            refine V_istore C dX8_load_60 rfl ?_
            refine V_aload C dX8_load_62 rfl ?_
            refine V_ifnull C dX8_load_64 ?_
            refine V_iload C dX8_load_67 rfl ?_
            refine V_iconst C 0 dX8_load_69 (by decide) ?_
            refine V_bipush C 99 dX8_load_70 (by decide) ?_
            refine V_cs C hE dX8_load_72 (c_X8_within) kyX8_within q270 rfl rfl rfl ?_
            try simp only [us_us, us_s]
            refine V_ifne_b C dX8_load_75 (fun c75 => ?_) (fun c75 => ?_)
            · refine V_aload C dX8_load_81 rfl ?_
              refine V_iload C dX8_load_83 rfl ?_
              refine V_putN C hE.nw dX8_load_85 (wrH (by first | assumption | omega) (by rw [us_s, nh_ldF]; exact hh) 3 rfl) ft_X1 (by decide) q108 rfl rfl rfl rfl ?_
              try simp only [us_us, us_s]
              refine V_forget 5 ?_
              refine V_forget 6 ?_
              refine V_iinc C 1 dX8_load_88 rfl (by decide) rfl ?_
              refine V_iinc C 1 dX8_load_91 rfl (by decide) rfl ?_
              refine V_goto C dX8_load_94 ?_
              exact V_nx (by rfl) (by simp [← nI_1] <;> rfl) (ih (i + 1) (by omega) (fal_s hp (by unfold ldP; rw [decide_eq_true hh, decide_eq_true c75]; decide)))
            · refine V_goto C dX8_load_78 ?_
              refine V_iload_n C dX8_load_97 rfl ?_
              exact V_iretN C dX8_load_98 hT (PX_ok (by unfold S_load; rw [hks, if_pos hq, if_neg c17x, hn, hk_n (by omega), ldK_some (by omega) hp (by unfold ldP; rw [decide_eq_false c75]; simp)]) (by unfold N_load; rw [hks, hn, hk_n (by omega), ldK_some (by omega) hp (by unfold ldP; rw [decide_eq_false c75]; simp)]; exact EqX.rf _))
          · refine V_cv C hE dX8_load_49 (c_X5_getN (v := 0) (by omega) (fun q => by have h2 := q.2; rw [us_s, ldF_lo (by omega), hn1] at h2; exact absurd ((nI_ltI (by omega) (by omega)).mp h2) (by omega))) kyX5_get q294 (isoV (by first | assumption | omega)) rfl rfl rfl ?_
            try simp only [us_us, us_s]
            refine V_astoreN C dX8_load_52 rfl ?_
            refine V_aload_n C dX8_load_54 rfl ?_
            refine V_iload C dX8_load_55 rfl ?_
            refine V_cv C hE dX8_load_57 (c_X3_get (s := s) (i := i) hs (by omega)) kyX3_get q842 (isoSh (by first | assumption | omega)) rfl rfl rfl ?_
            try simp only [us_us, us_s]
            rw [us_n hne2]
            refine V_istore C dX8_load_60 rfl ?_
            refine V_aloadN C dX8_load_62 rfl ?_
            refine V_ifnullN C dX8_load_64 ?_
            refine V_iload_n C dX8_load_97 rfl ?_
            exact V_iretN C dX8_load_98 hT (PX_ok (by unfold S_load; rw [hks, if_pos hq, if_neg c17x, hn, hk_n (by omega), ldK_some (by omega) hp (by unfold ldP; rw [decide_eq_false hh]; rfl)]) (by unfold N_load; rw [hks, hn, hk_n (by omega), ldK_some (by omega) hp (by unfold ldP; rw [decide_eq_false hh]; rfl)]; exact EqX.rf _))
      exact V_nx (us_id _ _).symm rfl (lp n 0 (by omega) (fun j h1 h2 => absurd h2 (by omega)))
    · refine V_aload_n C dX8_load_23 rfl ?_
      refine V_iconst C 5 dX8_load_24 (by decide) ?_
      refine V_cv C hE dX8_load_25 (c_X8_fail (j := 5) (by omega)) kyX8_fail q273 (isoO 60 rfl rfl rfl rfl) rfl rfl rfl ?_
      exact V_iretN C dX8_load_28 hT (PX_fail (by unfold S_load; (try rw [hk_n (show s < 2 ^ 31 by omega)]); all_goals (first | rw [if_pos hq] | rw [if_neg hq]); all_goals (first | rw [if_pos c20] | rw [if_neg c20])) (EqX.rf σ))
  · refine V_cv C hE dX8_load_2 (c_X8_sheetAtN hq) kyX8_sheetAt q810 (isoO 60 rfl rfl rfl rfl) rfl rfl rfl ?_
    refine V_astore_nN C dX8_load_5 rfl ?_
    refine V_aload_nN C dX8_load_6 rfl ?_
    refine V_ifnonnullN C dX8_load_7 ?_
    refine V_aload_n C dX8_load_10 rfl ?_
    refine V_iconst C 0 dX8_load_11 (by decide) ?_
    refine V_cv C hE dX8_load_12 (c_X8_fail (j := 0) (by omega)) kyX8_fail q273 (isoO 60 rfl rfl rfl rfl) rfl rfl rfl ?_
    exact V_iretN C dX8_load_15 hT (PX_fail (by unfold S_load; (try rw [hk_n (show s < 2 ^ 31 by omega)]); all_goals (first | rw [if_pos hq] | rw [if_neg hq])) (EqX.rf σ))

