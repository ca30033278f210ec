def B0 (md : Nat) : Bst := if md = 2 then (0, 0) else (-1, -1)
theorem FRy {σ u : Sg} (h : EqW σ u) (h74 : u 74 = σ 74) (h8 : u 73 8 = σ 73 8) (h9 : u 73 9 = σ 73 9) : EqY σ u := ⟨fun c hc => by
    by_cases e : c = 74
    · subst e; exact h74
    · exact h.1 c hc e, fun j hj => by
    by_cases e : j = 8
    · subst e; exact h8
    · by_cases e9 : j = 9
      · subst e9; exact h9
      · exact h.2 j hj e e9⟩
/-- what threes leaves of the best -/
def Br (md : Nat) (B : Bst) (u : Sg) : Prop := (md = 0 → u 73 12 = B.1 ∧ u 73 13 = B.2) ∧ (md = 1 → u 73 12 = B.1) ∧ (md = 2 → u 73 15 = B.1)

theorem Br_of {md : Nat} {B : Bst} {u : Sg} (h : Bs md B u) : Br md B u := ⟨h.1, fun q => (h.2.1 q).1, h.2.2.1⟩
theorem B0_s {md : Nat} {σ u : Sg} (hmd : md < 3) (h12 : u 73 12 = -1) (h13 : u 73 13 = -1) (h15 : u 73 15 = 0) (h8 : u 73 8 = -1) (h9 : u 73 9 = waM md) : Bs md (B0 md) u := by
  rcases (show md = 0 ∨ md = 1 ∨ md = 2 by omega) with rfl | rfl | rfl
  · exact ⟨fun _ => ⟨h12, h13⟩, fun q => absurd q (by omega), fun q => absurd q (by omega), h8, h9⟩
  · exact ⟨fun q => absurd q (by omega), fun _ => ⟨h12, fun q => absurd (show (0:Int32) ≤ -1 from q) (by decide)⟩, fun q => absurd q (by omega), h8, h9⟩
  · exact ⟨fun q => absurd q (by omega), fun q => absurd q (by omega), fun _ => h15, h8, h9⟩

theorem EqW.put74 {σ u : Sg} (h : EqW σ u) {f : Nat → Int32} : EqW σ (us u 74 f) := ⟨fun c h1 h2 => by rw [us_n h2]; exact h.1 c h1 h2, fun j hj h8 h9 => by rw [us_n (by omega)]; exact h.2 j hj h8 h9⟩
theorem fB_id {md : Nat} {g : Nat → Int32} {m : Nat} {s : Int32} {told : Nat} {t : Tri} {B : Bst} (hy : t.2.2 = 0 ∨ t.2.2 = 1) (h : gM md B t) (n : Nat) : fB md g m s told t n B = B :=
  itN_id n (fun _ _ => fC_id (lgT_01 hy) (gM_lgT hy h) n)

theorem c_X9_threes {l : Launch} {E : En} {σ : Sg} {md sh m : Nat} {s : Int32} (hmd : md < 3) (hsh : shM md σ sh m) (hG : GV (σ 74)) (hs : inP s 1 12) (hmz : MZ σ) : MN l yX9_threes cX9_threes 5 none rmX9_threes E [.ref (ad E 73), .int s, .int (nI md), .int (nI sh)] σ (fun r u => r = none ∧ EqY σ u ∧ Br md (fA md (gS σ sh) m s (σ 74) (nh (σ 74)) (B0 md)) u) := by
  refine MN_of (by decide +kernel) rfl fun x C hE hT hcan => ?_
  have C : CX x cX9_threes RX9 rmX9_threes := C
  have h8 : nh (σ 74) ≤ 8 := (hcan.2.1 74 (by omega) (by omega)).2.1
  have hn1 := (hcan.2.1 74 (by omega) (by omega)).1
  refine V_L (L' := [some (.ref (ad E 73)), some (.int s), some (.int (nI md)), some (.int (nI sh)), none]) rfl ?_
  refine V_aload_n C dX9_threes_0 rfl ?_
  refine V_cv0 C hE dX9_threes_1 (c_X9_savesV) kyX9_saves q1122 (isoO 73 rfl rfl rfl rfl) rfl rfl rfl ?_
  try simp only [us_us, us_s]
  refine V_aload_n C dX9_threes_4 rfl ?_
  refine V_iconst C (-1) dX9_threes_5 (by decide) ?_
  refine V_put C dX9_threes_6 (wrO (j := 12) 73 rfl rfl rfl rfl rfl rfl) ft_X9 (by decide) q919 rfl rfl rfl rfl ?_
  refine V_aload_n C dX9_threes_9 rfl ?_
  refine V_iconst C (-1) dX9_threes_10 (by decide) ?_
  refine V_put C dX9_threes_11 (wrO (j := 13) 73 rfl rfl rfl rfl rfl rfl) ft_X9 (by decide) q920 rfl rfl rfl rfl ?_
  refine V_aload_n C dX9_threes_14 rfl ?_
  refine V_iconst C 0 dX9_threes_15 (by decide) ?_
  refine V_put C dX9_threes_16 (wrO (j := 15) 73 rfl rfl rfl rfl rfl rfl) ft_X9 (by decide) q922 rfl rfl rfl rfl ?_
  refine V_aload_n C dX9_threes_19 rfl ?_
  refine V_iload_n C dX9_threes_20 rfl ?_
  refine V_iconst C 1 dX9_threes_21 (by decide) ?_
  by_cases hm1 : nI md = 1
  · refine V_icmp_ne C dX9_threes_22 (fun c22 => absurd (hm1) c22) (fun c22 => ?_)
    refine V_iconst C 1 dX9_threes_25 (by decide) ?_
    refine V_goto C dX9_threes_26 ?_
    refine V_put C dX9_threes_30 (wrO (j := 9) 73 rfl rfl rfl rfl rfl rfl) ft_X9 (by decide) q916 rfl rfl rfl rfl ?_
    refine V_iconst C 0 dX9_threes_33 (by decide) ?_
    refine V_istore C dX9_threes_34 rfl ?_
    have lp : ∀ (d i : Nat) (u : Sg), i + d = nh (σ 74) → (EqW σ u) → (u 74 = σ 74) → (u 76 = σ 74) → (u 73 5 = 0) → (Bs md (fAk md (gS σ sh) m s (σ 74) (nh (σ 74)) i (B0 md)) u) → V x (eA E) (AP x E (u)) 0 0 36 [some (.ref (ad E 73)), some (.int s), some (.int (nI md)), some (.int (nI sh)), some (.int (nI i))] [] := by
      intro d
      induction d with
      | zero =>
        intro i u hi' hF h74 h76 hzu hBi
        have hN : i = nh (σ 74) := by omega
        refine V_iload C dX9_threes_36 rfl ?_
        refine V_aload_n C dX9_threes_38 rfl ?_
        refine V_get C dX9_threes_39 (rdO (j := 0) 73 rfl rfl rfl rfl rfl) in_X9 (by decide) q907 rfl ?_
        refine V_iconst C 1 dX9_threes_42 (by decide) ?_
        refine V_iald C 1 rfl rfl rfl dX9_threes_43 (rdM 74 1 rfl rfl rfl) ?_
        refine V_icmp_ge C dX9_threes_44 (fun c44 => ?_) (fun c44 => absurd (by rw [h74, hn1, hN] <;> exact nI_le (Nat.le_refl _) (by omega)) c44)
        refine V_aload_n C dX9_threes_84 rfl ?_
        refine V_iconst C (-1) dX9_threes_85 (by decide) ?_
        refine V_put C dX9_threes_86 (wrO (j := 8) 73 rfl rfl rfl rfl rfl rfl) ft_X9 (by decide) q915 rfl rfl rfl rfl ?_
        refine V_aload_n C dX9_threes_89 rfl ?_
        refine V_iconst C 0 dX9_threes_90 (by decide) ?_
        refine V_put C dX9_threes_91 (wrO (j := 9) 73 rfl rfl rfl rfl rfl rfl) ft_X9 (by decide) q916 rfl rfl rfl rfl ?_
        exact V_retN C dX9_threes_94 hT ⟨rfl, FRy (((hF.slot (Or.inr (Or.inl rfl))).slot (Or.inr (Or.inr rfl)))) (by simp (disch := omega) only [us_n]; exact h74) (by simp (disch := omega) only [us_s, upd_n, upd_s]; exact hmz.2.1.symm) (by simp (disch := omega) only [us_s, upd_s]; exact hmz.2.2.symm), by have z := Br_of hBi; rw [hN] at z; unfold Br at z ⊢; simp (disch := omega) only [us_s, upd_n]; exact z⟩
      | succ d ih =>
        intro i u hi' hF h74 h76 hzu hBi
        refine V_iload C dX9_threes_36 rfl ?_
        refine V_aload_n C dX9_threes_38 rfl ?_
        refine V_get C dX9_threes_39 (rdO (j := 0) 73 rfl rfl rfl rfl rfl) in_X9 (by decide) q907 rfl ?_
        refine V_iconst C 1 dX9_threes_42 (by decide) ?_
        refine V_iald C 1 rfl rfl rfl dX9_threes_43 (rdM 74 1 rfl rfl rfl) ?_
        refine V_icmp_ge C dX9_threes_44 (fun c44 => absurd c44 (by rw [h74, hn1]; exact nI_ge (by omega) (by omega))) (fun c44 => ?_)
        refine V_aload_n C dX9_threes_47 rfl ?_
        refine V_cv0 C hE dX9_threes_48 (c_X9_begins) kyX9_begins q1206 (isoO 73 rfl rfl rfl rfl) rfl rfl rfl ?_
        refine V_aload_n C dX9_threes_51 rfl ?_
        refine V_iload C dX9_threes_52 rfl ?_
        refine V_iload_n C dX9_threes_54 rfl ?_
        refine V_cv0 C hE dX9_threes_55 (c_visB (b := i) (s := s) (B := (fAk md (gS σ sh) m s (σ 74) (nh (σ 74)) i (B0 md))) (md := md) (Bs_r hBi) (by rw [rS_74, h74]; exact hG) (by omega) hs (by rw [rS_j (by omega) (by omega)]; exact hzu) (by rw [rS_7])) kyX9_visits q1210 (isoO 73 rfl rfl rfl rfl) rfl rfl rfl ?_
        rw [rS_rS, rS_74, rS_6, h74]
        refine V_gn (Pu := fun w => (w 74, w 73 6, w 73 7) = vis (waM md) (flM md (fAk md (gS σ sh) m s (σ 74) (nh (σ 74)) i (B0 md))) s i (σ 74, 400, 0) ∧ EqW σ w ∧ Bs md (fAk md (gS σ sh) m s (σ 74) (nh (σ 74)) i (B0 md)) w ∧ w 76 = σ 74 ∧ w 73 5 = 0) ⟨by rw [rS_74, rS_6, rS_7], rS_W hF _, Bs_r hBi, by rw [rS_n (by omega) (by omega)]; exact h76, by rw [rS_j (by omega) (by omega)]; exact hzu⟩ ?_
        rintro w ⟨w1, w3, w4, w5, w9⟩
        refine V_aload_n C dX9_threes_58 rfl ?_
        refine V_cv C hE dX9_threes_59 (c_X9_isDone) kyX9_isDone q1218 (isoO 73 rfl rfl rfl rfl) rfl rfl rfl ?_
        rw [(Bs_8 w4).1]
        by_cases hdn : dnP (flM md (fAk md (gS σ sh) m s (σ 74) (nh (σ 74)) i (B0 md))) (w 73 6) (w 73 7)
        · have hdn0 := hdn
          rw [show w 73 6 = (vis (waM md) (flM md (fAk md (gS σ sh) m s (σ 74) (nh (σ 74)) i (B0 md))) s i (σ 74, 400, 0)).2.1 from congrArg (fun t : Tri => t.2.1) w1, show w 73 7 = (vis (waM md) (flM md (fAk md (gS σ sh) m s (σ 74) (nh (σ 74)) i (B0 md))) s i (σ 74, 400, 0)).2.2 from congrArg (fun t : Tri => t.2.2) w1] at hdn
          refine V_st (st' := [.int (bI (dnP (flM md (fAk md (gS σ sh) m s (σ 74) (nh (σ 74)) i (B0 md))) (w 73 6) (w 73 7)))]) rfl ?_
          refine V_ifne_b C dX9_threes_62 (fun c62 => ?_) (fun c62 => absurd (hdn0) c62)
          refine V_aload_n C dX9_threes_74 rfl ?_
          refine V_cv0 C hE dX9_threes_75 (c_X9_putsBack) kyX9_putsBack q1130 (isoO 73 rfl rfl rfl rfl) rfl rfl rfl ?_
          refine V_gn (Pu := fun z => EqW σ z ∧ z 74 = σ 74 ∧ z 76 = σ 74 ∧ z 73 5 = 0 ∧ Bs md (fAk md (gS σ sh) m s (σ 74) (nh (σ 74)) (i+1) (B0 md)) z) ⟨w3.put74, by rw [us_s]; exact w5, by rw [us_n (by omega)]; exact w5, by rw [us_n (by omega)]; exact w9, Bs_us (by show Bs md (fB md (gS σ sh) m s i (lgT (waM md) s (σ 74, 400, 0) i) (nh (σ 74)) (fAk md (gS σ sh) m s (σ 74) (nh (σ 74)) i (B0 md))) w; rw [fB_id (lgT_01 (Or.inl rfl)) ((vis_c (md := md) (s := s) (b := i) (g := σ 74) (a := 400) (B := (fAk md (gS σ sh) m s (σ 74) (nh (σ 74)) i (B0 md))) hG (by omega) (by decide) (by decide)).2 hdn)]; exact w4) (by omega)⟩ ?_
          rintro z ⟨z1, z2, z3, z4, z5⟩
          refine V_iinc C 1 dX9_threes_78 rfl (by decide) rfl ?_
          refine V_goto C dX9_threes_81 ?_
          exact V_nx rfl (by simp [← nI_1] <;> rfl) (ih (i + 1) z (by omega) z1 z2 z3 z4 z5)
        · have hnd := hdn
          rw [show w 73 6 = (vis (waM md) (flM md (fAk md (gS σ sh) m s (σ 74) (nh (σ 74)) i (B0 md))) s i (σ 74, 400, 0)).2.1 from congrArg (fun t : Tri => t.2.1) w1, show w 73 7 = (vis (waM md) (flM md (fAk md (gS σ sh) m s (σ 74) (nh (σ 74)) i (B0 md))) s i (σ 74, 400, 0)).2.2 from congrArg (fun t : Tri => t.2.2) w1] at hnd
          obtain ⟨q1, q2⟩ := (vis_c (md := md) (s := s) (b := i) (g := σ 74) (a := 400) (B := (fAk md (gS σ sh) m s (σ 74) (nh (σ 74)) i (B0 md))) hG (by omega) (by decide) (by decide)).1 hnd
          have x0 : (w 74, w 73 6, w 73 7) = (lgT (waM md) s (σ 74, 400, 0) i) := w1.trans q1
          have x1 : w 74 = (lgT (waM md) s (σ 74, 400, 0) i).1 := congrArg (fun t : Tri => t.1) x0
          have x2 : w 73 6 = (lgT (waM md) s (σ 74, 400, 0) i).2.1 := congrArg (fun t : Tri => t.2.1) x0
          have x3 : w 73 7 = 0 := (congrArg (fun t : Tri => t.2.2) x0).trans q2
          refine V_ifne_b C dX9_threes_62 (fun c62 => absurd c62 (hdn)) (fun c62 => ?_)
          refine V_aload_n C dX9_threes_65 rfl ?_
          refine V_iload C dX9_threes_66 rfl ?_
          refine V_iload_n C dX9_threes_68 rfl ?_
          refine V_iload_n C dX9_threes_69 rfl ?_
          refine V_iload_n C dX9_threes_70 rfl ?_
          refine V_cqv C hE dX9_threes_71 (c_X9_seconds (told := i) (sh := sh) (m := m) (md := md) (s := s) (B := (fAk md (gS σ sh) m s (σ 74) (nh (σ 74)) i (B0 md))) hmd w4 (hsh.w w3) (by rw [x1]; exact (lgT_f (wa := waM md) (s := s) (t := (σ 74, 400, 0)) hG (show i ≤ 7 by omega) (show (0:Int32) ≤ 400 by decide) (show (400:Int32) ≤ 400 by decide)).1) hs w9 (by rw [x3]) (by rw [x2]; exact (lgT_f (wa := waM md) (s := s) (t := (σ 74, 400, 0)) hG (show i ≤ 7 by omega) (show (0:Int32) ≤ 400 by decide) (show (400:Int32) ≤ 400 by decide)).2.1) (by rw [x2]; exact (lgT_f (wa := waM md) (s := s) (t := (σ 74, 400, 0)) hG (show i ≤ 7 by omega) (show (0:Int32) ≤ 400 by decide) (show (400:Int32) ≤ 400 by decide)).2.2.1)) kyX9_seconds q1234 (isoO 73 rfl rfl rfl rfl) rfl rfl rfl ?_
          rintro u2 ⟨e1, e4⟩
          have y1 : (w 74, w 73 6, (0 : Int32)) = (lgT (waM md) s (σ 74, 400, 0) i) := by rw [← x0, ← x3]
          have y2 : nh (w 74) = nh (lgT (waM md) s (σ 74, 400, 0) i).1 := by rw [x1]
          rw [y1] at e4
          refine V_aload_n C dX9_threes_74 rfl ?_
          refine V_cv0 C hE dX9_threes_75 (c_X9_putsBack) kyX9_putsBack q1130 (isoO 73 rfl rfl rfl rfl) rfl rfl rfl ?_
          refine V_gn (Pu := fun z => EqW σ z ∧ z 74 = σ 74 ∧ z 76 = σ 74 ∧ z 73 5 = 0 ∧ Bs md (fAk md (gS σ sh) m s (σ 74) (nh (σ 74)) (i+1) (B0 md)) z) ⟨(w3.tr e1.1).put74, by rw [us_s, e1.2]; exact w5, by rw [us_n (by omega), e1.2]; exact w5, by rw [us_n (by omega), e1.1.2 5 (by omega) (by omega) (by omega)]; exact w9, Bs_us (by show Bs md (fB md (gS σ sh) m s i (lgT (waM md) s (σ 74, 400, 0) i) (nh (σ 74)) (fAk md (gS σ sh) m s (σ 74) (nh (σ 74)) i (B0 md))) u2; rw [gS_w w3, y2, (lgT_f (wa := waM md) (s := s) (t := (σ 74, 400, 0)) hG (show i ≤ 7 by omega) (show (0:Int32) ≤ 400 by decide) (show (400:Int32) ≤ 400 by decide)).2.2.2] at e4; exact e4) (by omega)⟩ ?_
          rintro z ⟨z1, z2, z3, z4, z5⟩
          refine V_iinc C 1 dX9_threes_78 rfl (by decide) rfl ?_
          refine V_goto C dX9_threes_81 ?_
          exact V_nx rfl (by simp [← nI_1] <;> rfl) (ih (i + 1) z (by omega) z1 z2 z3 z4 z5)
    exact lp (nh (σ 74)) 0 _ (by omega) (by first | exact ((((EqW.ofZ (EqZ.of (EqY.sv σ))).slot (j := 12) (Or.inl (by omega))).slot (j := 13) (Or.inl (by omega))).slot (j := 15) (Or.inl (by omega))).slot (j := 9) (Or.inr (Or.inr rfl))) (by simp (disch := omega) only [us_s, us_n, upd_s, upd_n, sv_74, sv_76, sv_n]) (by simp (disch := omega) only [us_s, us_n, upd_s, upd_n, sv_74, sv_76, sv_n]) (by simp (disch := omega) only [us_s, us_n, upd_s, upd_n, sv_74, sv_76, sv_n]; exact hmz.1) (B0_s (σ := σ) hmd (by simp (disch := omega) only [us_s, us_n, upd_s, upd_n, sv_74, sv_76, sv_n]) (by simp (disch := omega) only [us_s, us_n, upd_s, upd_n, sv_74, sv_76, sv_n]) (by simp (disch := omega) only [us_s, us_n, upd_s, upd_n, sv_74, sv_76, sv_n]) (by simp (disch := omega) only [us_s, us_n, upd_s, upd_n, sv_74, sv_76, sv_n]; exact hmz.2.1) (by simp (disch := omega) only [us_s, us_n, upd_s, upd_n, sv_74, sv_76, sv_n]; exact ((by unfold waM; rw [if_pos ((nI_eq (a := md) (b := 1) (by omega) (by omega)).mp hm1)]))))
  · refine V_icmp_ne C dX9_threes_22 (fun c22 => ?_) (fun c22 => absurd c22 (hm1))
    refine V_iconst C 0 dX9_threes_29 (by decide) ?_
    refine V_put C dX9_threes_30 (wrO (j := 9) 73 rfl rfl rfl rfl rfl rfl) ft_X9 (by decide) q916 rfl rfl rfl rfl ?_
    refine V_iconst C 0 dX9_threes_33 (by decide) ?_
    refine V_istore C dX9_threes_34 rfl ?_
    have lp : ∀ (d i : Nat) (u : Sg), i + d = nh (σ 74) → (EqW σ u) → (u 74 = σ 74) → (u 76 = σ 74) → (u 73 5 = 0) → (Bs md (fAk md (gS σ sh) m s (σ 74) (nh (σ 74)) i (B0 md)) u) → V x (eA E) (AP x E (u)) 0 0 36 [some (.ref (ad E 73)), some (.int s), some (.int (nI md)), some (.int (nI sh)), some (.int (nI i))] [] := by
      intro d
      induction d with
      | zero =>
        intro i u hi' hF h74 h76 hzu hBi
        have hN : i = nh (σ 74) := by omega
        refine V_iload C dX9_threes_36 rfl ?_
        refine V_aload_n C dX9_threes_38 rfl ?_
        refine V_get C dX9_threes_39 (rdO (j := 0) 73 rfl rfl rfl rfl rfl) in_X9 (by decide) q907 rfl ?_
        refine V_iconst C 1 dX9_threes_42 (by decide) ?_
        refine V_iald C 1 rfl rfl rfl dX9_threes_43 (rdM 74 1 rfl rfl rfl) ?_
        refine V_icmp_ge C dX9_threes_44 (fun c44 => ?_) (fun c44 => absurd (by rw [h74, hn1, hN] <;> exact nI_le (Nat.le_refl _) (by omega)) c44)
        refine V_aload_n C dX9_threes_84 rfl ?_
        refine V_iconst C (-1) dX9_threes_85 (by decide) ?_
        refine V_put C dX9_threes_86 (wrO (j := 8) 73 rfl rfl rfl rfl rfl rfl) ft_X9 (by decide) q915 rfl rfl rfl rfl ?_
        refine V_aload_n C dX9_threes_89 rfl ?_
        refine V_iconst C 0 dX9_threes_90 (by decide) ?_
        refine V_put C dX9_threes_91 (wrO (j := 9) 73 rfl rfl rfl rfl rfl rfl) ft_X9 (by decide) q916 rfl rfl rfl rfl ?_
        exact V_retN C dX9_threes_94 hT ⟨rfl, FRy (((hF.slot (Or.inr (Or.inl rfl))).slot (Or.inr (Or.inr rfl)))) (by simp (disch := omega) only [us_n]; exact h74) (by simp (disch := omega) only [us_s, upd_n, upd_s]; exact hmz.2.1.symm) (by simp (disch := omega) only [us_s, upd_s]; exact hmz.2.2.symm), by have z := Br_of hBi; rw [hN] at z; unfold Br at z ⊢; simp (disch := omega) only [us_s, upd_n]; exact z⟩
      | succ d ih =>
        intro i u hi' hF h74 h76 hzu hBi
        refine V_iload C dX9_threes_36 rfl ?_
        refine V_aload_n C dX9_threes_38 rfl ?_
        refine V_get C dX9_threes_39 (rdO (j := 0) 73 rfl rfl rfl rfl rfl) in_X9 (by decide) q907 rfl ?_
        refine V_iconst C 1 dX9_threes_42 (by decide) ?_
        refine V_iald C 1 rfl rfl rfl dX9_threes_43 (rdM 74 1 rfl rfl rfl) ?_
        refine V_icmp_ge C dX9_threes_44 (fun c44 => absurd c44 (by rw [h74, hn1]; exact nI_ge (by omega) (by omega))) (fun c44 => ?_)
        refine V_aload_n C dX9_threes_47 rfl ?_
        refine V_cv0 C hE dX9_threes_48 (c_X9_begins) kyX9_begins q1206 (isoO 73 rfl rfl rfl rfl) rfl rfl rfl ?_
        refine V_aload_n C dX9_threes_51 rfl ?_
        refine V_iload C dX9_threes_52 rfl ?_
        refine V_iload_n C dX9_threes_54 rfl ?_
        refine V_cv0 C hE dX9_threes_55 (c_visB (b := i) (s := s) (B := (fAk md (gS σ sh) m s (σ 74) (nh (σ 74)) i (B0 md))) (md := md) (Bs_r hBi) (by rw [rS_74, h74]; exact hG) (by omega) hs (by rw [rS_j (by omega) (by omega)]; exact hzu) (by rw [rS_7])) kyX9_visits q1210 (isoO 73 rfl rfl rfl rfl) rfl rfl rfl ?_
        rw [rS_rS, rS_74, rS_6, h74]
        refine V_gn (Pu := fun w => (w 74, w 73 6, w 73 7) = vis (waM md) (flM md (fAk md (gS σ sh) m s (σ 74) (nh (σ 74)) i (B0 md))) s i (σ 74, 400, 0) ∧ EqW σ w ∧ Bs md (fAk md (gS σ sh) m s (σ 74) (nh (σ 74)) i (B0 md)) w ∧ w 76 = σ 74 ∧ w 73 5 = 0) ⟨by rw [rS_74, rS_6, rS_7], rS_W hF _, Bs_r hBi, by rw [rS_n (by omega) (by omega)]; exact h76, by rw [rS_j (by omega) (by omega)]; exact hzu⟩ ?_
        rintro w ⟨w1, w3, w4, w5, w9⟩
        refine V_aload_n C dX9_threes_58 rfl ?_
        refine V_cv C hE dX9_threes_59 (c_X9_isDone) kyX9_isDone q1218 (isoO 73 rfl rfl rfl rfl) rfl rfl rfl ?_
        rw [(Bs_8 w4).1]
        by_cases hdn : dnP (flM md (fAk md (gS σ sh) m s (σ 74) (nh (σ 74)) i (B0 md))) (w 73 6) (w 73 7)
        · have hdn0 := hdn
          rw [show w 73 6 = (vis (waM md) (flM md (fAk md (gS σ sh) m s (σ 74) (nh (σ 74)) i (B0 md))) s i (σ 74, 400, 0)).2.1 from congrArg (fun t : Tri => t.2.1) w1, show w 73 7 = (vis (waM md) (flM md (fAk md (gS σ sh) m s (σ 74) (nh (σ 74)) i (B0 md))) s i (σ 74, 400, 0)).2.2 from congrArg (fun t : Tri => t.2.2) w1] at hdn
          refine V_st (st' := [.int (bI (dnP (flM md (fAk md (gS σ sh) m s (σ 74) (nh (σ 74)) i (B0 md))) (w 73 6) (w 73 7)))]) rfl ?_
          refine V_ifne_b C dX9_threes_62 (fun c62 => ?_) (fun c62 => absurd (hdn0) c62)
          refine V_aload_n C dX9_threes_74 rfl ?_
          refine V_cv0 C hE dX9_threes_75 (c_X9_putsBack) kyX9_putsBack q1130 (isoO 73 rfl rfl rfl rfl) rfl rfl rfl ?_
          refine V_gn (Pu := fun z => EqW σ z ∧ z 74 = σ 74 ∧ z 76 = σ 74 ∧ z 73 5 = 0 ∧ Bs md (fAk md (gS σ sh) m s (σ 74) (nh (σ 74)) (i+1) (B0 md)) z) ⟨w3.put74, by rw [us_s]; exact w5, by rw [us_n (by omega)]; exact w5, by rw [us_n (by omega)]; exact w9, Bs_us (by show Bs md (fB md (gS σ sh) m s i (lgT (waM md) s (σ 74, 400, 0) i) (nh (σ 74)) (fAk md (gS σ sh) m s (σ 74) (nh (σ 74)) i (B0 md))) w; rw [fB_id (lgT_01 (Or.inl rfl)) ((vis_c (md := md) (s := s) (b := i) (g := σ 74) (a := 400) (B := (fAk md (gS σ sh) m s (σ 74) (nh (σ 74)) i (B0 md))) hG (by omega) (by decide) (by decide)).2 hdn)]; exact w4) (by omega)⟩ ?_
          rintro z ⟨z1, z2, z3, z4, z5⟩
          refine V_iinc C 1 dX9_threes_78 rfl (by decide) rfl ?_
          refine V_goto C dX9_threes_81 ?_
          exact V_nx rfl (by simp [← nI_1] <;> rfl) (ih (i + 1) z (by omega) z1 z2 z3 z4 z5)
        · have hnd := hdn
          rw [show w 73 6 = (vis (waM md) (flM md (fAk md (gS σ sh) m s (σ 74) (nh (σ 74)) i (B0 md))) s i (σ 74, 400, 0)).2.1 from congrArg (fun t : Tri => t.2.1) w1, show w 73 7 = (vis (waM md) (flM md (fAk md (gS σ sh) m s (σ 74) (nh (σ 74)) i (B0 md))) s i (σ 74, 400, 0)).2.2 from congrArg (fun t : Tri => t.2.2) w1] at hnd
          obtain ⟨q1, q2⟩ := (vis_c (md := md) (s := s) (b := i) (g := σ 74) (a := 400) (B := (fAk md (gS σ sh) m s (σ 74) (nh (σ 74)) i (B0 md))) hG (by omega) (by decide) (by decide)).1 hnd
          have x0 : (w 74, w 73 6, w 73 7) = (lgT (waM md) s (σ 74, 400, 0) i) := w1.trans q1
          have x1 : w 74 = (lgT (waM md) s (σ 74, 400, 0) i).1 := congrArg (fun t : Tri => t.1) x0
          have x2 : w 73 6 = (lgT (waM md) s (σ 74, 400, 0) i).2.1 := congrArg (fun t : Tri => t.2.1) x0
          have x3 : w 73 7 = 0 := (congrArg (fun t : Tri => t.2.2) x0).trans q2
          refine V_ifne_b C dX9_threes_62 (fun c62 => absurd c62 (hdn)) (fun c62 => ?_)
          refine V_aload_n C dX9_threes_65 rfl ?_
          refine V_iload C dX9_threes_66 rfl ?_
          refine V_iload_n C dX9_threes_68 rfl ?_
          refine V_iload_n C dX9_threes_69 rfl ?_
          refine V_iload_n C dX9_threes_70 rfl ?_
          refine V_cqv C hE dX9_threes_71 (c_X9_seconds (told := i) (sh := sh) (m := m) (md := md) (s := s) (B := (fAk md (gS σ sh) m s (σ 74) (nh (σ 74)) i (B0 md))) hmd w4 (hsh.w w3) (by rw [x1]; exact (lgT_f (wa := waM md) (s := s) (t := (σ 74, 400, 0)) hG (show i ≤ 7 by omega) (show (0:Int32) ≤ 400 by decide) (show (400:Int32) ≤ 400 by decide)).1) hs w9 (by rw [x3]) (by rw [x2]; exact (lgT_f (wa := waM md) (s := s) (t := (σ 74, 400, 0)) hG (show i ≤ 7 by omega) (show (0:Int32) ≤ 400 by decide) (show (400:Int32) ≤ 400 by decide)).2.1) (by rw [x2]; exact (lgT_f (wa := waM md) (s := s) (t := (σ 74, 400, 0)) hG (show i ≤ 7 by omega) (show (0:Int32) ≤ 400 by decide) (show (400:Int32) ≤ 400 by decide)).2.2.1)) kyX9_seconds q1234 (isoO 73 rfl rfl rfl rfl) rfl rfl rfl ?_
          rintro u2 ⟨e1, e4⟩
          have y1 : (w 74, w 73 6, (0 : Int32)) = (lgT (waM md) s (σ 74, 400, 0) i) := by rw [← x0, ← x3]
          have y2 : nh (w 74) = nh (lgT (waM md) s (σ 74, 400, 0) i).1 := by rw [x1]
          rw [y1] at e4
          refine V_aload_n C dX9_threes_74 rfl ?_
          refine V_cv0 C hE dX9_threes_75 (c_X9_putsBack) kyX9_putsBack q1130 (isoO 73 rfl rfl rfl rfl) rfl rfl rfl ?_
          refine V_gn (Pu := fun z => EqW σ z ∧ z 74 = σ 74 ∧ z 76 = σ 74 ∧ z 73 5 = 0 ∧ Bs md (fAk md (gS σ sh) m s (σ 74) (nh (σ 74)) (i+1) (B0 md)) z) ⟨(w3.tr e1.1).put74, by rw [us_s, e1.2]; exact w5, by rw [us_n (by omega), e1.2]; exact w5, by rw [us_n (by omega), e1.1.2 5 (by omega) (by omega) (by omega)]; exact w9, Bs_us (by show Bs md (fB md (gS σ sh) m s i (lgT (waM md) s (σ 74, 400, 0) i) (nh (σ 74)) (fAk md (gS σ sh) m s (σ 74) (nh (σ 74)) i (B0 md))) u2; rw [gS_w w3, y2, (lgT_f (wa := waM md) (s := s) (t := (σ 74, 400, 0)) hG (show i ≤ 7 by omega) (show (0:Int32) ≤ 400 by decide) (show (400:Int32) ≤ 400 by decide)).2.2.2] at e4; exact e4) (by omega)⟩ ?_
          rintro z ⟨z1, z2, z3, z4, z5⟩
          refine V_iinc C 1 dX9_threes_78 rfl (by decide) rfl ?_
          refine V_goto C dX9_threes_81 ?_
          exact V_nx rfl (by simp [← nI_1] <;> rfl) (ih (i + 1) z (by omega) z1 z2 z3 z4 z5)
    exact lp (nh (σ 74)) 0 _ (by omega) (by first | exact ((((EqW.ofZ (EqZ.of (EqY.sv σ))).slot (j := 12) (Or.inl (by omega))).slot (j := 13) (Or.inl (by omega))).slot (j := 15) (Or.inl (by omega))).slot (j := 9) (Or.inr (Or.inr rfl))) (by simp (disch := omega) only [us_s, us_n, upd_s, upd_n, sv_74, sv_76, sv_n]) (by simp (disch := omega) only [us_s, us_n, upd_s, upd_n, sv_74, sv_76, sv_n]) (by simp (disch := omega) only [us_s, us_n, upd_s, upd_n, sv_74, sv_76, sv_n]; exact hmz.1) (B0_s (σ := σ) hmd (by simp (disch := omega) only [us_s, us_n, upd_s, upd_n, sv_74, sv_76, sv_n]) (by simp (disch := omega) only [us_s, us_n, upd_s, upd_n, sv_74, sv_76, sv_n]) (by simp (disch := omega) only [us_s, us_n, upd_s, upd_n, sv_74, sv_76, sv_n]) (by simp (disch := omega) only [us_s, us_n, upd_s, upd_n, sv_74, sv_76, sv_n]; exact hmz.2.1) (by simp (disch := omega) only [us_s, us_n, upd_s, upd_n, sv_74, sv_76, sv_n]; exact ((by unfold waM; rw [if_neg (fun q => hm1 (by rw [q]; rfl))]))))

/-- the best of all rounds of three -/
def bst (md : Nat) (g : Nat → Int32) (m : Nat) (s : Int32) (f : Nat → Int32) : Bst := fA md g m s f (nh f) (B0 md)
abbrev BARR (f : Nat → Int32) : Prop := 0 < f 3 ∨ f 1 = 0 ∨ 9700 < f 0
def S_three (f : Nat → Int32) (s : Int32) : Rs := if inP s 1 12 then (if BARR f then .inl 4 else .inr (bst 0 (fun _ => 0) 0 s f).1) else .inl 0
def S_least (f : Nat → Int32) (s : Int32) : Rs := if inP s 1 12 then (if BARR f then .inl 4 else .inr (bst 0 (fun _ => 0) 0 s f).2) else .inl 0
def S_thrift (f : Nat → Int32) (s : Int32) : Rs := if inP s 1 12 then (if BARR f then .inl 4 else if (bst 1 (fun _ => 0) 0 s f).1 < 0 then .inl 3 else .inr (bst 1 (fun _ => 0) 0 s f).1) else .inl 0
def S_diary (σ : Sg) (s p : Int32) : Rs := if inP s 0 3 then (if σ (shc (hk s)) 1 = 0 then .inl 5 else if inP p 1 12 then (if BARR (σ 0) then .inl 4 else .inr (bst 2 (σ (nmc (hk s))) (hk (σ (shc (hk s)) 2)) p (σ 0)).1) else .inl 0) else .inl 0
theorem stp_g {md : Nat} (h : md < 2) (g g' : Nat → Int32) (m m' : Nat) (code : Int32) (t : Tri) (B : Bst) : stp md g m code t B = stp md g' m' code t B := by
  unfold stp
  rcases (show md = 0 ∨ md = 1 by omega) with rfl | rfl <;> rfl
theorem itN_ext {B : Type} {F G : Nat → B → B} (h : ∀ i b, F i b = G i b) : ∀ n b, itN F n b = itN G n b := by
  intro n
  induction n with
  | zero => intro b; rfl
  | succ n ih => intro b; show F n (itN F n b) = G n (itN G n b); rw [ih, h]
theorem fA_g {md : Nat} (h : md < 2) (g g' : Nat → Int32) (m m' : Nat) (s : Int32) (f : Nat → Int32) (n : Nat) (B : Bst) : fA md g m s f n B = fA md g' m' s f n B :=
  itN_ext (fun _ _ => itN_ext (fun _ _ => itN_ext (fun _ _ => stp_g h _ _ _ _ _ _ _) _ _) _ _) _ _
theorem bst_g {md : Nat} (h : md < 2) (g : Nat → Int32) (m : Nat) (s : Int32) (f : Nat → Int32) : fA md g m s f (nh f) (B0 md) = bst md (fun _ => 0) 0 s f := fA_g h _ _ _ _ _ _ _ _

theorem c_X9_three {l : Launch} {E : En} {σ : Sg} {p0 : Int32}  (hG : GV (σ 74)) (hz : MZ σ) : MN l yX9_three cX9_three 2 (some .int) rmX9_three E [.ref (ad E 73), .int p0] σ (PQ σ (S_three (σ 74) p0) (σ)) := by
  refine MN_of (by decide +kernel) rfl fun x C hE hT hcan => ?_
  have C : CX x cX9_three RX9 rmX9_three := C
  refine V_L (L' := [some (.ref (ad E 73)), some (.int p0)]) rfl ?_
  refine V_iload_n C dX9_three_0 rfl ?_
  refine V_cs C hE dX9_three_1 (c_X9_isStay) kyX9_isStay q1190 rfl rfl rfl ?_
  refine V_ifne_b C dX9_three_4 (fun c4 => ?_) (fun c4 => ?_)
  · refine V_aload_n C dX9_three_14 rfl ?_
    refine V_cv C hE dX9_three_15 (c_X9_isBarred) kyX9_isBarred q1194 (isoO 73 rfl rfl rfl rfl) rfl rfl rfl ?_
    refine V_ifeq_b C dX9_three_18 (fun c18 => ?_) (fun c18 => ?_)
    · refine V_aload_n C dX9_three_28 rfl ?_
      refine V_iload_n C dX9_three_29 rfl ?_
      refine V_iconst C 0 dX9_three_30 (by decide) ?_
      refine V_iconst C 0 dX9_three_31 (by decide) ?_
      refine V_cqv C hE dX9_three_32 (c_X9_threes (md := 0) (sh := 0) (m := 0) (s := p0) (by omega) (fun q => absurd q (by omega)) hG c4 hz) kyX9_threes q1230 (isoO 73 rfl rfl rfl rfl) rfl rfl rfl ?_
      rintro u ⟨e1, e2⟩
      rw [bst_g (by omega)] at e2
      refine V_aload_n C dX9_three_35 rfl ?_
      refine V_get C dX9_three_36 (rdO (j := 12) 73 rfl rfl rfl rfl rfl) in_X9 (by decide) q919 rfl ?_
      rw [(e2.1 rfl).1]
      exact V_iretN C dX9_three_39 hT (PQ_rd (by unfold S_three; rw [if_pos c4, if_neg c18]) e1)
    · refine V_aload_n C dX9_three_21 rfl ?_
      refine V_ldc C dX9_three_22 q1056 ?_
      refine V_cv C hE dX9_three_24 (c_X9_finds (j := 4) (by decide +kernel) (by omega)) kyX9_finds q995 (isoO 73 rfl rfl rfl rfl) rfl rfl rfl ?_
      exact V_iretN C dX9_three_27 hT (PQ_fail (by decide +kernel) (by unfold S_three; all_goals (first | rw [if_pos c4] | rw [if_neg c4]); all_goals (first | rw [if_pos c18] | rw [if_neg c18])) (EqY.rf σ))
  · refine V_aload_n C dX9_three_7 rfl ?_
    refine V_ldc C dX9_three_8 q994 ?_
    refine V_cv C hE dX9_three_10 (c_X9_finds (j := 0) (by decide +kernel) (by omega)) kyX9_finds q995 (isoO 73 rfl rfl rfl rfl) rfl rfl rfl ?_
    exact V_iretN C dX9_three_13 hT (PQ_fail (by decide +kernel) (by unfold S_three; all_goals (first | rw [if_pos c4] | rw [if_neg c4])) (EqY.rf σ))

theorem c_X9_least {l : Launch} {E : En} {σ : Sg} {p0 : Int32}  (hG : GV (σ 74)) (hz : MZ σ) : MN l yX9_least cX9_least 2 (some .int) rmX9_least E [.ref (ad E 73), .int p0] σ (PQ σ (S_least (σ 74) p0) (σ)) := by
  refine MN_of (by decide +kernel) rfl fun x C hE hT hcan => ?_
  have C : CX x cX9_least RX9 rmX9_least := C
  refine V_L (L' := [some (.ref (ad E 73)), some (.int p0)]) rfl ?_
  refine V_iload_n C dX9_least_0 rfl ?_
  refine V_cs C hE dX9_least_1 (c_X9_isStay) kyX9_isStay q1190 rfl rfl rfl ?_
  refine V_ifne_b C dX9_least_4 (fun c4 => ?_) (fun c4 => ?_)
  · refine V_aload_n C dX9_least_14 rfl ?_
    refine V_cv C hE dX9_least_15 (c_X9_isBarred) kyX9_isBarred q1194 (isoO 73 rfl rfl rfl rfl) rfl rfl rfl ?_
    refine V_ifeq_b C dX9_least_18 (fun c18 => ?_) (fun c18 => ?_)
    · refine V_aload_n C dX9_least_28 rfl ?_
      refine V_iload_n C dX9_least_29 rfl ?_
      refine V_iconst C 0 dX9_least_30 (by decide) ?_
      refine V_iconst C 0 dX9_least_31 (by decide) ?_
      refine V_cqv C hE dX9_least_32 (c_X9_threes (md := 0) (sh := 0) (m := 0) (s := p0) (by omega) (fun q => absurd q (by omega)) hG c4 hz) kyX9_threes q1230 (isoO 73 rfl rfl rfl rfl) rfl rfl rfl ?_
      rintro u ⟨e1, e2⟩
      rw [bst_g (by omega)] at e2
      refine V_aload_n C dX9_least_35 rfl ?_
      refine V_get C dX9_least_36 (rdO (j := 13) 73 rfl rfl rfl rfl rfl) in_X9 (by decide) q920 rfl ?_
      rw [(e2.1 rfl).2]
      exact V_iretN C dX9_least_39 hT (PQ_rd (by unfold S_least; rw [if_pos c4, if_neg c18]) e1)
    · refine V_aload_n C dX9_least_21 rfl ?_
      refine V_ldc C dX9_least_22 q1056 ?_
      refine V_cv C hE dX9_least_24 (c_X9_finds (j := 4) (by decide +kernel) (by omega)) kyX9_finds q995 (isoO 73 rfl rfl rfl rfl) rfl rfl rfl ?_
      exact V_iretN C dX9_least_27 hT (PQ_fail (by decide +kernel) (by unfold S_least; all_goals (first | rw [if_pos c4] | rw [if_neg c4]); all_goals (first | rw [if_pos c18] | rw [if_neg c18])) (EqY.rf σ))
  · refine V_aload_n C dX9_least_7 rfl ?_
    refine V_ldc C dX9_least_8 q994 ?_
    refine V_cv C hE dX9_least_10 (c_X9_finds (j := 0) (by decide +kernel) (by omega)) kyX9_finds q995 (isoO 73 rfl rfl rfl rfl) rfl rfl rfl ?_
    exact V_iretN C dX9_least_13 hT (PQ_fail (by decide +kernel) (by unfold S_least; all_goals (first | rw [if_pos c4] | rw [if_neg c4])) (EqY.rf σ))

theorem c_X9_thrift {l : Launch} {E : En} {σ : Sg} {p0 : Int32}  (hG : GV (σ 74)) (hz : MZ σ) : MN l yX9_thrift cX9_thrift 2 (some .int) rmX9_thrift E [.ref (ad E 73), .int p0] σ (PQ σ (S_thrift (σ 74) p0) (σ)) := by
  refine MN_of (by decide +kernel) rfl fun x C hE hT hcan => ?_
  have C : CX x cX9_thrift RX9 rmX9_thrift := C
  refine V_L (L' := [some (.ref (ad E 73)), some (.int p0)]) rfl ?_
  refine V_iload_n C dX9_thrift_0 rfl ?_
  refine V_cs C hE dX9_thrift_1 (c_X9_isStay) kyX9_isStay q1190 rfl rfl rfl ?_
  refine V_ifne_b C dX9_thrift_4 (fun c4 => ?_) (fun c4 => ?_)
  · refine V_aload_n C dX9_thrift_14 rfl ?_
    refine V_cv C hE dX9_thrift_15 (c_X9_isBarred) kyX9_isBarred q1194 (isoO 73 rfl rfl rfl rfl) rfl rfl rfl ?_
    refine V_ifeq_b C dX9_thrift_18 (fun c18 => ?_) (fun c18 => ?_)
    · refine V_aload_n C dX9_thrift_28 rfl ?_
      refine V_iload_n C dX9_thrift_29 rfl ?_
      refine V_iconst C 1 dX9_thrift_30 (by decide) ?_
      refine V_iconst C 0 dX9_thrift_31 (by decide) ?_
      refine V_cqv C hE dX9_thrift_32 (c_X9_threes (md := 1) (sh := 0) (m := 0) (s := p0) (by omega) (fun q => absurd q (by omega)) hG c4 hz) kyX9_threes q1230 (isoO 73 rfl rfl rfl rfl) rfl rfl rfl ?_
      rintro u ⟨e1, e2⟩
      rw [bst_g (by omega)] at e2
      refine V_aload_n C dX9_thrift_35 rfl ?_
      refine V_get C dX9_thrift_36 (rdO (j := 12) 73 rfl rfl rfl rfl rfl) in_X9 (by decide) q919 rfl ?_
      rw [e2.2.1 rfl]
      refine V_if_ge C dX9_thrift_39 (fun c39 => ?_) (fun c39 => ?_)
      · refine V_aload_n C dX9_thrift_51 rfl ?_
        refine V_get C dX9_thrift_52 (rdO (j := 12) 73 rfl rfl rfl rfl rfl) in_X9 (by decide) q919 rfl ?_
        try rw [e2.2.1 rfl]
        exact V_iretN C dX9_thrift_55 hT (PQ_rd (by unfold S_thrift; rw [if_pos c4, if_neg c18, if_neg (Int32.not_lt.mpr c39)]) e1)
      · refine V_aload_n C dX9_thrift_42 rfl ?_
        refine V_ldc C dX9_thrift_43 q1138 ?_
        refine V_cv C hE dX9_thrift_45 (c_X9_finds (j := 3) (by decide +kernel) (by omega)) kyX9_finds q995 (isoO 73 rfl rfl rfl rfl) rfl rfl rfl ?_
        refine V_goto C dX9_thrift_48 ?_
        try rw [e2.2.1 rfl]
        exact V_iretN C dX9_thrift_55 hT (PQ_fail (by decide +kernel) (by unfold S_thrift; rw [if_pos c4, if_neg c18, if_pos (Int32.not_le.mp c39)]) e1)
    · refine V_aload_n C dX9_thrift_21 rfl ?_
      refine V_ldc C dX9_thrift_22 q1056 ?_
      refine V_cv C hE dX9_thrift_24 (c_X9_finds (j := 4) (by decide +kernel) (by omega)) kyX9_finds q995 (isoO 73 rfl rfl rfl rfl) rfl rfl rfl ?_
      exact V_iretN C dX9_thrift_27 hT (PQ_fail (by decide +kernel) (by unfold S_thrift; rw [if_pos c4, if_pos c18]) (EqY.rf σ))
  · refine V_aload_n C dX9_thrift_7 rfl ?_
    refine V_ldc C dX9_thrift_8 q994 ?_
    refine V_cv C hE dX9_thrift_10 (c_X9_finds (j := 0) (by decide +kernel) (by omega)) kyX9_finds q995 (isoO 73 rfl rfl rfl rfl) rfl rfl rfl ?_
    exact V_iretN C dX9_thrift_13 hT (PQ_fail (by decide +kernel) (by unfold S_thrift; rw [if_neg c4]) (EqY.rf σ))

theorem c_X9_diary {l : Launch} {E : En} {σ : Sg} {p0 p1 : Int32}  (hG : GV (σ 74)) (hz : MZ σ) (hln : ∀ s, s < 4 → ∃ n, n ≤ 40 ∧ σ 82 s = nI n) : MN l yX9_diary cX9_diary 4 (some .int) rmX9_diary E [.ref (ad E 73), .int p0, .int p1] σ (PQ σ (S_diary (tM σ) p0 p1) (σ)) := by
  refine MN_of (by decide +kernel) rfl fun x C hE hT hcan => ?_
  have C : CX x cX9_diary RX9 rmX9_diary := C
  refine V_L (L' := [some (.ref (ad E 73)), some (.int p0), some (.int p1), none]) rfl ?_
  refine V_aload_n C dX9_diary_0 rfl ?_
  refine V_iload_n C dX9_diary_1 rfl ?_
  by_cases hq : inP p0 0 3
  · obtain ⟨s, rfl, hs3⟩ := i32_le (m := 3) (by omega) hq.1 hq.2
    have hs : s < 4 := by omega
    have hks : hk (nI s) = s := hk_n (by omega)
    refine V_cv C hE dX9_diary_2 (c_X9_wrong hs) kyX9_wrong q1389 (isoO 73 rfl rfl rfl rfl) rfl rfl rfl ?_
    by_cases hb : σ 81 s = 0
    · refine V_st (st' := [.int (-1000006)]) (by rw [if_pos hb]) ?_
      refine V_istore_n C dX9_diary_5 rfl ?_
      refine V_iload_n C dX9_diary_6 rfl ?_
      refine V_if_ne C dX9_diary_7 (fun c7 => ?_) (fun c7 => absurd c7 (by decide))
      refine V_iload_n C dX9_diary_36 rfl ?_
      refine V_if_eq C dX9_diary_37 (fun c37 => absurd c37 (by decide)) (fun c37 => ?_)
      refine V_aload_n C dX9_diary_40 rfl ?_
      refine V_iload_n C dX9_diary_41 rfl ?_
      refine V_cv C hE dX9_diary_42 (c_X9_finds (j := 5) (by decide +kernel) (by omega)) kyX9_finds q995 (isoO 73 rfl rfl rfl rfl) rfl rfl rfl ?_
      exact V_iretN C dX9_diary_45 hT (PQ_fail (by decide +kernel) (by unfold S_diary; rw [if_pos hq, hks, tM_b hs, if_pos hb]) (EqY.rf σ))
    · refine V_st (st' := [.int 0]) (by rw [if_neg hb]) ?_
      obtain ⟨m, hm, hml⟩ := hln s hs
      refine V_istore_n C dX9_diary_5 rfl ?_
      refine V_iload_n C dX9_diary_6 rfl ?_
      refine V_if_ne C dX9_diary_7 (fun c7 => absurd (rfl) c7) (fun c7 => ?_)
      refine V_iload_n C dX9_diary_10 rfl ?_
      by_cases hst : inP p1 1 12
      · refine V_cs C hE dX9_diary_11 (c_X9_isStay) kyX9_isStay q1190 rfl rfl rfl ?_
        refine V_ifne_b C dX9_diary_14 (fun c14 => ?_) (fun c14 => absurd (hst) c14)
        refine V_aload_n C dX9_diary_22 rfl ?_
        refine V_cv C hE dX9_diary_23 (c_X9_isBarred) kyX9_isBarred q1194 (isoO 73 rfl rfl rfl rfl) rfl rfl rfl ?_
        by_cases hba : BARR (σ 74)
        · refine V_ifeq_b C dX9_diary_26 (fun c26 => absurd (hba) c26) (fun c26 => ?_)
          refine V_ldc C dX9_diary_29 q1056 ?_
          refine V_goto C dX9_diary_31 ?_
          refine V_istore_n C dX9_diary_35 rfl ?_
          refine V_iload_n C dX9_diary_36 rfl ?_
          refine V_if_eq C dX9_diary_37 (fun c37 => absurd c37 (by decide)) (fun c37 => ?_)
          refine V_aload_n C dX9_diary_40 rfl ?_
          refine V_iload_n C dX9_diary_41 rfl ?_
          refine V_cv C hE dX9_diary_42 (c_X9_finds (j := 4) (by decide +kernel) (by omega)) kyX9_finds q995 (isoO 73 rfl rfl rfl rfl) rfl rfl rfl ?_
          exact V_iretN C dX9_diary_45 hT (PQ_fail (by decide +kernel) (by unfold S_diary; rw [if_pos hq, hks, tM_b hs, if_neg hb]; rw [tM_0]; rw [if_pos hst, if_pos hba]) (EqY.rf σ))
        · refine V_ifeq_b C dX9_diary_26 (fun c26 => ?_) (fun c26 => absurd c26 (hba))
          refine V_iconst C 0 dX9_diary_34 (by decide) ?_
          refine V_istore_n C dX9_diary_35 rfl ?_
          refine V_iload_n C dX9_diary_36 rfl ?_
          refine V_if_eq C dX9_diary_37 (fun c37 => ?_) (fun c37 => absurd (rfl) c37)
          refine V_aload_n C dX9_diary_46 rfl ?_
          refine V_iload_n C dX9_diary_47 rfl ?_
          refine V_iconst C 2 dX9_diary_48 (by decide) ?_
          refine V_iload_n C dX9_diary_49 rfl ?_
          refine V_cqv C hE dX9_diary_50 (c_X9_threes (md := 2) (sh := s) (m := m) (s := p1) (by omega) (fun _ => ⟨hs, hm, hml⟩) hG hst hz) kyX9_threes q1230 (isoO 73 rfl rfl rfl rfl) rfl rfl rfl ?_
          rintro u ⟨e1, e2⟩
          refine V_aload_n C dX9_diary_53 rfl ?_
          refine V_get C dX9_diary_54 (rdO (j := 15) 73 rfl rfl rfl rfl rfl) in_X9 (by decide) q922 rfl ?_
          rw [e2.2.2 rfl]
          exact V_iretN C dX9_diary_57 hT (PQ_rd (by unfold S_diary; rw [if_pos hq, hks, tM_b hs, if_neg hb]; rw [tM_0]; rw [if_pos hst, if_neg hba, tM_n hs, tM_l hs, show hk (σ 82 s) = m by rw [hml]; exact hk_n (by omega)]; rfl) e1)
      · refine V_cs C hE dX9_diary_11 (c_X9_isStay) kyX9_isStay q1190 rfl rfl rfl ?_
        refine V_ifne_b C dX9_diary_14 (fun c14 => absurd c14 (hst)) (fun c14 => ?_)
        refine V_ldc C dX9_diary_17 q994 ?_
        refine V_goto C dX9_diary_19 ?_
        refine V_istore_n C dX9_diary_35 rfl ?_
        refine V_iload_n C dX9_diary_36 rfl ?_
        refine V_if_eq C dX9_diary_37 (fun c37 => absurd c37 (by decide)) (fun c37 => ?_)
        refine V_aload_n C dX9_diary_40 rfl ?_
        refine V_iload_n C dX9_diary_41 rfl ?_
        refine V_cv C hE dX9_diary_42 (c_X9_finds (j := 0) (by decide +kernel) (by omega)) kyX9_finds q995 (isoO 73 rfl rfl rfl rfl) rfl rfl rfl ?_
        exact V_iretN C dX9_diary_45 hT (PQ_fail (by decide +kernel) (by unfold S_diary; rw [if_pos hq, hks, tM_b hs, if_neg hb]; rw [tM_0]; rw [if_neg hst]) (EqY.rf σ))
  · refine V_cv C hE dX9_diary_2 (c_X9_wrongB hq) kyX9_wrong q1389 (isoO 73 rfl rfl rfl rfl) rfl rfl rfl ?_
    refine V_istore_n C dX9_diary_5 rfl ?_
    refine V_iload_n C dX9_diary_6 rfl ?_
    refine V_if_ne C dX9_diary_7 (fun c7 => ?_) (fun c7 => absurd c7 (by decide))
    refine V_iload_n C dX9_diary_36 rfl ?_
    refine V_if_eq C dX9_diary_37 (fun c37 => absurd c37 (by decide)) (fun c37 => ?_)
    refine V_aload_n C dX9_diary_40 rfl ?_
    refine V_iload_n C dX9_diary_41 rfl ?_
    refine V_cv C hE dX9_diary_42 (c_X9_finds (j := 0) (by decide +kernel) (by omega)) kyX9_finds q995 (isoO 73 rfl rfl rfl rfl) rfl rfl rfl ?_
    exact V_iretN C dX9_diary_45 hT (PQ_fail (by decide +kernel) (by unfold S_diary; rw [if_neg hq]) (EqY.rf σ))

