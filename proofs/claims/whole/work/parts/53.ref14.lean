theorem V_cqv {x : Cx} {cc : ByteArray} {own : String} {R : Room} {E : En} {k n pc pc' : Nat} {L : List (Option Value)} {st : List Value} {σ : Sg} (C : CX x cc own R) (hE : CE E (xs x) (xs x).heap) {idx nn ynL : Nat} {Cn : String} {b : Nat} {As rest : List Value} {y : MethodName} {ycc : ByteArray} {ret : Option FieldType} {rm : Room} {Pu : Sg → Prop}
    (hd : D1 cc pc (.invokevirtual idx) 3 pc') (hM : MN (xl x) y ycc ynL ret rm E (.ref b :: As) σ (fun r u => r = none ∧ Pu u)) (hk : KV Cn y ycc ynL ret nn) (hl : Cond.methodLink own idx y ∈ lw_gd) (ho : IsO (xs x) (AP x E σ) b Cn) (hst : st = As.reverse ++ .ref b :: rest) (hro : ROb rm ynL R nn As rest = true) (hkc : (Nat.ble k R.cells && Nat.ble n R.slots) = true)
    (h : ∀ u, Pu u → V x (eA E) (AP x E u) k n pc' L rest) : V x (eA E) (AP x E σ) k n pc L st := by
  refine V_cn C hE hd hM hk hl ho hst hro hkc ?_
  rintro r u ⟨rfl, hp⟩
  exact h u hp
/-- what stays in the loops of a round of three -/
def FR (σ u : Sg) : Prop := EqW σ u ∧ u 76 = σ 76
theorem FR.tr {σ u w : Sg} (h : FR σ u) (h2 : FR u w) : FR σ w := ⟨h.1.tr h2.1, h2.2.trans h.2⟩
theorem FR.rf (σ : Sg) : FR σ σ := ⟨EqW.rf σ, rfl⟩
theorem FR.r {σ u : Sg} (h : FR σ u) (t : Tri) : FR σ (rS u t) := ⟨rS_W h.1 t, by rw [rS_n (by omega) (by omega)]; exact h.2⟩
/-- the sheet that is asked -/
def shM (md : Nat) (σ : Sg) (s m : Nat) : Prop := md = 2 → s < 4 ∧ m ≤ 40 ∧ σ 82 s = nI m
theorem shM.w {md : Nat} {σ u : Sg} {s m : Nat} (h : shM md σ s m) (hf : EqW σ u) : shM md u s m := fun q => ⟨(h q).1, (h q).2.1, by rw [hf.1 82 (by omega) (by omega)]; exact (h q).2.2⟩
abbrev gS (σ : Sg) (s : Nat) : Nat → Int32 := fun i => σ 83 (40 * s + i)
theorem c_ended {l : Launch} {E : En} {σ : Sg} {md : Nat} {v : Int32} {s m : Nat} {B : Bst} (hmd : md < 3) (hB : Bs md B σ) (hs : shM md σ s m) : MN l yX9_ended cX9_ended 6 none rmX9_ended E [.ref (ad E 73), .int v, .int (nI md), .int (nI s)] σ (fun r u => r = none ∧ (∀ c, c ≠ 73 → u c = σ c) ∧ (∀ j, j ≠ 8 → j < 12 ∨ 15 < j → u 73 j = σ 73 j) ∧ Bs md (stp md (gS σ s) m v (σ 74, σ 73 6, σ 73 7) B) u) := by
  rcases (show md = 0 ∨ md = 1 ∨ md = 2 by omega) with rfl | rfl | rfl
  · exact c_X9_ended0 hB
  · exact c_X9_ended1 hB
  · obtain ⟨h1, h2, h3⟩ := hs rfl
    exact c_X9_ended2 hB h1 h2 h3
theorem FRe {σ u : Sg} (h1 : ∀ c, c ≠ 73 → u c = σ c) (h2 : ∀ j, j ≠ 8 → j < 12 ∨ 15 < j → u 73 j = σ 73 j) : FR σ u := ⟨⟨fun c hc _ => h1 c (fun e => hc (Or.inl e)), fun j hj h8 h9 => h2 j h8 (by
    unfold SY at hj; omega)⟩, h1 76 (by omega)⟩
theorem Bs_8 {md : Nat} {B : Bst} {u : Sg} (h : Bs md B u) : u 73 8 = flM md B ∧ u 73 9 = waM md := ⟨h.2.2.2.1, h.2.2.2.2⟩
theorem gS_w {σ u : Sg} (h : EqW σ u) (s : Nat) : gS u s = gS σ s := by unfold gS; rw [h.1 83 (by omega) (by omega)]
/-- a visit, by the best so far -/
theorem c_visB {l : Launch} {E : En} {σ : Sg} {md : Nat} {B : Bst} {b : Nat} {s : Int32} (hB : Bs md B σ) (hG : GV (σ 74)) (hb : b ≤ 7) (hs : inP s 1 12) (hz : σ 73 5 = 0) (h7 : σ 73 7 = 0) : MD l yX9_visits cX9_visits 3 none rmX9_visits E [.ref (ad E 73), .int (nI b), .int s] σ none (rS σ (vis (waM md) (flM md B) s b (σ 74, σ 73 6, 0))) := by
  have q := c_X9_visits (l := l) (E := E) (b := b) (s := s) hG hb hs hz
  rw [(Bs_8 hB).1, (Bs_8 hB).2, h7] at q
  exact q
theorem T10 (t c : Nat) : (10 : Int32) * nI t + nI c = nI (10 * t + c) := by
  show nI 10 * nI t + nI c = _
  rw [nI_mul, nI_add]
theorem lgT_f {wa s : Int32} {t : Tri} {b : Nat} (hG : GV t.1) (hb : b ≤ 7) (h0 : 0 ≤ t.2.1) (ha : t.2.1 ≤ 400) : GV (lgT wa s t b).1 ∧ 0 ≤ (lgT wa s t b).2.1 ∧ (lgT wa s t b).2.1 ≤ 400 ∧ nh (lgT wa s t b).1 = nh t.1 :=
  ⟨GV_legV hG hb, lgA_0 (GV_goF hG hb).1 h0 _, Int32.le_trans legA_le ha, nh_legV⟩

theorem c_X9_thirds {l : Launch} {E : En} {σ : Sg} {md told sh m : Nat} {s : Int32} {B : Bst} (hmd : md < 3) (hB : Bs md B σ) (hsh : shM md σ sh m) (hG : GV (σ 74)) (hs : inP s 1 12) (hz : σ 73 5 = 0) (h7 : σ 73 7 = 0) (h0 : 0 ≤ σ 73 6) (h40 : σ 73 6 ≤ 400) : MN l yX9_thirds cX9_thirds 6 none rmX9_thirds E [.ref (ad E 73), .int (nI told), .int s, .int (nI md), .int (nI sh)] σ (fun r u => r = none ∧ FR σ u ∧ u 10 = σ 10 ∧ u 79 0 = σ 79 0 ∧ Bs md (fC md (gS σ sh) m s told (σ 74, σ 73 6, (0 : Int32)) (nh (σ 74)) B) u) := by
  refine MN_of (by decide +kernel) rfl fun x C hE hT hcan => ?_
  have C : CX x cX9_thirds RX9 rmX9_thirds := C
  have h8 : nh (σ 74) ≤ 8 := (hcan.2.1 74 (by omega) (by omega)).2.1
  have hn1 := (hcan.2.1 74 (by omega) (by omega)).1
  refine V_L (L' := [some (.ref (ad E 73)), some (.int (nI told)), some (.int s), some (.int (nI md)), some (.int (nI sh)), none]) rfl ?_
  refine V_aload_n C dX9_thirds_0 rfl ?_
  refine V_iconst C 1 dX9_thirds_1 (by decide) ?_
  refine V_cv0 C hE dX9_thirds_2 (c_X9_stands (k := 1) (by omega)) kyX9_stands q1238 (isoO 73 rfl rfl rfl rfl) rfl rfl rfl ?_
  refine V_iconst C 0 dX9_thirds_5 (by decide) ?_
  refine V_istore C dX9_thirds_6 rfl ?_
  have lp : ∀ (d i : Nat) (u : Sg), i + d = nh (σ 74) → (FR σ u) → (u 74 = σ 74) → (u 73 6 = σ 73 6) → (u 73 7 = 0) → (u 73 5 = 0) → (Bs md (fC md (gS σ sh) m s told (σ 74, σ 73 6, (0 : Int32)) i B) u) → (u 10 = σ 10) → (u 11 = σ 74) → (u 79 0 = σ 79 0) → (u 79 1 = σ 73 6) → V x (eA E) (AP x E (u)) 0 0 8 [some (.ref (ad E 73)), some (.int (nI told)), some (.int s), some (.int (nI md)), some (.int (nI sh)), some (.int (nI i))] [] := by
    intro d
    induction d with
    | zero =>
      intro i u hi' hF h74 h736 hu7 hzu hBi h10 h11 h790 h791
      have hN : i = nh (σ 74) := by omega
      refine V_iload C dX9_thirds_8 rfl ?_
      refine V_aload_n C dX9_thirds_10 rfl ?_
      refine V_get C dX9_thirds_11 (rdO (j := 0) 73 rfl rfl rfl rfl rfl) in_X9 (by decide) q907 rfl ?_
      refine V_iconst C 1 dX9_thirds_14 (by decide) ?_
      refine V_iald C 1 rfl rfl rfl dX9_thirds_15 (rdM 74 1 rfl rfl rfl) ?_
      refine V_icmp_ge C dX9_thirds_16 (fun c16 => ?_) (fun c16 => absurd (by rw [h74, hn1, hN] <;> exact nI_le (Nat.le_refl _) (by omega)) c16)
      exact V_retN C dX9_thirds_51 hT ⟨rfl, hF, h10, h790, by rw [← hN]; exact hBi⟩
    | succ d ih =>
      intro i u hi' hF h74 h736 hu7 hzu hBi h10 h11 h790 h791
      refine V_iload C dX9_thirds_8 rfl ?_
      refine V_aload_n C dX9_thirds_10 rfl ?_
      refine V_get C dX9_thirds_11 (rdO (j := 0) 73 rfl rfl rfl rfl rfl) in_X9 (by decide) q907 rfl ?_
      refine V_iconst C 1 dX9_thirds_14 (by decide) ?_
      refine V_iald C 1 rfl rfl rfl dX9_thirds_15 (rdM 74 1 rfl rfl rfl) ?_
      refine V_icmp_ge C dX9_thirds_16 (fun c16 => absurd c16 (by rw [h74, hn1]; exact nI_ge (by omega) (by omega))) (fun c16 => ?_)
      refine V_aload_n C dX9_thirds_19 rfl ?_
      refine V_iload C dX9_thirds_20 rfl ?_
      refine V_iload_n C dX9_thirds_22 rfl ?_
      refine V_cv0 C hE dX9_thirds_23 (c_visB (b := i) (s := s) hBi (by rw [h74]; exact hG) (by omega) hs hzu hu7) kyX9_visits q1210 (isoO 73 rfl rfl rfl rfl) rfl rfl rfl ?_
      rw [h74, h736]
      refine V_gn (Pu := fun w => (w 74, w 73 6, w 73 7) = vis (waM md) (flM md (fC md (gS σ sh) m s told (σ 74, σ 73 6, (0 : Int32)) i B)) s i (σ 74, σ 73 6, (0 : Int32)) ∧ FR σ w ∧ Bs md (fC md (gS σ sh) m s told (σ 74, σ 73 6, (0 : Int32)) i B) w ∧ w 10 = σ 10 ∧ w 11 = σ 74 ∧ w 79 0 = σ 79 0 ∧ w 79 1 = σ 73 6 ∧ w 73 5 = 0) ⟨by rw [rS_74, rS_6, rS_7], hF.r _, Bs_r hBi, by rw [rS_n (by omega) (by omega)]; exact h10, by rw [rS_n (by omega) (by omega)]; exact h11, by rw [rS_n (by omega) (by omega)]; exact h790, by rw [rS_n (by omega) (by omega)]; exact h791, by rw [rS_j (by omega) (by omega)]; exact hzu⟩ ?_
      rintro w ⟨w1, w3, w4, w5, w6, w7, w8, w9⟩
      refine V_aload_n C dX9_thirds_26 rfl ?_
      refine V_bipush C 10 dX9_thirds_27 (by decide) ?_
      refine V_iload_n C dX9_thirds_29 rfl ?_
      refine V_imul C dX9_thirds_30 ?_
      refine V_iload C dX9_thirds_31 rfl ?_
      refine V_iadd C dX9_thirds_33 ?_
      refine V_iload_n C dX9_thirds_34 rfl ?_
      refine V_iload C dX9_thirds_35 rfl ?_
      refine V_st (st' := [.int (nI sh), .int (nI md), .int (nI (10 * told + i)), .ref (ad E 73)]) (by rw [← T10]) ?_
      refine V_cqv C hE dX9_thirds_37 (c_ended (v := nI (10 * told + i)) (s := sh) (m := m) hmd w4 (hsh.w w3.1)) kyX9_ended q1246 (isoO 73 rfl rfl rfl rfl) rfl rfl rfl ?_
      rintro u2 ⟨e1, e2, e3⟩
      refine V_aload_n C dX9_thirds_40 rfl ?_
      refine V_iconst C 1 dX9_thirds_41 (by decide) ?_
      refine V_cv0 C hE dX9_thirds_42 (c_X9_standsAgain (k := 1) (by omega)) kyX9_standsAgain q1250 (isoO 73 rfl rfl rfl rfl) rfl rfl rfl ?_
      refine V_gn (Pu := fun z => FR σ z ∧ z 74 = σ 74 ∧ z 73 6 = σ 73 6 ∧ z 73 7 = 0 ∧ z 73 5 = 0 ∧ Bs md (fC md (gS σ sh) m s told (σ 74, σ 73 6, (0 : Int32)) (i+1) B) z ∧ z 10 = σ 10 ∧ z 11 = σ 74 ∧ z 79 0 = σ 79 0 ∧ z 79 1 = σ 73 6) ⟨(w3.tr (FRe e1 e2)).r _, by rw [rS_74]; show u2 11 = _; rw [e1 11 (by omega)]; exact w6, by rw [rS_6, e1 79 (by omega)]; exact w8, by rw [rS_7], by rw [rS_j (by omega) (by omega), e2 5 (by omega) (by omega)]; exact w9, Bs_r (by rw [w1, gS_w w3.1, vis_stp hmd hG (by omega) h0 h40] at e3; exact e3), by rw [rS_n (by omega) (by omega), e1 10 (by omega)]; exact w5, by rw [rS_n (by omega) (by omega), e1 11 (by omega)]; exact w6, by rw [rS_n (by omega) (by omega), e1 79 (by omega)]; exact w7, by rw [rS_n (by omega) (by omega), e1 79 (by omega)]; exact w8⟩ ?_
      rintro z ⟨z1, z2, z3, z4, z5, z6, z7, z8, z9, z10⟩
      refine V_iinc C 1 dX9_thirds_45 rfl (by decide) rfl ?_
      refine V_goto C dX9_thirds_48 ?_
      exact V_nx rfl (by simp [← nI_1] <;> rfl) (ih (i + 1) z (by omega) z1 z2 z3 z4 z5 z6 z7 z8 z9 z10)
  exact lp (nh (σ 74)) 0 _ (by omega) ⟨((EqW.rf σ).put (by omega) (by omega)).put (by omega) (by omega), by simp (disch := omega) only [us_s, us_n]⟩ (by simp (disch := omega) only [us_s, us_n]) (by simp (disch := omega) only [us_s, us_n]) (by simp (disch := omega) only [us_s, us_n]; exact h7) (by simp (disch := omega) only [us_s, us_n]; exact hz) (Bs_us (Bs_us hB (by omega)) (by omega)) (by simp (disch := omega) only [us_s, us_n]) (by simp (disch := omega) only [us_s, us_n] <;> rfl) (by simp (disch := omega) only [us_s, us_n]; exact upd_n (by omega)) (by simp (disch := omega) only [us_s, us_n] <;> exact upd_s _ _ _)

theorem c_X9_seconds {l : Launch} {E : En} {σ : Sg} {md told sh m : Nat} {s : Int32} {B : Bst} (hmd : md < 3) (hB : Bs md B σ) (hsh : shM md σ sh m) (hG : GV (σ 74)) (hs : inP s 1 12) (hz : σ 73 5 = 0) (h7 : σ 73 7 = 0) (h0 : 0 ≤ σ 73 6) (h40 : σ 73 6 ≤ 400) : MN l yX9_seconds cX9_seconds 6 none rmX9_seconds E [.ref (ad E 73), .int (nI told), .int s, .int (nI md), .int (nI sh)] σ (fun r u => r = none ∧ FR σ u ∧ Bs md (fB md (gS σ sh) m s told (σ 74, σ 73 6, (0 : Int32)) (nh (σ 74)) B) u) := by
  refine MN_of (by decide +kernel) rfl fun x C hE hT hcan => ?_
  have C : CX x cX9_seconds RX9 rmX9_seconds := C
  have h8 : nh (σ 74) ≤ 8 := (hcan.2.1 74 (by omega) (by omega)).2.1
  have hn1 := (hcan.2.1 74 (by omega) (by omega)).1
  refine V_L (L' := [some (.ref (ad E 73)), some (.int (nI told)), some (.int s), some (.int (nI md)), some (.int (nI sh)), none]) rfl ?_
  refine V_aload_n C dX9_seconds_0 rfl ?_
  refine V_iconst C 0 dX9_seconds_1 (by decide) ?_
  refine V_cv0 C hE dX9_seconds_2 (c_X9_stands (k := 0) (by omega)) kyX9_stands q1238 (isoO 73 rfl rfl rfl rfl) rfl rfl rfl ?_
  refine V_iconst C 0 dX9_seconds_5 (by decide) ?_
  refine V_istore C dX9_seconds_6 rfl ?_
  have lp : ∀ (d i : Nat) (u : Sg), i + d = nh (σ 74) → (FR σ u) → (u 74 = σ 74) → (u 73 6 = σ 73 6) → (u 73 7 = 0) → (u 73 5 = 0) → (Bs md (fBk md (gS σ sh) m s told (σ 74, σ 73 6, (0 : Int32)) (nh (σ 74)) i B) u) → (u 10 = σ 74) → (u 79 0 = σ 73 6) → V x (eA E) (AP x E (u)) 0 0 8 [some (.ref (ad E 73)), some (.int (nI told)), some (.int s), some (.int (nI md)), some (.int (nI sh)), some (.int (nI i))] [] := by
    intro d
    induction d with
    | zero =>
      intro i u hi' hF h74 h736 hu7 hzu hBi h10 h790
      have hN : i = nh (σ 74) := by omega
      refine V_iload C dX9_seconds_8 rfl ?_
      refine V_aload_n C dX9_seconds_10 rfl ?_
      refine V_get C dX9_seconds_11 (rdO (j := 0) 73 rfl rfl rfl rfl rfl) in_X9 (by decide) q907 rfl ?_
      refine V_iconst C 1 dX9_seconds_14 (by decide) ?_
      refine V_iald C 1 rfl rfl rfl dX9_seconds_15 (rdM 74 1 rfl rfl rfl) ?_
      refine V_icmp_ge C dX9_seconds_16 (fun c16 => ?_) (fun c16 => absurd (by rw [h74, hn1, hN] <;> exact nI_le (Nat.le_refl _) (by omega)) c16)
      exact V_retN C dX9_seconds_59 hT ⟨rfl, hF, by have z := hBi; rw [hN] at z; exact z⟩
    | succ d ih =>
      intro i u hi' hF h74 h736 hu7 hzu hBi h10 h790
      refine V_iload C dX9_seconds_8 rfl ?_
      refine V_aload_n C dX9_seconds_10 rfl ?_
      refine V_get C dX9_seconds_11 (rdO (j := 0) 73 rfl rfl rfl rfl rfl) in_X9 (by decide) q907 rfl ?_
      refine V_iconst C 1 dX9_seconds_14 (by decide) ?_
      refine V_iald C 1 rfl rfl rfl dX9_seconds_15 (rdM 74 1 rfl rfl rfl) ?_
      refine V_icmp_ge C dX9_seconds_16 (fun c16 => absurd c16 (by rw [h74, hn1]; exact nI_ge (by omega) (by omega))) (fun c16 => ?_)
      refine V_aload_n C dX9_seconds_19 rfl ?_
      refine V_iload C dX9_seconds_20 rfl ?_
      refine V_iload_n C dX9_seconds_22 rfl ?_
      refine V_cv0 C hE dX9_seconds_23 (c_visB (b := i) (s := s) hBi (by rw [h74]; exact hG) (by omega) hs hzu hu7) kyX9_visits q1210 (isoO 73 rfl rfl rfl rfl) rfl rfl rfl ?_
      rw [h74, h736]
      refine V_gn (Pu := fun w => (w 74, w 73 6, w 73 7) = vis (waM md) (flM md (fBk md (gS σ sh) m s told (σ 74, σ 73 6, (0 : Int32)) (nh (σ 74)) i B)) s i (σ 74, σ 73 6, (0 : Int32)) ∧ FR σ w ∧ Bs md (fBk md (gS σ sh) m s told (σ 74, σ 73 6, (0 : Int32)) (nh (σ 74)) i B) w ∧ w 10 = σ 74 ∧ w 79 0 = σ 73 6 ∧ w 73 5 = 0) ⟨by rw [rS_74, rS_6, rS_7], hF.r _, Bs_r hBi, by rw [rS_n (by omega) (by omega)]; exact h10, by rw [rS_n (by omega) (by omega)]; exact h790, by rw [rS_j (by omega) (by omega)]; exact hzu⟩ ?_
      rintro w ⟨w1, w3, w4, w5, w7, w9⟩
      refine V_aload_n C dX9_seconds_26 rfl ?_
      refine V_cv C hE dX9_seconds_27 (c_X9_isDone) kyX9_isDone q1218 (isoO 73 rfl rfl rfl rfl) rfl rfl rfl ?_
      rw [(Bs_8 w4).1]
      by_cases hdn : dnP (flM md (fBk md (gS σ sh) m s told (σ 74, σ 73 6, (0 : Int32)) (nh (σ 74)) i B)) (w 73 6) (w 73 7)
      · have hdn0 := hdn
        rw [show w 73 6 = (vis (waM md) (flM md (fBk md (gS σ sh) m s told (σ 74, σ 73 6, (0 : Int32)) (nh (σ 74)) i B)) s i (σ 74, σ 73 6, (0 : Int32))).2.1 from congrArg (fun t : Tri => t.2.1) w1, show w 73 7 = (vis (waM md) (flM md (fBk md (gS σ sh) m s told (σ 74, σ 73 6, (0 : Int32)) (nh (σ 74)) i B)) s i (σ 74, σ 73 6, (0 : Int32))).2.2 from congrArg (fun t : Tri => t.2.2) w1] at hdn
        refine V_st (st' := [.int (bI (dnP (flM md (fBk md (gS σ sh) m s told (σ 74, σ 73 6, (0 : Int32)) (nh (σ 74)) i B)) (w 73 6) (w 73 7)))]) rfl ?_
        refine V_ifne_b C dX9_seconds_30 (fun c30 => ?_) (fun c30 => absurd (hdn0) c30)
        refine V_aload_n C dX9_seconds_48 rfl ?_
        refine V_iconst C 0 dX9_seconds_49 (by decide) ?_
        refine V_cv0 C hE dX9_seconds_50 (c_X9_standsAgain (k := 0) (by omega)) kyX9_standsAgain q1250 (isoO 73 rfl rfl rfl rfl) rfl rfl rfl ?_
        refine V_gn (Pu := fun z => FR σ z ∧ z 74 = σ 74 ∧ z 73 6 = σ 73 6 ∧ z 73 7 = 0 ∧ z 73 5 = 0 ∧ Bs md (fBk md (gS σ sh) m s told (σ 74, σ 73 6, (0 : Int32)) (nh (σ 74)) (i+1) B) z ∧ z 10 = σ 74 ∧ z 79 0 = σ 73 6) ⟨w3.r _, by rw [rS_74]; exact w5, by rw [rS_6]; exact w7, by rw [rS_7], by rw [rS_j (by omega) (by omega)]; exact w9, Bs_r (by show Bs md (fC md (gS σ sh) m s (10 * told + i) (lgT (waM md) s (σ 74, σ 73 6, (0 : Int32)) i) (nh (σ 74)) (fBk md (gS σ sh) m s told (σ 74, σ 73 6, (0 : Int32)) (nh (σ 74)) i B)) w; rw [fC_id (lgT_01 (Or.inl rfl)) ((vis_c hG (by omega) h0 h40).2 hdn)]; exact w4), by rw [rS_n (by omega) (by omega)]; exact w5, by rw [rS_n (by omega) (by omega)]; exact w7⟩ ?_
        rintro z ⟨z1, z2, z3, z4, z5, z6, z7, z8⟩
        refine V_iinc C 1 dX9_seconds_53 rfl (by decide) rfl ?_
        refine V_goto C dX9_seconds_56 ?_
        exact V_nx rfl (by simp [← nI_1] <;> rfl) (ih (i + 1) z (by omega) z1 z2 z3 z4 z5 z6 z7 z8)
      · have hnd := hdn
        rw [show w 73 6 = (vis (waM md) (flM md (fBk md (gS σ sh) m s told (σ 74, σ 73 6, (0 : Int32)) (nh (σ 74)) i B)) s i (σ 74, σ 73 6, (0 : Int32))).2.1 from congrArg (fun t : Tri => t.2.1) w1, show w 73 7 = (vis (waM md) (flM md (fBk md (gS σ sh) m s told (σ 74, σ 73 6, (0 : Int32)) (nh (σ 74)) i B)) s i (σ 74, σ 73 6, (0 : Int32))).2.2 from congrArg (fun t : Tri => t.2.2) w1] at hnd
        obtain ⟨q1, q2⟩ := (vis_c hG (show i ≤ 7 by omega) h0 h40).1 hnd
        have x0 : (w 74, w 73 6, w 73 7) = (lgT (waM md) s (σ 74, σ 73 6, (0 : Int32)) i) := w1.trans q1
        have x1 : w 74 = (lgT (waM md) s (σ 74, σ 73 6, (0 : Int32)) i).1 := congrArg (fun t : Tri => t.1) x0
        have x2 : w 73 6 = (lgT (waM md) s (σ 74, σ 73 6, (0 : Int32)) i).2.1 := congrArg (fun t : Tri => t.2.1) x0
        have x3 : w 73 7 = 0 := (congrArg (fun t : Tri => t.2.2) x0).trans q2
        refine V_ifne_b C dX9_seconds_30 (fun c30 => absurd c30 (hdn)) (fun c30 => ?_)
        refine V_aload_n C dX9_seconds_33 rfl ?_
        refine V_bipush C 10 dX9_seconds_34 (by decide) ?_
        refine V_iload_n C dX9_seconds_36 rfl ?_
        refine V_imul C dX9_seconds_37 ?_
        refine V_iload C dX9_seconds_38 rfl ?_
        refine V_iadd C dX9_seconds_40 ?_
        refine V_iload_n C dX9_seconds_41 rfl ?_
        refine V_iload_n C dX9_seconds_42 rfl ?_
        refine V_iload C dX9_seconds_43 rfl ?_
        refine V_st (st' := [.int (nI sh), .int (nI md), .int s, .int (nI (10 * told + i)), .ref (ad E 73)]) (by rw [← T10]) ?_
        refine V_cqv C hE dX9_seconds_45 (c_X9_thirds (told := 10 * told + i) (sh := sh) (m := m) (md := md) (s := s) (B := (fBk md (gS σ sh) m s told (σ 74, σ 73 6, (0 : Int32)) (nh (σ 74)) i B)) hmd w4 (hsh.w w3.1) (by rw [x1]; exact (lgT_f (t := (σ 74, σ 73 6, (0 : Int32))) hG (show i ≤ 7 by omega) h0 h40).1) hs w9 (by rw [x3]) (by rw [x2]; exact (lgT_f (t := (σ 74, σ 73 6, (0 : Int32))) hG (show i ≤ 7 by omega) h0 h40).2.1) (by rw [x2]; exact (lgT_f (t := (σ 74, σ 73 6, (0 : Int32))) hG (show i ≤ 7 by omega) h0 h40).2.2.1)) kyX9_thirds q1242 (isoO 73 rfl rfl rfl rfl) rfl rfl rfl ?_
        rintro u2 ⟨e1, e2, e3, e4⟩
        have y1 : (w 74, w 73 6, (0 : Int32)) = (lgT (waM md) s (σ 74, σ 73 6, (0 : Int32)) i) := by rw [← x0, ← x3]
        have y2 : nh (w 74) = nh (lgT (waM md) s (σ 74, σ 73 6, (0 : Int32)) i).1 := by rw [x1]
        have y3 := trivial
        rw [y1] at e4
        refine V_aload_n C dX9_seconds_48 rfl ?_
        refine V_iconst C 0 dX9_seconds_49 (by decide) ?_
        refine V_cv0 C hE dX9_seconds_50 (c_X9_standsAgain (k := 0) (by omega)) kyX9_standsAgain q1250 (isoO 73 rfl rfl rfl rfl) rfl rfl rfl ?_
        refine V_gn (Pu := fun z => FR σ z ∧ z 74 = σ 74 ∧ z 73 6 = σ 73 6 ∧ z 73 7 = 0 ∧ z 73 5 = 0 ∧ Bs md (fBk md (gS σ sh) m s told (σ 74, σ 73 6, (0 : Int32)) (nh (σ 74)) (i+1) B) z ∧ z 10 = σ 74 ∧ z 79 0 = σ 73 6) ⟨(w3.tr e1).r _, by rw [rS_74]; show u2 10 = _; rw [e2]; exact w5, by rw [rS_6, e3]; exact w7, by rw [rS_7], by rw [rS_j (by omega) (by omega), e1.1.2 5 (by omega) (by omega) (by omega)]; exact w9, Bs_r (by show Bs md (fC md (gS σ sh) m s (10 * told + i) (lgT (waM md) s (σ 74, σ 73 6, (0 : Int32)) i) (nh (σ 74)) (fBk md (gS σ sh) m s told (σ 74, σ 73 6, (0 : Int32)) (nh (σ 74)) i B)) u2; rw [gS_w w3.1, y2, (lgT_f (t := (σ 74, σ 73 6, (0 : Int32))) hG (show i ≤ 7 by omega) h0 h40).2.2.2] at e4; exact e4), by rw [rS_n (by omega) (by omega), e2]; exact w5, by rw [rS_n (by omega) (by omega), e3]; exact w7⟩ ?_
        rintro z ⟨z1, z2, z3, z4, z5, z6, z7, z8⟩
        refine V_iinc C 1 dX9_seconds_53 rfl (by decide) rfl ?_
        refine V_goto C dX9_seconds_56 ?_
        exact V_nx rfl (by simp [← nI_1] <;> rfl) (ih (i + 1) z (by omega) z1 z2 z3 z4 z5 z6 z7 z8)
  exact lp (nh (σ 74)) 0 _ (by omega) ⟨((EqW.rf σ).put (by omega) (by omega)).put (by omega) (by omega), by simp (disch := omega) only [us_s, us_n]⟩ (by simp (disch := omega) only [us_s, us_n]) (by simp (disch := omega) only [us_s, us_n]) (by simp (disch := omega) only [us_s, us_n]; exact h7) (by simp (disch := omega) only [us_s, us_n]; exact hz) (Bs_us (Bs_us hB (by omega)) (by omega)) (by simp (disch := omega) only [us_s, us_n] <;> rfl) (by simp (disch := omega) only [us_s, us_n] <;> exact upd_s _ _ _)

