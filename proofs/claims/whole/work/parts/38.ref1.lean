theorem nI_mul (a b : Nat) : nI a * nI b = nI (a * b) := by simp [nI]
theorem at_eq (i j : Nat) : (15 : Int32) + 6 * nI i + nI j = nI (15+6*i+j) := by
  show nI 15 + nI 6 * nI i + nI j = _
  rw [nI_mul, nI_add, nI_add]
theorem l_lt (a b : Int32) : a.toInt64 < b.toInt64 ↔ a < b := by
  rw [Int64.lt_iff_toInt_lt, Int32.lt_iff_toInt_lt, Int32.toInt_toInt64, Int32.toInt_toInt64]
theorem in_lo {a lo : Int32} (h : lg_cmp a.toInt64 lo.toInt64 < 0) : ¬ lo ≤ a := by
  rw [lg_cmp_lt, l_lt] at h; exact Int32.not_le.mpr h
theorem in_lo' {a lo : Int32} (h : ¬ lg_cmp a.toInt64 lo.toInt64 < 0) : lo ≤ a := by
  rw [lg_cmp_lt, l_lt] at h; exact Int32.not_lt.mp h
theorem in_hi {a hi : Int32} (h : 0 < lg_cmp a.toInt64 hi.toInt64) : ¬ a ≤ hi := by
  rw [lg_cmp_gt, l_lt] at h; exact Int32.not_le.mpr h
theorem in_hi' {a hi : Int32} (h : ¬ 0 < lg_cmp a.toInt64 hi.toInt64) : a ≤ hi := by
  rw [lg_cmp_gt, l_lt] at h; exact Int32.not_lt.mp h
theorem isH_in {f : Nat → Int32} {h : Int32} (hc : Can f) : inP h 0 (f 1 - 1) ↔ isH f h := by
  have h8 := hc.2.1
  constructor
  · rintro ⟨a, b⟩
    refine ⟨a, ?_⟩
    rw [hc.1] at b ⊢
    cases e : nh f with
    | zero => rw [e] at b; exact absurd (Int32.le_trans a b) (by decide)
    | succ n =>
      rw [e, nI_pred] at b
      obtain ⟨k, rfl, hk⟩ := i32_le (m := n) (by omega) a b
      exact nI_lt (by omega) (by omega)
  · rintro ⟨a, b⟩
    refine ⟨a, ?_⟩
    rw [hc.1] at b ⊢
    obtain ⟨k, rfl, hk, -⟩ := i32_nat a
    have q := (nI_ltI hk (by omega)).mp b
    rw [nI_m1 (by omega)]
    exact nI_le (by omega) (by omega)
theorem isH_lt {f : Nat → Int32} {i : Nat} (hc : Can f) (h : i < nh f) : isH f (nI i) := (isH_nI hc (by have := hc.2.1; omega)).mpr h

theorem sw36 (a : Int32) : a = 3 ∨ a = 4 ∨ a = 5 ∨ a = 6 ∨ (a.toInt < 3 ∨ 6 < a.toInt) := by
  rcases Int.lt_or_le a.toInt 3 with h | h
  · exact Or.inr (Or.inr (Or.inr (Or.inr (Or.inl h))))
  rcases Int.lt_or_le 6 a.toInt with h2 | h2
  · exact Or.inr (Or.inr (Or.inr (Or.inr (Or.inr h2))))
  rcases (show a.toInt = 3 ∨ a.toInt = 4 ∨ a.toInt = 5 ∨ a.toInt = 6 by omega) with e | e | e | e
  · exact Or.inl (Int32.toInt_inj.mp (by rw [e]; rfl))
  · exact Or.inr (Or.inl (Int32.toInt_inj.mp (by rw [e]; rfl)))
  · exact Or.inr (Or.inr (Or.inl (Int32.toInt_inj.mp (by rw [e]; rfl))))
  · exact Or.inr (Or.inr (Or.inr (Or.inl (Int32.toInt_inj.mp (by rw [e]; rfl)))))
theorem sw36n {a : Int32} (h : a.toInt < 3 ∨ 6 < a.toInt) : ¬ a = 3 ∧ ¬ a = 5 ∧ ¬ a = 6 := by
  refine ⟨?_, ?_, ?_⟩ <;> (rintro rfl; revert h; decide)

theorem c_X9_in {l : Launch} {E : En} {σ : Sg} {a lo hi : Int32} {lo' hi' : Int64} (hl : lo' = lo.toInt64) (hh : hi' = hi.toInt64) : MD l yX9_in cX9_in 6 (some .boolean) rmX9_in E [.long a.toInt64, .long lo', .long hi'] σ (some (.int (bI (inP a lo hi)))) (σ) := by
  refine MD_of (by decide +kernel) rfl fun x C hE hT hcan => ?_
  have C : CX x cX9_in RX9 rmX9_in := C
  refine V_L (L' := [some (.long a.toInt64), none, some (.long lo'), none, some (.long hi'), none]) rfl ?_
  subst hl
  subst hh
  refine V_lload_n C dX9_in_0 rfl ?_
  refine V_lload_n C dX9_in_1 rfl ?_
  refine V_lcmp C dX9_in_2 ?_
  refine V_if_lt C dX9_in_3 (fun c3 => ?_) (fun c3 => ?_)
  · refine V_iconst C 0 dX9_in_17 (by decide) ?_
    exact V_zretD C dX9_in_18 hT (by first | exact (bI_t ⟨in_lo' c3, in_hi' c10⟩).symm | exact (bI_f (fun q => in_lo c3 q.1)).symm | exact (bI_f (fun q => in_hi c10 q.2)).symm) rfl
  · refine V_lload_n C dX9_in_6 rfl ?_
    refine V_lload C dX9_in_7 rfl ?_
    refine V_lcmp C dX9_in_9 ?_
    refine V_if_gt C dX9_in_10 (fun c10 => ?_) (fun c10 => ?_)
    · refine V_iconst C 0 dX9_in_17 (by decide) ?_
      exact V_zretD C dX9_in_18 hT (by first | exact (bI_t ⟨in_lo' c3, in_hi' c10⟩).symm | exact (bI_f (fun q => in_lo c3 q.1)).symm | exact (bI_f (fun q => in_hi c10 q.2)).symm) rfl
    · refine V_iconst C 1 dX9_in_13 (by decide) ?_
      refine V_goto C dX9_in_14 ?_
      exact V_zretD C dX9_in_18 hT (by first | exact (bI_t ⟨in_lo' c3, in_hi' c10⟩).symm | exact (bI_f (fun q => in_lo c3 q.1)).symm | exact (bI_f (fun q => in_hi c10 q.2)).symm) rfl

theorem c_X9_at {l : Launch} {E : En} {σ : Sg} {i j : Nat} {w : Int32} (hw : w = nI j) : MD l yX9_at cX9_at 2 (some .int) rmX9_at E [.int (nI i), .int w] σ (some (.int (nI (15+6*i+j)))) (σ) := by
  refine MD_of (by decide +kernel) rfl fun x C hE hT hcan => ?_
  have C : CX x cX9_at RX9 rmX9_at := C
  refine V_L (L' := [some (.int (nI i)), some (.int w)]) rfl ?_
  subst hw
  refine V_bipush C 15 dX9_at_0 (by decide) ?_
  refine V_bipush C 6 dX9_at_2 (by decide) ?_
  refine V_iload_n C dX9_at_4 rfl ?_
  refine V_imul C dX9_at_5 ?_
  refine V_iadd C dX9_at_6 ?_
  refine V_iload_n C dX9_at_7 rfl ?_
  refine V_iadd C dX9_at_8 ?_
  exact V_iretD C dX9_at_9 hT (at_eq i j) rfl

theorem c_X9_its {l : Launch} {E : En} {σ : Sg} {i j : Nat} {w : Int32} (hw : w = nI j) (hi : i < nh (σ 74)) (hj : j < 6) : MD l yX9_its cX9_its 3 (some .int) rmX9_its E [.ref (ad E 73), .int (nI i), .int w] σ (some (.int (hf (σ 74) i j))) (σ) := by
  refine MD_of (by decide +kernel) rfl fun x C hE hT hcan => ?_
  have C : CX x cX9_its RX9 rmX9_its := C
  have h8 : nh (σ 74) ≤ 8 := (hcan.2.1 74 (by omega) (by omega)).2.1
  have hi8 : i < 8 := by omega
  refine V_L (L' := [some (.ref (ad E 73)), some (.int (nI i)), some (.int w)]) rfl ?_
  subst hw
  refine V_aload_n C dX9_its_0 rfl ?_
  refine V_get C dX9_its_1 (rdO (j := 0) 73 rfl rfl rfl rfl rfl) in_X9 (by decide) q907 rfl ?_
  refine V_iload_n C dX9_its_4 rfl ?_
  refine V_iload_n C dX9_its_5 rfl ?_
  refine V_cs C hE dX9_its_6 (c_X9_at (j := j) rfl) kyX9_at q1004 rfl rfl rfl ?_
  refine V_ialdN C (15+6*i+j) rfl (by omega) (by omega) dX9_its_9 (rdMh 74 rfl rfl (by first | assumption | omega | (simp (disch := omega) only [us_s, us_n, nh_uh, nh_upd, nh_passN, nh_goF, nh_quarterF]; assumption)) j (by omega)) ?_
  exact V_iretD C dX9_its_10 hT rfl rfl

theorem c_X9_finds {l : Launch} {E : En} {σ : Sg} {j : Nat} {v : Int32} (hv : v = -1000001 - nI j) (hj : j < 7) : MD l yX9_finds cX9_finds 2 (some .int) rmX9_finds E [.ref (ad E 73), .int v] σ (some (.int v)) (us σ 77 (upd (σ 77) j (σ 77 j + 1))) := by
  refine MD_of (by decide +kernel) rfl fun x C hE hT hcan => ?_
  have C : CX x cX9_finds RX9 rmX9_finds := C
  have e : (-1000001 : Int32) - v = nI j := by rw [hv, Int32.sub_eq_add_neg, Int32.sub_eq_add_neg]; grind
  refine V_L (L' := [some (.ref (ad E 73)), some (.int v)]) rfl ?_
  refine V_aload_n C dX9_finds_0 rfl ?_
  refine V_get C dX9_finds_1 (rdO (j := 3) 73 rfl rfl rfl rfl rfl) in_X9 (by decide) q910 rfl ?_
  refine V_ldc C dX9_finds_4 q994 ?_
  refine V_iload_n C dX9_finds_6 rfl ?_
  refine V_isub C dX9_finds_7 ?_
  refine V_st (st' := [.int (nI j), .ref (ad E 77)]) (by rw [e]) ?_
  refine V_dup2 C dX9_finds_8 rfl rfl ?_
  refine V_ialdN C j rfl (hj) (by omega) dX9_finds_9 (rdOA 77 rfl rfl rfl) ?_
  refine V_iconst C 1 dX9_finds_10 (by decide) ?_
  refine V_iadd C dX9_finds_11 ?_
  refine V_iastN C j rfl (hj) (by omega) dX9_finds_12 (wrOA 77 rfl rfl (fun _ => rfl)) ?_
  refine V_iload_n C dX9_finds_13 rfl ?_
  exact V_iretD C dX9_finds_14 hT rfl rfl

theorem c_X9_isHouse {l : Launch} {E : En} {σ : Sg} {p0 : Int32}  : MD l yX9_isHouse cX9_isHouse 2 (some .boolean) rmX9_isHouse E [.ref (ad E 73), .int p0] σ (some (.int (bI (isH (σ 74) p0)))) (σ) := by
  refine MD_of (by decide +kernel) rfl fun x C hE hT hcan => ?_
  have C : CX x cX9_isHouse RX9 rmX9_isHouse := C
  refine V_L (L' := [some (.ref (ad E 73)), some (.int p0)]) rfl ?_
  refine V_iload_n C dX9_isHouse_0 rfl ?_
  refine V_i2l C dX9_isHouse_1 ?_
  refine V_lconst C 0 dX9_isHouse_2 (by decide) ?_
  refine V_aload_n C dX9_isHouse_3 rfl ?_
  refine V_get C dX9_isHouse_4 (rdO (j := 0) 73 rfl rfl rfl rfl rfl) in_X9 (by decide) q907 rfl ?_
  refine V_iconst C 1 dX9_isHouse_7 (by decide) ?_
  refine V_iald C 1 rfl rfl rfl dX9_isHouse_8 (rdM 74 1 rfl rfl rfl) ?_
  refine V_iconst C 1 dX9_isHouse_9 (by decide) ?_
  refine V_isub C dX9_isHouse_10 ?_
  refine V_i2l C dX9_isHouse_11 ?_
  refine V_cs C hE dX9_isHouse_12 (c_X9_in (a := p0) (lo := 0) (hi := σ 74 1 - 1) (by decide +kernel) rfl) kyX9_in q991 rfl rfl rfl ?_
  exact V_zretD C dX9_isHouse_15 hT (bI_congr (isH_in (hcan.2.1 74 (by omega) (by omega)))) rfl

theorem c_X9_draw {l : Launch} {E : En} {σ : Sg}   : MD l yX9_draw cX9_draw 1 (some .int) rmX9_draw E [.ref (ad E 73)] σ (some (.int (iush (drawF (σ 74) 7) 8))) (us σ 74 (drawF (σ 74))) := by
  refine MD_of (by decide +kernel) rfl fun x C hE hT hcan => ?_
  have C : CX x cX9_draw RX9 rmX9_draw := C
  refine V_L (L' := [some (.ref (ad E 73))]) rfl ?_
  refine V_aload_n C dX9_draw_0 rfl ?_
  refine V_get C dX9_draw_1 (rdO (j := 0) 73 rfl rfl rfl rfl rfl) in_X9 (by decide) q907 rfl ?_
  refine V_bipush C 7 dX9_draw_4 (by decide) ?_
  refine V_aload_n C dX9_draw_6 rfl ?_
  refine V_get C dX9_draw_7 (rdO (j := 0) 73 rfl rfl rfl rfl rfl) in_X9 (by decide) q907 rfl ?_
  refine V_bipush C 7 dX9_draw_10 (by decide) ?_
  refine V_iald C 7 rfl rfl rfl dX9_draw_12 (rdM 74 7 rfl rfl rfl) ?_
  try simp only [us_us, us_s]
  refine V_ldc C dX9_draw_13 q1278 ?_
  refine V_imul C dX9_draw_15 ?_
  refine V_sipush C 12345 dX9_draw_16 (by decide) ?_
  refine V_iadd C dX9_draw_19 ?_
  refine V_iast C 7 rfl rfl rfl dX9_draw_20 (wrM 74 7 rfl rfl rfl rfl) ?_
  try simp only [us_us, us_s]
  refine V_aload_n C dX9_draw_21 rfl ?_
  refine V_get C dX9_draw_22 (rdO (j := 0) 73 rfl rfl rfl rfl rfl) in_X9 (by decide) q907 rfl ?_
  refine V_bipush C 7 dX9_draw_25 (by decide) ?_
  refine V_iald C 7 rfl rfl rfl dX9_draw_27 (rdM 74 7 rfl rfl rfl) ?_
  try simp only [us_us, us_s]
  refine V_bipush C 8 dX9_draw_28 (by decide) ?_
  refine V_iushr C dX9_draw_30 ?_
  exact V_iretD C dX9_draw_31 hT (by simp only [drawF, upd_s]) rfl

theorem c_X9_heats {l : Launch} {E : En} {σ : Sg} {i : Nat} (hi : i < nh (σ 74)) : MD l yX9_heats cX9_heats 3 (some .int) rmX9_heats E [.ref (ad E 73), .int (nI i)] σ (some (.int (heatsV (hf (σ 74) i 0) (hf (σ 74) i 1)))) (σ) := by
  refine MD_of (by decide +kernel) rfl fun x C hE hT hcan => ?_
  have C : CX x cX9_heats RX9 rmX9_heats := C
  have h8 : nh (σ 74) ≤ 8 := (hcan.2.1 74 (by omega) (by omega)).2.1
  have hi8 : i < 8 := by omega
  refine V_L (L' := [some (.ref (ad E 73)), some (.int (nI i)), none]) rfl ?_
  refine V_aload_n C dX9_heats_0 rfl ?_
  refine V_iload_n C dX9_heats_1 rfl ?_
  refine V_iconst C 1 dX9_heats_2 (by decide) ?_
  refine V_cv C hE dX9_heats_3 (c_X9_its (j := 1) rfl (by first | assumption | omega | (simp (disch := omega) only [us_s, us_n, nh_uh, nh_upd, nh_passN, nh_goF, nh_quarterF]; assumption)) (by omega)) kyX9_its q1016 (isoO 73 rfl rfl rfl rfl) rfl rfl rfl ?_
  refine V_sipush C 200 dX9_heats_6 (by decide) ?_
  refine V_icmp_ge C dX9_heats_9 (fun c9 => ?_) (fun c9 => ?_)
  · refine V_iconst C 0 dX9_heats_17 (by decide) ?_
    refine V_istore_n C dX9_heats_18 rfl ?_
    refine V_aload_n C dX9_heats_19 rfl ?_
    refine V_iload_n C dX9_heats_20 rfl ?_
    refine V_iconst C 0 dX9_heats_21 (by decide) ?_
    refine V_cv C hE dX9_heats_22 (c_X9_its (j := 0) rfl (by first | assumption | omega | (simp (disch := omega) only [us_s, us_n, nh_uh, nh_upd, nh_passN, nh_goF, nh_quarterF]; assumption)) (by omega)) kyX9_its q1016 (isoO 73 rfl rfl rfl rfl) rfl rfl rfl ?_
    rcases sw36 (hf (σ 74) i 0) with h3 | h4 | h5 | h6 | hsw
    · refine V_tableIn (tgt := 56) C dX9_heats_25 (by rw [h3]; decide) (by rw [h3]; decide) (by rw [h3]; rfl) (by decide) ?_
      refine V_bipush C 30 dX9_heats_56 (by decide) ?_
      exact V_iretD C dX9_heats_58 hT (by first | (simp [heatsV, h3]; done) | (simp [heatsV, h4]; done) | (simp [heatsV, h5, c9]; grind) | (simp [heatsV, h6, c9]; grind) | (have := sw36n hsw; simp [heatsV, this]; done) | grind [heatsV]) rfl
    · refine V_tableIn (tgt := 66) C dX9_heats_25 (by rw [h4]; decide) (by rw [h4]; decide) (by rw [h4]; rfl) (by decide) ?_
      refine V_bipush C 40 dX9_heats_66 (by decide) ?_
      exact V_iretD C dX9_heats_68 hT (by first | (simp [heatsV, h3]; done) | (simp [heatsV, h4]; done) | (simp [heatsV, h5, c9]; grind) | (simp [heatsV, h6, c9]; grind) | (have := sw36n hsw; simp [heatsV, this]; done) | grind [heatsV]) rfl
    · refine V_tableIn (tgt := 59) C dX9_heats_25 (by rw [h5]; decide) (by rw [h5]; decide) (by rw [h5]; rfl) (by decide) ?_
      refine V_iload_n C dX9_heats_59 rfl ?_
      exact V_iretD C dX9_heats_60 hT (by first | (simp [heatsV, h3]; done) | (simp [heatsV, h4]; done) | (simp [heatsV, h5, c9]; grind) | (simp [heatsV, h6, c9]; grind) | (have := sw36n hsw; simp [heatsV, this]; done) | grind [heatsV]) rfl
    · refine V_tableIn (tgt := 61) C dX9_heats_25 (by rw [h6]; decide) (by rw [h6]; decide) (by rw [h6]; rfl) (by decide) ?_
      refine V_iload_n C dX9_heats_61 rfl ?_
      refine V_bipush C 20 dX9_heats_62 (by decide) ?_
      refine V_iadd C dX9_heats_64 ?_
      exact V_iretD C dX9_heats_65 hT (by first | (simp [heatsV, h3]; done) | (simp [heatsV, h4]; done) | (simp [heatsV, h5, c9]; grind) | (simp [heatsV, h6, c9]; grind) | (have := sw36n hsw; simp [heatsV, this]; done) | grind [heatsV]) rfl
    · refine V_tableOut (tgt := 66) C dX9_heats_25 (hsw) (by decide) ?_
      refine V_bipush C 40 dX9_heats_66 (by decide) ?_
      exact V_iretD C dX9_heats_68 hT (by first | (simp [heatsV, h3]; done) | (simp [heatsV, h4]; done) | (simp [heatsV, h5, c9]; grind) | (simp [heatsV, h6, c9]; grind) | (have := sw36n hsw; simp [heatsV, this]; done) | grind [heatsV]) rfl
  · refine V_bipush C 40 dX9_heats_12 (by decide) ?_
    refine V_goto C dX9_heats_14 ?_
    refine V_istore_n C dX9_heats_18 rfl ?_
    refine V_aload_n C dX9_heats_19 rfl ?_
    refine V_iload_n C dX9_heats_20 rfl ?_
    refine V_iconst C 0 dX9_heats_21 (by decide) ?_
    refine V_cv C hE dX9_heats_22 (c_X9_its (j := 0) rfl (by first | assumption | omega | (simp (disch := omega) only [us_s, us_n, nh_uh, nh_upd, nh_passN, nh_goF, nh_quarterF]; assumption)) (by omega)) kyX9_its q1016 (isoO 73 rfl rfl rfl rfl) rfl rfl rfl ?_
    rcases sw36 (hf (σ 74) i 0) with h3 | h4 | h5 | h6 | hsw
    · refine V_tableIn (tgt := 56) C dX9_heats_25 (by rw [h3]; decide) (by rw [h3]; decide) (by rw [h3]; rfl) (by decide) ?_
      refine V_bipush C 30 dX9_heats_56 (by decide) ?_
      exact V_iretD C dX9_heats_58 hT (by first | (simp [heatsV, h3]; done) | (simp [heatsV, h4]; done) | (simp [heatsV, h5, c9]; grind) | (simp [heatsV, h6, c9]; grind) | (have := sw36n hsw; simp [heatsV, this]; done) | grind [heatsV]) rfl
    · refine V_tableIn (tgt := 66) C dX9_heats_25 (by rw [h4]; decide) (by rw [h4]; decide) (by rw [h4]; rfl) (by decide) ?_
      refine V_bipush C 40 dX9_heats_66 (by decide) ?_
      exact V_iretD C dX9_heats_68 hT (by first | (simp [heatsV, h3]; done) | (simp [heatsV, h4]; done) | (simp [heatsV, h5, c9]; grind) | (simp [heatsV, h6, c9]; grind) | (have := sw36n hsw; simp [heatsV, this]; done) | grind [heatsV]) rfl
    · refine V_tableIn (tgt := 59) C dX9_heats_25 (by rw [h5]; decide) (by rw [h5]; decide) (by rw [h5]; rfl) (by decide) ?_
      refine V_iload_n C dX9_heats_59 rfl ?_
      exact V_iretD C dX9_heats_60 hT (by first | (simp [heatsV, h3]; done) | (simp [heatsV, h4]; done) | (simp [heatsV, h5, c9]; grind) | (simp [heatsV, h6, c9]; grind) | (have := sw36n hsw; simp [heatsV, this]; done) | grind [heatsV]) rfl
    · refine V_tableIn (tgt := 61) C dX9_heats_25 (by rw [h6]; decide) (by rw [h6]; decide) (by rw [h6]; rfl) (by decide) ?_
      refine V_iload_n C dX9_heats_61 rfl ?_
      refine V_bipush C 20 dX9_heats_62 (by decide) ?_
      refine V_iadd C dX9_heats_64 ?_
      exact V_iretD C dX9_heats_65 hT (by first | (simp [heatsV, h3]; done) | (simp [heatsV, h4]; done) | (simp [heatsV, h5, c9]; grind) | (simp [heatsV, h6, c9]; grind) | (have := sw36n hsw; simp [heatsV, this]; done) | grind [heatsV]) rfl
    · refine V_tableOut (tgt := 66) C dX9_heats_25 (hsw) (by decide) ?_
      refine V_bipush C 40 dX9_heats_66 (by decide) ?_
      exact V_iretD C dX9_heats_68 hT (by first | (simp [heatsV, h3]; done) | (simp [heatsV, h4]; done) | (simp [heatsV, h5, c9]; grind) | (simp [heatsV, h6, c9]; grind) | (have := sw36n hsw; simp [heatsV, this]; done) | grind [heatsV]) rfl

theorem c_X9_loses {l : Launch} {E : En} {σ : Sg} {i : Nat} (hi : i < nh (σ 74)) (hw : 1 ≤ hf (σ 74) i 2) : MD l yX9_loses cX9_loses 4 (some .int) rmX9_loses E [.ref (ad E 73), .int (nI i)] σ (some (.int (losesV (hf (σ 74) i 0) (hf (σ 74) i 1) (hf (σ 74) i 2) (σ 74 6)))) (σ) := by
  refine MD_of (by decide +kernel) rfl fun x C hE hT hcan => ?_
  have C : CX x cX9_loses RX9 rmX9_loses := C
  have h8 : nh (σ 74) ≤ 8 := (hcan.2.1 74 (by omega) (by omega)).2.1
  have hi8 : i < 8 := by omega
  have hwl : ¬ hf (σ 74) i 2 = 0 := fun q => absurd (q ▸ hw : 1 ≤ (0:Int32)) (by decide)
  refine V_L (L' := [some (.ref (ad E 73)), some (.int (nI i)), none, none]) rfl ?_
  have j41 : V x (eA E) (AP x E σ) 0 0 41 [some (.ref (ad E 73)), some (.int (nI i)), none, none] [.int (plainV (hf (σ 74) i 1) (hf (σ 74) i 2) (σ 74 6))] := by
    refine V_istore_n C dX9_loses_41 rfl ?_
    refine V_aload_n C dX9_loses_42 rfl ?_
    refine V_iload_n C dX9_loses_43 rfl ?_
    refine V_iconst C 0 dX9_loses_44 (by decide) ?_
    refine V_cv C hE dX9_loses_45 (c_X9_its (j := 0) rfl (by first | assumption | omega | (simp (disch := omega) only [us_s, us_n, nh_uh, nh_upd, nh_passN, nh_goF, nh_quarterF]; assumption)) (by omega)) kyX9_its q1016 (isoO 73 rfl rfl rfl rfl) rfl rfl rfl ?_
    refine V_istore_n C dX9_loses_48 rfl ?_
    refine V_iload_n C dX9_loses_49 rfl ?_
    refine V_iconst C 2 dX9_loses_50 (by decide) ?_
    refine V_icmp_eq C dX9_loses_51 (fun c51 => ?_) (fun c51 => ?_)
    · refine V_iconst C 2 dX9_loses_59 (by decide) ?_
      refine V_iload_n C dX9_loses_60 rfl ?_
      refine V_imul C dX9_loses_61 ?_
      refine V_goto C dX9_loses_62 ?_
      exact V_iretD C dX9_loses_77 hT (by simp_all [losesV]) rfl
    · refine V_iload_n C dX9_loses_54 rfl ?_
      refine V_iconst C 4 dX9_loses_55 (by decide) ?_
      refine V_icmp_ne C dX9_loses_56 (fun c56 => ?_) (fun c56 => ?_)
      · refine V_iload_n C dX9_loses_65 rfl ?_
        refine V_iconst C 3 dX9_loses_66 (by decide) ?_
        refine V_icmp_ne C dX9_loses_67 (fun c67 => ?_) (fun c67 => ?_)
        · refine V_iload_n C dX9_loses_76 rfl ?_
          exact V_iretD C dX9_loses_77 hT (by simp_all [losesV]) rfl
        · refine V_iload_n C dX9_loses_70 rfl ?_
          refine V_iconst C 2 dX9_loses_71 (by decide) ?_
          refine V_idiv C dX9_loses_72 (by decide) ?_
          refine V_goto C dX9_loses_73 ?_
          exact V_iretD C dX9_loses_77 hT (by simp_all [losesV]) rfl
      · refine V_iconst C 2 dX9_loses_59 (by decide) ?_
        refine V_iload_n C dX9_loses_60 rfl ?_
        refine V_imul C dX9_loses_61 ?_
        refine V_goto C dX9_loses_62 ?_
        exact V_iretD C dX9_loses_77 hT (by simp_all [losesV]) rfl
  refine V_aload_n C dX9_loses_0 rfl ?_
  refine V_iload_n C dX9_loses_1 rfl ?_
  refine V_iconst C 1 dX9_loses_2 (by decide) ?_
  refine V_cv C hE dX9_loses_3 (c_X9_its (j := 1) rfl (by first | assumption | omega | (simp (disch := omega) only [us_s, us_n, nh_uh, nh_upd, nh_passN, nh_goF, nh_quarterF]; assumption)) (by omega)) kyX9_its q1016 (isoO 73 rfl rfl rfl rfl) rfl rfl rfl ?_
  refine V_aload_n C dX9_loses_6 rfl ?_
  refine V_get C dX9_loses_7 (rdO (j := 0) 73 rfl rfl rfl rfl rfl) in_X9 (by decide) q907 rfl ?_
  refine V_bipush C 6 dX9_loses_10 (by decide) ?_
  refine V_iald C 6 rfl rfl rfl dX9_loses_12 (rdM 74 6 rfl rfl rfl) ?_
  refine V_icmp_ge C dX9_loses_13 (fun c13 => ?_) (fun c13 => ?_)
  · refine V_aload_n C dX9_loses_20 rfl ?_
    refine V_iload_n C dX9_loses_21 rfl ?_
    refine V_iconst C 1 dX9_loses_22 (by decide) ?_
    refine V_cv C hE dX9_loses_23 (c_X9_its (j := 1) rfl (by first | assumption | omega | (simp (disch := omega) only [us_s, us_n, nh_uh, nh_upd, nh_passN, nh_goF, nh_quarterF]; assumption)) (by omega)) kyX9_its q1016 (isoO 73 rfl rfl rfl rfl) rfl rfl rfl ?_
    refine V_aload_n C dX9_loses_26 rfl ?_
    refine V_get C dX9_loses_27 (rdO (j := 0) 73 rfl rfl rfl rfl rfl) in_X9 (by decide) q907 rfl ?_
    refine V_bipush C 6 dX9_loses_30 (by decide) ?_
    refine V_iald C 6 rfl rfl rfl dX9_loses_32 (rdM 74 6 rfl rfl rfl) ?_
    refine V_isub C dX9_loses_33 ?_
    refine V_aload_n C dX9_loses_34 rfl ?_
    refine V_iload_n C dX9_loses_35 rfl ?_
    refine V_iconst C 2 dX9_loses_36 (by decide) ?_
    refine V_cv C hE dX9_loses_37 (c_X9_its (j := 2) rfl (by first | assumption | omega | (simp (disch := omega) only [us_s, us_n, nh_uh, nh_upd, nh_passN, nh_goF, nh_quarterF]; assumption)) (by omega)) kyX9_its q1016 (isoO 73 rfl rfl rfl rfl) rfl rfl rfl ?_
    refine V_idiv C dX9_loses_40 (hwl) ?_
    exact V_st (by unfold plainV; first | rw [if_neg (Int32.not_lt.mpr c13)] | rw [if_pos (Int32.not_le.mp c13)]) j41
  · refine V_iconst C 0 dX9_loses_16 (by decide) ?_
    refine V_goto C dX9_loses_17 ?_
    exact V_st (by unfold plainV; first | rw [if_neg (Int32.not_lt.mpr c13)] | rw [if_pos (Int32.not_le.mp c13)]) j41

theorem c_X9_burns {l : Launch} {E : En} {σ : Sg} {i : Nat} (hi : i < nh (σ 74)) : MD l yX9_burns cX9_burns 3 (some .int) rmX9_burns E [.ref (ad E 73), .int (nI i)] σ (some (.int (burnsV (hf (σ 74) i 0)))) (σ) := by
  refine MD_of (by decide +kernel) rfl fun x C hE hT hcan => ?_
  have C : CX x cX9_burns RX9 rmX9_burns := C
  have h8 : nh (σ 74) ≤ 8 := (hcan.2.1 74 (by omega) (by omega)).2.1
  have hi8 : i < 8 := by omega
  refine V_L (L' := [some (.ref (ad E 73)), some (.int (nI i)), none]) rfl ?_
  refine V_aload_n C dX9_burns_0 rfl ?_
  refine V_iload_n C dX9_burns_1 rfl ?_
  refine V_iconst C 0 dX9_burns_2 (by decide) ?_
  refine V_cv C hE dX9_burns_3 (c_X9_its (j := 0) rfl (by first | assumption | omega | (simp (disch := omega) only [us_s, us_n, nh_uh, nh_upd, nh_passN, nh_goF, nh_quarterF]; assumption)) (by omega)) kyX9_its q1016 (isoO 73 rfl rfl rfl rfl) rfl rfl rfl ?_
  refine V_istore_n C dX9_burns_6 rfl ?_
  refine V_iload_n C dX9_burns_7 rfl ?_
  refine V_iconst C 4 dX9_burns_8 (by decide) ?_
  refine V_icmp_ne C dX9_burns_9 (fun c9 => ?_) (fun c9 => ?_)
  · refine V_iload_n C dX9_burns_16 rfl ?_
    refine V_bipush C 6 dX9_burns_17 (by decide) ?_
    refine V_icmp_ne C dX9_burns_19 (fun c19 => ?_) (fun c19 => ?_)
    · refine V_iconst C 1 dX9_burns_26 (by decide) ?_
      exact V_iretD C dX9_burns_27 hT (by simp [burnsV, c9, c19]) rfl
    · refine V_iconst C 2 dX9_burns_22 (by decide) ?_
      refine V_goto C dX9_burns_23 ?_
      exact V_iretD C dX9_burns_27 hT (by simp [burnsV, c9, c19]) rfl
  · refine V_iconst C 0 dX9_burns_12 (by decide) ?_
    refine V_goto C dX9_burns_13 ?_
    exact V_iretD C dX9_burns_27 hT (by simp [burnsV, c9]) rfl

theorem min_n {a b : Nat} (h : nI a < nI b) (ha : a ≤ 8) (hb : b ≤ 8) : min a b = a ∧ max a b = b := by
  have := (nI_ltI (a := a) (b := b) (by omega) (by omega)).mp h
  constructor <;> omega
theorem min_n2 {a b : Nat} (h : nI b ≤ nI a) (ha : a ≤ 8) (hb : b ≤ 8) : min a b = b ∧ max a b = a := by
  have := (nI_leI (a := b) (b := a) (by omega) (by omega)).mp h
  constructor <;> omega

theorem sc8 {k : Nat} (h : k < 7) : sc (8+k) = true := by
  rcases (show k = 0 ∨ k = 1 ∨ k = 2 ∨ k = 3 ∨ k = 4 ∨ k = 5 ∨ k = 6 by omega) with rfl | rfl | rfl | rfl | rfl | rfl | rfl <;> rfl
theorem sc63 {k : Nat} (h : k < 10) : sc (63+k) = true := by
  rcases (show k = 0 ∨ k = 1 ∨ k = 2 ∨ k = 3 ∨ k = 4 ∨ k = 5 ∨ k = 6 ∨ k = 7 ∨ k = 8 ∨ k = 9 by omega) with rfl | rfl | rfl | rfl | rfl | rfl | rfl | rfl | rfl | rfl <;> rfl

theorem c_X9_wayOf {l : Launch} {E : En} {σ : Sg} {a b : Nat} (ha : a ≤ 7) (hb : b ≤ 7) : MD l yX9_wayOf cX9_wayOf 7 (some .int) rmX9_wayOf E [.ref (ad E 73), .int (nI a), .int (nI b)] σ (some (.int (wayF (σ 74) a b))) (σ) := by
  refine MD_of (by decide +kernel) rfl fun x C hE hT hcan => ?_
  have C : CX x cX9_wayOf RX9 rmX9_wayOf := C
  refine V_L (L' := [some (.ref (ad E 73)), some (.int (nI a)), some (.int (nI b)), none, none, none, none]) rfl ?_
  have jj : ∀ lo n : Nat, lo + n ≤ 7 → lo = min a b → n = max a b - min a b → V x (eA E) (AP x E σ) 0 0 29 [some (.ref (ad E 73)), some (.int (nI a)), some (.int (nI b)), some (.int (nI lo)), some (.int (nI (lo+n))), some (.int (wayN (σ 74) lo 0)), some (.int (nI (lo+0)))] [] := by
    intro lo n hln e1 e2
    have lp : ∀ (d i : Nat) , i + d = n → V x (eA E) (AP x E (σ)) 0 0 29 [some (.ref (ad E 73)), some (.int (nI a)), some (.int (nI b)), some (.int (nI lo)), some (.int (nI (lo+n))), some (.int (wayN (σ 74) lo i)), some (.int (nI (lo+i)))] [] := by
      intro d
      induction d with
      | zero =>
        intro i  hi' 
        have hN : i = n := by omega
        refine V_iload C dX9_wayOf_29 rfl ?_
        refine V_iload C dX9_wayOf_31 rfl ?_
        refine V_icmp_ge C dX9_wayOf_33 (fun c33 => ?_) (fun c33 => absurd (by rw [hN]; exact nI_le (Nat.le_refl _) (by omega)) c33)
        refine V_iload C dX9_wayOf_64 rfl ?_
        exact V_iretD C dX9_wayOf_66 hT (by rw [hN, e1, e2]; rfl) rfl
      | succ d ih =>
        intro i  hi' 
        refine V_iload C dX9_wayOf_29 rfl ?_
        refine V_iload C dX9_wayOf_31 rfl ?_
        refine V_icmp_ge C dX9_wayOf_33 (fun c33 => absurd c33 (nI_ge (by omega) (by omega))) (fun c33 => ?_)
        refine V_iload C dX9_wayOf_36 rfl ?_
        refine V_aload_n C dX9_wayOf_38 rfl ?_
        refine V_get C dX9_wayOf_39 (rdO (j := 0) 73 rfl rfl rfl rfl rfl) in_X9 (by decide) q907 rfl ?_
        refine V_bipush C 8 dX9_wayOf_42 (by decide) ?_
        refine V_iload C dX9_wayOf_44 rfl ?_
        refine V_iadd C dX9_wayOf_46 ?_
        refine V_st (st' := [.int (nI (8+(lo+i))), .ref (ad E 74), .int (wayN (σ 74) lo i)]) (by rw [← nI_add 8 (lo+i)]; rfl) ?_
        refine V_ialdN C (8+(lo+i)) rfl (by omega) (by omega) dX9_wayOf_47 (rdM 74 (8+(lo+i)) rfl rfl (sc8 (by omega))) ?_
        refine V_aload_n C dX9_wayOf_48 rfl ?_
        refine V_get C dX9_wayOf_49 (rdO (j := 0) 73 rfl rfl rfl rfl rfl) in_X9 (by decide) q907 rfl ?_
        refine V_iconst C 5 dX9_wayOf_52 (by decide) ?_
        refine V_iald C 5 rfl rfl rfl dX9_wayOf_53 (rdM 74 5 rfl rfl rfl) ?_
        refine V_iadd C dX9_wayOf_54 ?_
        refine V_iadd C dX9_wayOf_55 ?_
        refine V_istore C dX9_wayOf_56 rfl ?_
        refine V_iinc C 1 dX9_wayOf_58 rfl (by decide) rfl ?_
        refine V_goto C dX9_wayOf_61 ?_
        exact V_nx rfl (by simp only [List.set, wayN]; rw [nI_1, Nat.add_assoc]) (ih (i + 1) (by omega))
    exact lp n 0 (by omega)
  refine V_iload_n C dX9_wayOf_0 rfl ?_
  refine V_iload_n C dX9_wayOf_1 rfl ?_
  by_cases hab : nI b ≤ nI a
  · refine V_icmp_ge C dX9_wayOf_2 (fun c2 => ?_) (fun c2 => absurd (hab) c2)
    refine V_iload_n C dX9_wayOf_9 rfl ?_
    refine V_istore_n C dX9_wayOf_10 rfl ?_
    refine V_iload_n C dX9_wayOf_11 rfl ?_
    refine V_iload_n C dX9_wayOf_12 rfl ?_
    refine V_icmp_ge C dX9_wayOf_13 (fun c13 => ?_) (fun c13 => absurd (hab) c13)
    refine V_iload_n C dX9_wayOf_20 rfl ?_
    refine V_istore C dX9_wayOf_21 rfl ?_
    refine V_iconst C 0 dX9_wayOf_23 (by decide) ?_
    refine V_istore C dX9_wayOf_24 rfl ?_
    refine V_iload_n C dX9_wayOf_26 rfl ?_
    refine V_istore C dX9_wayOf_27 rfl ?_
    obtain ⟨e1, e2⟩ := min_n2 (a := a) (b := b) hab (by omega) (by omega)
    have l2 := (nI_leI (a := b) (b := a) (by omega) (by omega)).mp hab
    exact V_nx rfl (by simp only [List.set]; rw [show b + (a - b) = a by omega]; rfl) (jj b (a - b) (by omega) e1.symm (by rw [e1, e2]))
  · refine V_icmp_ge C dX9_wayOf_2 (fun c2 => absurd c2 (hab)) (fun c2 => ?_)
    refine V_iload_n C dX9_wayOf_5 rfl ?_
    refine V_goto C dX9_wayOf_6 ?_
    refine V_istore_n C dX9_wayOf_10 rfl ?_
    refine V_iload_n C dX9_wayOf_11 rfl ?_
    refine V_iload_n C dX9_wayOf_12 rfl ?_
    refine V_icmp_ge C dX9_wayOf_13 (fun c13 => absurd c13 (hab)) (fun c13 => ?_)
    refine V_iload_n C dX9_wayOf_16 rfl ?_
    refine V_goto C dX9_wayOf_17 ?_
    refine V_istore C dX9_wayOf_21 rfl ?_
    refine V_iconst C 0 dX9_wayOf_23 (by decide) ?_
    refine V_istore C dX9_wayOf_24 rfl ?_
    refine V_iload_n C dX9_wayOf_26 rfl ?_
    refine V_istore C dX9_wayOf_27 rfl ?_
    obtain ⟨e1, e2⟩ := min_n (a := a) (b := b) (Int32.not_le.mp hab) (by omega) (by omega)
    have l2 := (nI_ltI (a := a) (b := b) (by omega) (by omega)).mp (Int32.not_le.mp hab)
    exact V_nx rfl (by simp only [List.set]; rw [show a + (b - a) = b by omega]; rfl) (jj a (b - a) (by omega) e1.symm (by rw [e1, e2]))

theorem c_X9_sends {l : Launch} {E : En} {σ : Sg} {b : Nat} (hat : σ 74 2 = nI (hx (σ 74))) (hx7 : hx (σ 74) ≤ 7) (hb : b ≤ 7) : MD l yX9_sends cX9_sends 2 none rmX9_sends E [.ref (ad E 73), .int (nI b)] σ none (us σ 74 (goF (σ 74) b)) := by
  refine MD_of (by decide +kernel) rfl fun x C hE hT hcan => ?_
  have C : CX x cX9_sends RX9 rmX9_sends := C
  refine V_L (L' := [some (.ref (ad E 73)), some (.int (nI b))]) rfl ?_
  refine V_aload_n C dX9_sends_0 rfl ?_
  refine V_get C dX9_sends_1 (rdO (j := 0) 73 rfl rfl rfl rfl rfl) in_X9 (by decide) q907 rfl ?_
  refine V_iconst C 3 dX9_sends_4 (by decide) ?_
  refine V_aload_n C dX9_sends_5 rfl ?_
  refine V_aload_n C dX9_sends_6 rfl ?_
  refine V_get C dX9_sends_7 (rdO (j := 0) 73 rfl rfl rfl rfl rfl) in_X9 (by decide) q907 rfl ?_
  refine V_iconst C 2 dX9_sends_10 (by decide) ?_
  refine V_iald C 2 rfl rfl rfl dX9_sends_11 (rdM 74 2 rfl rfl rfl) ?_
  try simp only [us_us, us_s]
  refine V_iload_n C dX9_sends_12 rfl ?_
  rw [hat]
  refine V_cv C hE dX9_sends_13 (c_X9_wayOf (a := hx (σ 74)) (b := b) hx7 hb) kyX9_wayOf q1061 (isoO 73 rfl rfl rfl rfl) rfl rfl rfl ?_
  try simp only [us_us, us_s]
  refine V_iast C 3 rfl rfl rfl dX9_sends_16 (wrM 74 3 rfl rfl rfl rfl) ?_
  try simp only [us_us, us_s]
  refine V_aload_n C dX9_sends_17 rfl ?_
  refine V_get C dX9_sends_18 (rdO (j := 0) 73 rfl rfl rfl rfl rfl) in_X9 (by decide) q907 rfl ?_
  refine V_iconst C 2 dX9_sends_21 (by decide) ?_
  refine V_iload_n C dX9_sends_22 rfl ?_
  refine V_iast C 2 rfl rfl rfl dX9_sends_23 (wrM 74 2 rfl rfl rfl rfl) ?_
  try simp only [us_us, us_s]
  exact V_retD C dX9_sends_24 hT rfl

theorem c_X9_isGoing {l : Launch} {E : En} {σ : Sg}   : MD l yX9_isGoing cX9_isGoing 1 (some .boolean) rmX9_isGoing E [.ref (ad E 73)] σ (some (.int (bI (0 < σ 74 3)))) (σ) := by
  refine MD_of (by decide +kernel) rfl fun x C hE hT hcan => ?_
  have C : CX x cX9_isGoing RX9 rmX9_isGoing := C
  refine V_L (L' := [some (.ref (ad E 73))]) rfl ?_
  refine V_aload_n C dX9_isGoing_0 rfl ?_
  refine V_get C dX9_isGoing_1 (rdO (j := 0) 73 rfl rfl rfl rfl rfl) in_X9 (by decide) q907 rfl ?_
  refine V_iconst C 3 dX9_isGoing_4 (by decide) ?_
  refine V_iald C 3 rfl rfl rfl dX9_isGoing_5 (rdM 74 3 rfl rfl rfl) ?_
  refine V_if_le C dX9_isGoing_6 (fun c6 => ?_) (fun c6 => ?_)
  · refine V_iconst C 0 dX9_isGoing_13 (by decide) ?_
    exact V_zretD C dX9_isGoing_14 hT (by first | exact (bI_t c6).symm | exact (bI_f (Int32.not_lt.mpr c6)).symm | simp [bI, c6]) rfl
  · refine V_iconst C 1 dX9_isGoing_9 (by decide) ?_
    refine V_goto C dX9_isGoing_10 ?_
    exact V_zretD C dX9_isGoing_14 hT (by first | exact (bI_t c6).symm | exact (bI_f (Int32.not_lt.mpr c6)).symm | simp [bI, c6]) rfl

theorem c_X9_warms {l : Launch} {E : En} {σ : Sg} {i : Nat} {p1 : Int32} (hi : i < nh (σ 74)) : MD l yX9_warms cX9_warms 4 none rmX9_warms E [.ref (ad E 73), .int (nI i), .int p1] σ none (us σ 74 (uh (σ 74) i 1 (warmV (hf (σ 74) i 1) p1))) := by
  refine MD_of (by decide +kernel) rfl fun x C hE hT hcan => ?_
  have C : CX x cX9_warms RX9 rmX9_warms := C
  have h8 : nh (σ 74) ≤ 8 := (hcan.2.1 74 (by omega) (by omega)).2.1
  have hi8 : i < 8 := by omega
  refine V_L (L' := [some (.ref (ad E 73)), some (.int (nI i)), some (.int p1), none]) rfl ?_
  refine V_aload_n C dX9_warms_0 rfl ?_
  refine V_iload_n C dX9_warms_1 rfl ?_
  refine V_iconst C 1 dX9_warms_2 (by decide) ?_
  refine V_cv C hE dX9_warms_3 (c_X9_its (j := 1) rfl (by first | assumption | omega | (simp (disch := omega) only [us_s, us_n, nh_uh, nh_upd, nh_passN, nh_goF, nh_quarterF]; assumption)) (by omega)) kyX9_its q1016 (isoO 73 rfl rfl rfl rfl) rfl rfl rfl ?_
  refine V_iload_n C dX9_warms_6 rfl ?_
  refine V_iadd C dX9_warms_7 ?_
  refine V_istore_n C dX9_warms_8 rfl ?_
  refine V_aload_n C dX9_warms_9 rfl ?_
  refine V_get C dX9_warms_10 (rdO (j := 0) 73 rfl rfl rfl rfl rfl) in_X9 (by decide) q907 rfl ?_
  refine V_iload_n C dX9_warms_13 rfl ?_
  refine V_iconst C 1 dX9_warms_14 (by decide) ?_
  refine V_cs C hE dX9_warms_15 (c_X9_at rfl) kyX9_at q1004 rfl rfl rfl ?_
  refine V_iload_n C dX9_warms_18 rfl ?_
  refine V_sipush C 400 dX9_warms_19 (by decide) ?_
  refine V_icmp_ge C dX9_warms_22 (fun c22 => ?_) (fun c22 => ?_)
  · refine V_sipush C 400 dX9_warms_29 (by decide) ?_
    refine V_iastN C (15+6*i+1) rfl (by omega) (by omega) dX9_warms_32 (wrMh 74 rfl rfl (by first | assumption | omega | (simp (disch := omega) only [us_s, us_n, nh_uh, nh_upd, nh_passN, nh_goF, nh_quarterF]; assumption)) 1 (by omega)) ?_
    exact V_retD C dX9_warms_33 hT (by unfold warmV; first | rw [if_pos c22] | rw [if_neg (Int32.not_lt.mpr c22)] | rw [if_neg c22] | rw [if_pos (Int32.not_le.mp c22)])
  · refine V_iload_n C dX9_warms_25 rfl ?_
    refine V_goto C dX9_warms_26 ?_
    refine V_iastN C (15+6*i+1) rfl (by omega) (by omega) dX9_warms_32 (wrMh 74 rfl rfl (by first | assumption | omega | (simp (disch := omega) only [us_s, us_n, nh_uh, nh_upd, nh_passN, nh_goF, nh_quarterF]; assumption)) 1 (by omega)) ?_
    exact V_retD C dX9_warms_33 hT (by unfold warmV; first | rw [if_pos c22] | rw [if_neg (Int32.not_lt.mpr c22)] | rw [if_neg c22] | rw [if_pos (Int32.not_le.mp c22)])

