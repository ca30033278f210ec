/-! THE DOCUMENT'S NUMBERS, as both sides reckon them: one house by its values -/
abbrev isAV (k o : Int32) : Prop := o = 0 ∨ (o = 1 ∧ (k = 1 ∨ k = 3)) ∨ (o = 2 ∧ (k = 2 ∨ k = 4)) ∨ (o = 5 ∧ (k = 5 ∨ k = 6)) ∨ (¬ o = 0 ∧ ¬ o = 1 ∧ ¬ o = 2 ∧ ¬ o = 5 ∧ k = o)
def heatsV (k w : Int32) : Int32 := if k = 3 then 30 else if k = 5 then (if w < 200 then 40 else 0) else if k = 6 then (if w < 200 then 40 else 0) + 20 else 40
def plainV (w wall out : Int32) : Int32 := if w < out then 0 else (w - out) / wall
def losesV (k w wall out : Int32) : Int32 := if k = 2 ∨ k = 4 then 2 * plainV w wall out else if k = 3 then plainV w wall out / 2 else plainV w wall out
def burnsV (k : Int32) : Int32 := if k = 4 then 0 else if k = 6 then 2 else 1
def getsV (k h : Int32) : Int32 := if k = 1 ∨ k = 3 then h / 4 else 0
abbrev coldV (k w b : Int32) : Prop := ¬ k = 4 ∧ w < b
def warmV (w h : Int32) : Int32 := if w + h < 400 then w + h else 400
def coolV (w l : Int32) : Int32 := if w - l < 0 then 0 else w - l

def begF (f : Nat → Int32) (i : Nat) (k : Int32) : Nat → Int32 := uh (uh (uh (uh (uh (uh f i 0 k) i 1 100) i 2 10) i 3 8) i 4 60) i 5 0
def cpF (f : Nat → Int32) (i : Nat) (g : Nat → Int32) (i2 : Nat) : Nat → Int32 := uh (uh (uh (uh (uh (uh f i 0 (hf g i2 0)) i 1 (hf g i2 1)) i 2 (hf g i2 2)) i 3 (hf g i2 3)) i 4 (hf g i2 4)) i 5 (hf g i2 5)
theorem sw_x (n : Nat) (hn : n < 1000) (a : Int32) : (∃ j, j ≤ n ∧ a = nI j) ∨ (a.toInt < 0 ∨ (n : Int) < a.toInt) := by
  by_cases h : a.toInt < 0 ∨ (n : Int) < a.toInt
  · exact Or.inr h
  · refine Or.inl ⟨a.toInt.toNat, by omega, ?_⟩
    apply Int32.toInt_inj.mp
    rw [nI_toInt (by omega)]
    omega
theorem sw5 (a : Int32) : a = 0 ∨ a = 1 ∨ a = 2 ∨ a = 3 ∨ a = 4 ∨ a = 5 ∨ (a.toInt < 0 ∨ 5 < a.toInt) := by
  rcases sw_x 5 (by omega) a with ⟨j, hj, rfl⟩ | h
  · rcases (show j = 0 ∨ j = 1 ∨ j = 2 ∨ j = 3 ∨ j = 4 ∨ j = 5 by omega) with rfl | rfl | rfl | rfl | rfl | rfl <;> simp [nI]
  · exact Or.inr (Or.inr (Or.inr (Or.inr (Or.inr (Or.inr h)))))
theorem sw5n {a : Int32} (h : a.toInt < 0 ∨ 5 < a.toInt) : ¬ a = 0 ∧ ¬ a = 1 ∧ ¬ a = 2 ∧ ¬ a = 5 := by
  refine ⟨?_, ?_, ?_, ?_⟩ <;> (rintro rfl; revert h; decide)
theorem plain0 {w wall out : Int32} (h : wall ≤ 0 ∨ w ≤ out) (hw : 0 < wall) : (0 : Int32) = if w < out then 0 else (w - out) / wall := by
  rcases h with h | h
  · exact absurd hw (Int32.not_lt.mpr h)
  · by_cases hc : w < out
    · rw [if_pos hc]
    · have e : w = out := Int32.le_antisymm h (Int32.not_lt.mp hc)
      rw [if_neg hc, e, Int32.sub_self, Int32.zero_div]
theorem cool_max (w l : Int32) : (if (0 : Int32) < w - l then w - l else 0) = coolV w l := by
  unfold coolV
  by_cases h1 : (0 : Int32) < w - l
  · rw [if_pos h1, if_neg (Int32.not_lt.mpr (Int32.le_of_lt h1))]
  · rw [if_neg h1]
    by_cases h2 : w - l < 0
    · rw [if_pos h2]
    · rw [if_neg h2]; exact Int32.le_antisymm (Int32.not_lt.mp h2) (Int32.not_lt.mp h1)
theorem c_X1_begin {l : Launch} {E : En} {σ : Sg} {v i : Nat} {p0 : Int32} (hv : v < 5) (hi : i < nh (σ v)) : MD l yX1_begin cX1_begin 2 none rmX1_begin E [.ref (ad E (hc v i)), .int p0] σ none (us σ v (begF (σ v) i p0)) := by
  refine MD_of (by decide +kernel) rfl fun x C hE hT hcan => ?_
  have C : CX x cX1_begin RX1 rmX1_begin := C
  have hi8 : i < 8 := Nat.lt_of_lt_of_le hi (hcan.1 v hv).2.1
  refine V_L (L' := [some (.ref (ad E (hc v i))), some (.int p0)]) rfl ?_
  refine V_aload_n C dX1_begin_0 rfl ?_
  refine V_iload_n C dX1_begin_1 rfl ?_
  refine V_put C dX1_begin_2 (wrH (by first | assumption | omega) (by first | assumption | (simp only [us_s, nh_uh]; assumption)) 0 rfl) ft_X1 (by decide) q101 rfl rfl rfl rfl ?_
  try simp only [us_us, us_s]
  refine V_aload_n C dX1_begin_5 rfl ?_
  refine V_bipush C 100 dX1_begin_6 (by decide) ?_
  refine V_put C dX1_begin_8 (wrH (by first | assumption | omega) (by first | assumption | (simp only [us_s, nh_uh]; assumption)) 1 rfl) ft_X1 (by decide) q102 rfl rfl rfl rfl ?_
  try simp only [us_us, us_s]
  refine V_aload_n C dX1_begin_11 rfl ?_
  refine V_bipush C 10 dX1_begin_12 (by decide) ?_
  refine V_put C dX1_begin_14 (wrH (by first | assumption | omega) (by first | assumption | (simp only [us_s, nh_uh]; assumption)) 2 rfl) ft_X1 (by decide) q105 rfl rfl rfl rfl ?_
  try simp only [us_us, us_s]
  refine V_aload_n C dX1_begin_17 rfl ?_
  refine V_bipush C 8 dX1_begin_18 (by decide) ?_
  refine V_put C dX1_begin_20 (wrH (by first | assumption | omega) (by first | assumption | (simp only [us_s, nh_uh]; assumption)) 3 rfl) ft_X1 (by decide) q107 rfl rfl rfl rfl ?_
  try simp only [us_us, us_s]
  refine V_aload_n C dX1_begin_23 rfl ?_
  refine V_bipush C 60 dX1_begin_24 (by decide) ?_
  refine V_put C dX1_begin_26 (wrH (by first | assumption | omega) (by first | assumption | (simp only [us_s, nh_uh]; assumption)) 4 rfl) ft_X1 (by decide) q110 rfl rfl rfl rfl ?_
  try simp only [us_us, us_s]
  refine V_aload_n C dX1_begin_29 rfl ?_
  refine V_iconst C 0 dX1_begin_30 (by decide) ?_
  refine V_put C dX1_begin_31 (wrH (by first | assumption | omega) (by first | assumption | (simp only [us_s, nh_uh]; assumption)) 5 rfl) ft_X1 (by decide) q111 rfl rfl rfl rfl ?_
  try simp only [us_us, us_s]
  exact V_retD C dX1_begin_34 hT rfl

theorem c_X1_be {l : Launch} {E : En} {σ : Sg} {v i : Nat} {w i2 : Nat} (hv : v < 5) (hi : i < nh (σ v)) (hw : w < 5) (hi2 : i2 < nh (σ w)) (hne : w ≠ v) : MD l yX1_be cX1_be 2 none rmX1_be E [.ref (ad E (hc v i)), .ref (ad E (hc w i2))] σ none (us σ v (cpF (σ v) i (σ w) i2)) := by
  refine MD_of (by decide +kernel) rfl fun x C hE hT hcan => ?_
  have C : CX x cX1_be RX1 rmX1_be := C
  have hi8 : i < 8 := Nat.lt_of_lt_of_le hi (hcan.1 v hv).2.1
  refine V_L (L' := [some (.ref (ad E (hc v i))), some (.ref (ad E (hc w i2)))]) rfl ?_
  refine V_aload_n C dX1_be_0 rfl ?_
  refine V_aload_n C dX1_be_1 rfl ?_
  refine V_get C dX1_be_2 (rdH hw (by first | assumption | (simp only [us_n hne]; assumption)) 0 rfl) in_X1 (by decide) q101 rfl ?_
  refine V_put C dX1_be_5 (wrH (by first | assumption | omega) (by first | assumption | (simp only [us_s, nh_uh]; assumption)) 0 rfl) ft_X1 (by decide) q101 rfl rfl rfl rfl ?_
  try simp only [us_us, us_s, us_n hne]
  refine V_aload_n C dX1_be_8 rfl ?_
  refine V_aload_n C dX1_be_9 rfl ?_
  refine V_get C dX1_be_10 (rdH hw (by first | assumption | (simp only [us_n hne]; assumption)) 1 rfl) in_X1 (by decide) q102 rfl ?_
  refine V_put C dX1_be_13 (wrH (by first | assumption | omega) (by first | assumption | (simp only [us_s, nh_uh]; assumption)) 1 rfl) ft_X1 (by decide) q102 rfl rfl rfl rfl ?_
  try simp only [us_us, us_s, us_n hne]
  refine V_aload_n C dX1_be_16 rfl ?_
  refine V_aload_n C dX1_be_17 rfl ?_
  refine V_get C dX1_be_18 (rdH hw (by first | assumption | (simp only [us_n hne]; assumption)) 2 rfl) in_X1 (by decide) q105 rfl ?_
  refine V_put C dX1_be_21 (wrH (by first | assumption | omega) (by first | assumption | (simp only [us_s, nh_uh]; assumption)) 2 rfl) ft_X1 (by decide) q105 rfl rfl rfl rfl ?_
  try simp only [us_us, us_s, us_n hne]
  refine V_aload_n C dX1_be_24 rfl ?_
  refine V_aload_n C dX1_be_25 rfl ?_
  refine V_get C dX1_be_26 (rdH hw (by first | assumption | (simp only [us_n hne]; assumption)) 3 rfl) in_X1 (by decide) q107 rfl ?_
  refine V_put C dX1_be_29 (wrH (by first | assumption | omega) (by first | assumption | (simp only [us_s, nh_uh]; assumption)) 3 rfl) ft_X1 (by decide) q107 rfl rfl rfl rfl ?_
  try simp only [us_us, us_s, us_n hne]
  refine V_aload_n C dX1_be_32 rfl ?_
  refine V_aload_n C dX1_be_33 rfl ?_
  refine V_get C dX1_be_34 (rdH hw (by first | assumption | (simp only [us_n hne]; assumption)) 4 rfl) in_X1 (by decide) q110 rfl ?_
  refine V_put C dX1_be_37 (wrH (by first | assumption | omega) (by first | assumption | (simp only [us_s, nh_uh]; assumption)) 4 rfl) ft_X1 (by decide) q110 rfl rfl rfl rfl ?_
  try simp only [us_us, us_s, us_n hne]
  refine V_aload_n C dX1_be_40 rfl ?_
  refine V_aload_n C dX1_be_41 rfl ?_
  refine V_get C dX1_be_42 (rdH hw (by first | assumption | (simp only [us_n hne]; assumption)) 5 rfl) in_X1 (by decide) q111 rfl ?_
  refine V_put C dX1_be_45 (wrH (by first | assumption | omega) (by first | assumption | (simp only [us_s, nh_uh]; assumption)) 5 rfl) ft_X1 (by decide) q111 rfl rfl rfl rfl ?_
  try simp only [us_us, us_s, us_n hne]
  exact V_retD C dX1_be_48 hT rfl

theorem c_X1_told {l : Launch} {E : En} {σ : Sg} {v i : Nat} {j : Nat} (hv : v < 5) (hi : i < nh (σ v)) (hj : j < 6) : MD l yX1_told cX1_told 2 (some .int) rmX1_told E [.ref (ad E (hc v i)), .int (nI j)] σ (some (.int (hf (σ v) i j))) (σ) := by
  refine MD_of (by decide +kernel) rfl fun x C hE hT hcan => ?_
  have C : CX x cX1_told RX1 rmX1_told := C
  have hi8 : i < 8 := Nat.lt_of_lt_of_le hi (hcan.1 v hv).2.1
  refine V_L (L' := [some (.ref (ad E (hc v i))), some (.int (nI j))]) rfl ?_
  refine V_iload_n C dX1_told_0 rfl ?_
  rcases (show j = 0 ∨ j = 1 ∨ j = 2 ∨ j = 3 ∨ j = 4 ∨ j = 5 by omega) with rfl | rfl | rfl | rfl | rfl | rfl
  · refine V_tableIn (tgt := 36) C dX1_told_1 (by decide) (by decide) rfl (by decide) ?_
    refine V_aload_n C dX1_told_36 rfl ?_
    refine V_get C dX1_told_37 (rdH (by first | assumption | omega) (by first | assumption | omega) 0 rfl) in_X1 (by decide) q101 rfl ?_
    exact V_iretD C dX1_told_40 hT rfl rfl
  · refine V_tableIn (tgt := 41) C dX1_told_1 (by decide) (by decide) rfl (by decide) ?_
    refine V_aload_n C dX1_told_41 rfl ?_
    refine V_get C dX1_told_42 (rdH (by first | assumption | omega) (by first | assumption | omega) 1 rfl) in_X1 (by decide) q102 rfl ?_
    exact V_iretD C dX1_told_45 hT rfl rfl
  · refine V_tableIn (tgt := 46) C dX1_told_1 (by decide) (by decide) rfl (by decide) ?_
    refine V_aload_n C dX1_told_46 rfl ?_
    refine V_get C dX1_told_47 (rdH (by first | assumption | omega) (by first | assumption | omega) 2 rfl) in_X1 (by decide) q105 rfl ?_
    exact V_iretD C dX1_told_50 hT rfl rfl
  · refine V_tableIn (tgt := 51) C dX1_told_1 (by decide) (by decide) rfl (by decide) ?_
    refine V_aload_n C dX1_told_51 rfl ?_
    refine V_get C dX1_told_52 (rdH (by first | assumption | omega) (by first | assumption | omega) 3 rfl) in_X1 (by decide) q107 rfl ?_
    exact V_iretD C dX1_told_55 hT rfl rfl
  · refine V_tableIn (tgt := 56) C dX1_told_1 (by decide) (by decide) rfl (by decide) ?_
    refine V_aload_n C dX1_told_56 rfl ?_
    refine V_get C dX1_told_57 (rdH (by first | assumption | omega) (by first | assumption | omega) 4 rfl) in_X1 (by decide) q110 rfl ?_
    exact V_iretD C dX1_told_60 hT rfl rfl
  · refine V_tableOut (tgt := 61) C dX1_told_1 (Or.inr (by decide)) (by decide) ?_
    refine V_aload_n C dX1_told_61 rfl ?_
    refine V_get C dX1_told_62 (rdH (by first | assumption | omega) (by first | assumption | omega) 5 rfl) in_X1 (by decide) q111 rfl ?_
    exact V_iretD C dX1_told_65 hT rfl rfl

theorem c_X1_put {l : Launch} {E : En} {σ : Sg} {v i : Nat} {j : Nat} {p1 : Int32} (hv : v < 5) (hi : i < nh (σ v)) (hj : j < 5) : MD l yX1_put cX1_put 3 none rmX1_put E [.ref (ad E (hc v i)), .int (nI j), .int p1] σ none (us σ v (uh (σ v) i j p1)) := by
  refine MD_of (by decide +kernel) rfl fun x C hE hT hcan => ?_
  have C : CX x cX1_put RX1 rmX1_put := C
  have hi8 : i < 8 := Nat.lt_of_lt_of_le hi (hcan.1 v hv).2.1
  refine V_L (L' := [some (.ref (ad E (hc v i))), some (.int (nI j)), some (.int p1)]) rfl ?_
  refine V_iload_n C dX1_put_0 rfl ?_
  rcases (show j = 0 ∨ j = 1 ∨ j = 2 ∨ j = 3 ∨ j = 4 by omega) with rfl | rfl | rfl | rfl | rfl
  · refine V_tableIn (tgt := 36) C dX1_put_1 (by decide) (by decide) rfl (by decide) ?_
    refine V_aload_n C dX1_put_36 rfl ?_
    refine V_iload_n C dX1_put_37 rfl ?_
    refine V_put C dX1_put_38 (wrH (by first | assumption | omega) (by first | assumption | omega) 0 rfl) ft_X1 (by decide) q101 rfl rfl rfl rfl ?_
    refine V_goto C dX1_put_41 ?_
    exact V_retD C dX1_put_76 hT rfl
  · refine V_tableIn (tgt := 44) C dX1_put_1 (by decide) (by decide) rfl (by decide) ?_
    refine V_aload_n C dX1_put_44 rfl ?_
    refine V_iload_n C dX1_put_45 rfl ?_
    refine V_put C dX1_put_46 (wrH (by first | assumption | omega) (by first | assumption | omega) 1 rfl) ft_X1 (by decide) q102 rfl rfl rfl rfl ?_
    refine V_goto C dX1_put_49 ?_
    exact V_retD C dX1_put_76 hT rfl
  · refine V_tableIn (tgt := 52) C dX1_put_1 (by decide) (by decide) rfl (by decide) ?_
    refine V_aload_n C dX1_put_52 rfl ?_
    refine V_iload_n C dX1_put_53 rfl ?_
    refine V_put C dX1_put_54 (wrH (by first | assumption | omega) (by first | assumption | omega) 2 rfl) ft_X1 (by decide) q105 rfl rfl rfl rfl ?_
    refine V_goto C dX1_put_57 ?_
    exact V_retD C dX1_put_76 hT rfl
  · refine V_tableIn (tgt := 60) C dX1_put_1 (by decide) (by decide) rfl (by decide) ?_
    refine V_aload_n C dX1_put_60 rfl ?_
    refine V_iload_n C dX1_put_61 rfl ?_
    refine V_put C dX1_put_62 (wrH (by first | assumption | omega) (by first | assumption | omega) 3 rfl) ft_X1 (by decide) q107 rfl rfl rfl rfl ?_
    refine V_goto C dX1_put_65 ?_
    exact V_retD C dX1_put_76 hT rfl
  · refine V_tableIn (tgt := 68) C dX1_put_1 (by decide) (by decide) rfl (by decide) ?_
    refine V_aload_n C dX1_put_68 rfl ?_
    refine V_iload_n C dX1_put_69 rfl ?_
    refine V_put C dX1_put_70 (wrH (by first | assumption | omega) (by first | assumption | omega) 4 rfl) ft_X1 (by decide) q110 rfl rfl rfl rfl ?_
    refine V_goto C dX1_put_73 ?_
    exact V_retD C dX1_put_76 hT rfl

theorem c_X1_isA {l : Launch} {E : En} {σ : Sg} {v i : Nat} {p0 : Int32} (hv : v < 5) (hi : i < nh (σ v)) : MD l yX1_isA cX1_isA 2 (some .boolean) rmX1_isA E [.ref (ad E (hc v i)), .int p0] σ (some (.int (bI (isAV (hf (σ v) i 0) p0)))) (σ) := by
  refine MD_of (by decide +kernel) rfl fun x C hE hT hcan => ?_
  have C : CX x cX1_isA RX1 rmX1_isA := C
  have hi8 : i < 8 := Nat.lt_of_lt_of_le hi (hcan.1 v hv).2.1
  refine V_L (L' := [some (.ref (ad E (hc v i))), some (.int p0)]) rfl ?_
  refine V_iload_n C dX1_isA_0 rfl ?_
  rcases sw5 p0 with rfl | rfl | rfl | rfl | rfl | rfl | hsw
  · refine V_tableIn (tgt := 40) C dX1_isA_1 (by decide) (by decide) rfl (by decide) ?_
    refine V_iconst C 1 dX1_isA_40 (by decide) ?_
    exact V_zretD C dX1_isA_41 hT (by first | (simp [bI, isAV, ]; done) | (have := sw5n hsw; simp [bI, isAV, this, ]; done) | (simp_all [bI, isAV]; done)) rfl
  · refine V_tableIn (tgt := 42) C dX1_isA_1 (by decide) (by decide) rfl (by decide) ?_
    refine V_aload_n C dX1_isA_42 rfl ?_
    refine V_get C dX1_isA_43 (rdH (by first | assumption | omega) (by first | assumption | omega) 0 rfl) in_X1 (by decide) q101 rfl ?_
    refine V_iconst C 1 dX1_isA_46 (by decide) ?_
    refine V_icmp_eq C dX1_isA_47 (fun c47 => ?_) (fun c47 => ?_)
    · refine V_iconst C 1 dX1_isA_58 (by decide) ?_
      refine V_goto C dX1_isA_59 ?_
      exact V_zretD C dX1_isA_63 hT (by first | (simp [bI, isAV, c47]; done) | (have := sw5n hsw; simp [bI, isAV, this, c47]; done) | (simp_all [bI, isAV]; done)) rfl
    · refine V_aload_n C dX1_isA_50 rfl ?_
      refine V_get C dX1_isA_51 (rdH (by first | assumption | omega) (by first | assumption | omega) 0 rfl) in_X1 (by decide) q101 rfl ?_
      refine V_iconst C 3 dX1_isA_54 (by decide) ?_
      refine V_icmp_ne C dX1_isA_55 (fun c55 => ?_) (fun c55 => ?_)
      · refine V_iconst C 0 dX1_isA_62 (by decide) ?_
        exact V_zretD C dX1_isA_63 hT (by first | (simp [bI, isAV, c47, c55]; done) | (have := sw5n hsw; simp [bI, isAV, this, c47, c55]; done) | (simp_all [bI, isAV]; done)) rfl
      · refine V_iconst C 1 dX1_isA_58 (by decide) ?_
        refine V_goto C dX1_isA_59 ?_
        exact V_zretD C dX1_isA_63 hT (by first | (simp [bI, isAV, c47, c55]; done) | (have := sw5n hsw; simp [bI, isAV, this, c47, c55]; done) | (simp_all [bI, isAV]; done)) rfl
  · refine V_tableIn (tgt := 64) C dX1_isA_1 (by decide) (by decide) rfl (by decide) ?_
    refine V_aload_n C dX1_isA_64 rfl ?_
    refine V_get C dX1_isA_65 (rdH (by first | assumption | omega) (by first | assumption | omega) 0 rfl) in_X1 (by decide) q101 rfl ?_
    refine V_iconst C 2 dX1_isA_68 (by decide) ?_
    refine V_icmp_eq C dX1_isA_69 (fun c69 => ?_) (fun c69 => ?_)
    · refine V_iconst C 1 dX1_isA_80 (by decide) ?_
      refine V_goto C dX1_isA_81 ?_
      exact V_zretD C dX1_isA_85 hT (by first | (simp [bI, isAV, c69]; done) | (have := sw5n hsw; simp [bI, isAV, this, c69]; done) | (simp_all [bI, isAV]; done)) rfl
    · refine V_aload_n C dX1_isA_72 rfl ?_
      refine V_get C dX1_isA_73 (rdH (by first | assumption | omega) (by first | assumption | omega) 0 rfl) in_X1 (by decide) q101 rfl ?_
      refine V_iconst C 4 dX1_isA_76 (by decide) ?_
      refine V_icmp_ne C dX1_isA_77 (fun c77 => ?_) (fun c77 => ?_)
      · refine V_iconst C 0 dX1_isA_84 (by decide) ?_
        exact V_zretD C dX1_isA_85 hT (by first | (simp [bI, isAV, c69, c77]; done) | (have := sw5n hsw; simp [bI, isAV, this, c69, c77]; done) | (simp_all [bI, isAV]; done)) rfl
      · refine V_iconst C 1 dX1_isA_80 (by decide) ?_
        refine V_goto C dX1_isA_81 ?_
        exact V_zretD C dX1_isA_85 hT (by first | (simp [bI, isAV, c69, c77]; done) | (have := sw5n hsw; simp [bI, isAV, this, c69, c77]; done) | (simp_all [bI, isAV]; done)) rfl
  · refine V_tableIn (tgt := 109) C dX1_isA_1 (by decide) (by decide) rfl (by decide) ?_
    refine V_aload_n C dX1_isA_109 rfl ?_
    refine V_get C dX1_isA_110 (rdH (by first | assumption | omega) (by first | assumption | omega) 0 rfl) in_X1 (by decide) q101 rfl ?_
    refine V_iload_n C dX1_isA_113 rfl ?_
    refine V_icmp_ne C dX1_isA_114 (fun c114 => ?_) (fun c114 => ?_)
    · refine V_iconst C 0 dX1_isA_121 (by decide) ?_
      exact V_zretD C dX1_isA_122 hT (by first | (simp [bI, isAV, c114]; done) | (have := sw5n hsw; simp [bI, isAV, this, c114]; done) | (simp_all [bI, isAV]; done)) rfl
    · refine V_iconst C 1 dX1_isA_117 (by decide) ?_
      refine V_goto C dX1_isA_118 ?_
      exact V_zretD C dX1_isA_122 hT (by first | (simp [bI, isAV, c114]; done) | (have := sw5n hsw; simp [bI, isAV, this, c114]; done) | (simp_all [bI, isAV]; done)) rfl
  · refine V_tableIn (tgt := 109) C dX1_isA_1 (by decide) (by decide) rfl (by decide) ?_
    refine V_aload_n C dX1_isA_109 rfl ?_
    refine V_get C dX1_isA_110 (rdH (by first | assumption | omega) (by first | assumption | omega) 0 rfl) in_X1 (by decide) q101 rfl ?_
    refine V_iload_n C dX1_isA_113 rfl ?_
    refine V_icmp_ne C dX1_isA_114 (fun c114 => ?_) (fun c114 => ?_)
    · refine V_iconst C 0 dX1_isA_121 (by decide) ?_
      exact V_zretD C dX1_isA_122 hT (by first | (simp [bI, isAV, c114]; done) | (have := sw5n hsw; simp [bI, isAV, this, c114]; done) | (simp_all [bI, isAV]; done)) rfl
    · refine V_iconst C 1 dX1_isA_117 (by decide) ?_
      refine V_goto C dX1_isA_118 ?_
      exact V_zretD C dX1_isA_122 hT (by first | (simp [bI, isAV, c114]; done) | (have := sw5n hsw; simp [bI, isAV, this, c114]; done) | (simp_all [bI, isAV]; done)) rfl
  · refine V_tableIn (tgt := 86) C dX1_isA_1 (by decide) (by decide) rfl (by decide) ?_
    refine V_aload_n C dX1_isA_86 rfl ?_
    refine V_get C dX1_isA_87 (rdH (by first | assumption | omega) (by first | assumption | omega) 0 rfl) in_X1 (by decide) q101 rfl ?_
    refine V_iconst C 5 dX1_isA_90 (by decide) ?_
    refine V_icmp_eq C dX1_isA_91 (fun c91 => ?_) (fun c91 => ?_)
    · refine V_iconst C 1 dX1_isA_103 (by decide) ?_
      refine V_goto C dX1_isA_104 ?_
      exact V_zretD C dX1_isA_108 hT (by first | (simp [bI, isAV, c91]; done) | (have := sw5n hsw; simp [bI, isAV, this, c91]; done) | (simp_all [bI, isAV]; done)) rfl
    · refine V_aload_n C dX1_isA_94 rfl ?_
      refine V_get C dX1_isA_95 (rdH (by first | assumption | omega) (by first | assumption | omega) 0 rfl) in_X1 (by decide) q101 rfl ?_
      refine V_bipush C 6 dX1_isA_98 (by decide) ?_
      refine V_icmp_ne C dX1_isA_100 (fun c100 => ?_) (fun c100 => ?_)
      · refine V_iconst C 0 dX1_isA_107 (by decide) ?_
        exact V_zretD C dX1_isA_108 hT (by first | (simp [bI, isAV, c91, c100]; done) | (have := sw5n hsw; simp [bI, isAV, this, c91, c100]; done) | (simp_all [bI, isAV]; done)) rfl
      · refine V_iconst C 1 dX1_isA_103 (by decide) ?_
        refine V_goto C dX1_isA_104 ?_
        exact V_zretD C dX1_isA_108 hT (by first | (simp [bI, isAV, c91, c100]; done) | (have := sw5n hsw; simp [bI, isAV, this, c91, c100]; done) | (simp_all [bI, isAV]; done)) rfl
  · refine V_tableOut (tgt := 109) C dX1_isA_1 (hsw) (by decide) ?_
    refine V_aload_n C dX1_isA_109 rfl ?_
    refine V_get C dX1_isA_110 (rdH (by first | assumption | omega) (by first | assumption | omega) 0 rfl) in_X1 (by decide) q101 rfl ?_
    refine V_iload_n C dX1_isA_113 rfl ?_
    refine V_icmp_ne C dX1_isA_114 (fun c114 => ?_) (fun c114 => ?_)
    · refine V_iconst C 0 dX1_isA_121 (by decide) ?_
      exact V_zretD C dX1_isA_122 hT (by first | (simp [bI, isAV, c114]; done) | (have := sw5n hsw; simp [bI, isAV, this, c114]; done) | (simp_all [bI, isAV]; done)) rfl
    · refine V_iconst C 1 dX1_isA_117 (by decide) ?_
      refine V_goto C dX1_isA_118 ?_
      exact V_zretD C dX1_isA_122 hT (by first | (simp [bI, isAV, c114]; done) | (have := sw5n hsw; simp [bI, isAV, this, c114]; done) | (simp_all [bI, isAV]; done)) rfl

theorem c_X1_needs {l : Launch} {E : En} {σ : Sg} {v i : Nat} (hv : v < 5) (hi : i < nh (σ v)) : MD l yX1_needs cX1_needs 1 (some .boolean) rmX1_needs E [.ref (ad E (hc v i))] σ (some (.int (bI (¬ hf (σ v) i 0 = 4)))) (σ) := by
  refine MD_of (by decide +kernel) rfl fun x C hE hT hcan => ?_
  have C : CX x cX1_needs RX1 rmX1_needs := C
  have hi8 : i < 8 := Nat.lt_of_lt_of_le hi (hcan.1 v hv).2.1
  refine V_L (L' := [some (.ref (ad E (hc v i)))]) rfl ?_
  refine V_aload_n C dX1_needs_0 rfl ?_
  refine V_get C dX1_needs_1 (rdH (by first | assumption | omega) (by first | assumption | omega) 0 rfl) in_X1 (by decide) q101 rfl ?_
  refine V_iconst C 4 dX1_needs_4 (by decide) ?_
  refine V_icmp_eq C dX1_needs_5 (fun c5 => ?_) (fun c5 => ?_)
  · refine V_iconst C 0 dX1_needs_12 (by decide) ?_
    exact V_zretD C dX1_needs_13 hT (by simp [bI, c5]) rfl
  · refine V_iconst C 1 dX1_needs_8 (by decide) ?_
    refine V_goto C dX1_needs_9 ?_
    exact V_zretD C dX1_needs_13 hT (by simp [bI, c5]) rfl

theorem c_X1_burns {l : Launch} {E : En} {σ : Sg} {v i : Nat} (hv : v < 5) (hi : i < nh (σ v)) : MD l yX1_burns cX1_burns 1 (some .int) rmX1_burns E [.ref (ad E (hc v i))] σ (some (.int (burnsV (hf (σ v) i 0)))) (σ) := by
  refine MD_of (by decide +kernel) rfl fun x C hE hT hcan => ?_
  have C : CX x cX1_burns RX1 rmX1_burns := C
  have hi8 : i < 8 := Nat.lt_of_lt_of_le hi (hcan.1 v hv).2.1
  refine V_L (L' := [some (.ref (ad E (hc v i)))]) rfl ?_
  refine V_aload_n C dX1_burns_0 rfl ?_
  refine V_get C dX1_burns_1 (rdH (by first | assumption | omega) (by first | assumption | omega) 0 rfl) in_X1 (by decide) q101 rfl ?_
  refine V_iconst C 4 dX1_burns_4 (by decide) ?_
  refine V_icmp_ne C dX1_burns_5 (fun c5 => ?_) (fun c5 => ?_)
  · refine V_aload_n C dX1_burns_10 rfl ?_
    refine V_get C dX1_burns_11 (rdH (by first | assumption | omega) (by first | assumption | omega) 0 rfl) in_X1 (by decide) q101 rfl ?_
    refine V_bipush C 6 dX1_burns_14 (by decide) ?_
    refine V_icmp_ne C dX1_burns_16 (fun c16 => ?_) (fun c16 => ?_)
    · refine V_iconst C 1 dX1_burns_23 (by decide) ?_
      exact V_iretD C dX1_burns_24 hT (by simp [burnsV, c5, c16]) rfl
    · refine V_iconst C 2 dX1_burns_19 (by decide) ?_
      refine V_goto C dX1_burns_20 ?_
      exact V_iretD C dX1_burns_24 hT (by simp [burnsV, c5, c16]) rfl
  · refine V_iconst C 0 dX1_burns_8 (by decide) ?_
    exact V_iretD C dX1_burns_9 hT (by simp [burnsV, c5]) rfl

theorem c_X1_heats {l : Launch} {E : En} {σ : Sg} {v i : Nat} (hv : v < 5) (hi : i < nh (σ v)) : MD l yX1_heats cX1_heats 2 (some .int) rmX1_heats E [.ref (ad E (hc v i))] σ (some (.int (heatsV (hf (σ v) i 0) (hf (σ v) i 1)))) (σ) := by
  refine MD_of (by decide +kernel) rfl fun x C hE hT hcan => ?_
  have C : CX x cX1_heats RX1 rmX1_heats := C
  have hi8 : i < 8 := Nat.lt_of_lt_of_le hi (hcan.1 v hv).2.1
  refine V_L (L' := [some (.ref (ad E (hc v i))), none]) rfl ?_
  refine V_aload_n C dX1_heats_0 rfl ?_
  refine V_iconst C 5 dX1_heats_1 (by decide) ?_
  refine V_cv C hE dX1_heats_2 (c_X1_isA hv hi) kyX1_isA q299 (isoH (by first | assumption | omega) (by first | assumption | omega)) rfl rfl rfl ?_
  refine V_ifeq_b C dX1_heats_5 (fun c5 => ?_) (fun c5 => ?_)
  · refine V_bipush C 40 dX1_heats_22 (by decide) ?_
    refine V_istore_n C dX1_heats_24 rfl ?_
    refine V_aload_n C dX1_heats_25 rfl ?_
    refine V_get C dX1_heats_26 (rdH (by first | assumption | omega) (by first | assumption | omega) 0 rfl) in_X1 (by decide) q101 rfl ?_
    refine V_iconst C 3 dX1_heats_29 (by decide) ?_
    refine V_icmp_ne C dX1_heats_30 (fun c30 => ?_) (fun c30 => ?_)
    · refine V_aload_n C dX1_heats_38 rfl ?_
      refine V_get C dX1_heats_39 (rdH (by first | assumption | omega) (by first | assumption | omega) 0 rfl) in_X1 (by decide) q101 rfl ?_
      refine V_bipush C 6 dX1_heats_42 (by decide) ?_
      refine V_icmp_ne C dX1_heats_44 (fun c44 => ?_) (fun c44 => ?_)
      · refine V_iload_n C dX1_heats_54 rfl ?_
        exact V_iretD C dX1_heats_55 hT (by grind [heatsV]) rfl
      · refine V_iload_n C dX1_heats_47 rfl ?_
        refine V_bipush C 20 dX1_heats_48 (by decide) ?_
        refine V_iadd C dX1_heats_50 ?_
        refine V_goto C dX1_heats_51 ?_
        exact V_iretD C dX1_heats_55 hT (by grind [heatsV]) rfl
    · refine V_iload_n C dX1_heats_33 rfl ?_
      refine V_bipush C 10 dX1_heats_34 (by decide) ?_
      refine V_isub C dX1_heats_36 ?_
      exact V_iretD C dX1_heats_37 hT (by grind [heatsV]) rfl
  · refine V_aload_n C dX1_heats_8 rfl ?_
    refine V_get C dX1_heats_9 (rdH (by first | assumption | omega) (by first | assumption | omega) 1 rfl) in_X1 (by decide) q102 rfl ?_
    refine V_sipush C 200 dX1_heats_12 (by decide) ?_
    refine V_icmp_lt C dX1_heats_15 (fun c15 => ?_) (fun c15 => ?_)
    · refine V_bipush C 40 dX1_heats_22 (by decide) ?_
      refine V_istore_n C dX1_heats_24 rfl ?_
      refine V_aload_n C dX1_heats_25 rfl ?_
      refine V_get C dX1_heats_26 (rdH (by first | assumption | omega) (by first | assumption | omega) 0 rfl) in_X1 (by decide) q101 rfl ?_
      refine V_iconst C 3 dX1_heats_29 (by decide) ?_
      refine V_icmp_ne C dX1_heats_30 (fun c30 => ?_) (fun c30 => ?_)
      · refine V_aload_n C dX1_heats_38 rfl ?_
        refine V_get C dX1_heats_39 (rdH (by first | assumption | omega) (by first | assumption | omega) 0 rfl) in_X1 (by decide) q101 rfl ?_
        refine V_bipush C 6 dX1_heats_42 (by decide) ?_
        refine V_icmp_ne C dX1_heats_44 (fun c44 => ?_) (fun c44 => ?_)
        · refine V_iload_n C dX1_heats_54 rfl ?_
          exact V_iretD C dX1_heats_55 hT (by grind [heatsV]) rfl
        · refine V_iload_n C dX1_heats_47 rfl ?_
          refine V_bipush C 20 dX1_heats_48 (by decide) ?_
          refine V_iadd C dX1_heats_50 ?_
          refine V_goto C dX1_heats_51 ?_
          exact V_iretD C dX1_heats_55 hT (by grind [heatsV]) rfl
      · refine V_iload_n C dX1_heats_33 rfl ?_
        refine V_bipush C 10 dX1_heats_34 (by decide) ?_
        refine V_isub C dX1_heats_36 ?_
        exact V_iretD C dX1_heats_37 hT (by grind [heatsV]) rfl
    · refine V_iconst C 0 dX1_heats_18 (by decide) ?_
      refine V_goto C dX1_heats_19 ?_
      refine V_istore_n C dX1_heats_24 rfl ?_
      refine V_aload_n C dX1_heats_25 rfl ?_
      refine V_get C dX1_heats_26 (rdH (by first | assumption | omega) (by first | assumption | omega) 0 rfl) in_X1 (by decide) q101 rfl ?_
      refine V_iconst C 3 dX1_heats_29 (by decide) ?_
      refine V_icmp_ne C dX1_heats_30 (fun c30 => ?_) (fun c30 => ?_)
      · refine V_aload_n C dX1_heats_38 rfl ?_
        refine V_get C dX1_heats_39 (rdH (by first | assumption | omega) (by first | assumption | omega) 0 rfl) in_X1 (by decide) q101 rfl ?_
        refine V_bipush C 6 dX1_heats_42 (by decide) ?_
        refine V_icmp_ne C dX1_heats_44 (fun c44 => ?_) (fun c44 => ?_)
        · refine V_iload_n C dX1_heats_54 rfl ?_
          exact V_iretD C dX1_heats_55 hT (by grind [heatsV]) rfl
        · refine V_iload_n C dX1_heats_47 rfl ?_
          refine V_bipush C 20 dX1_heats_48 (by decide) ?_
          refine V_iadd C dX1_heats_50 ?_
          refine V_goto C dX1_heats_51 ?_
          exact V_iretD C dX1_heats_55 hT (by grind [heatsV]) rfl
      · refine V_iload_n C dX1_heats_33 rfl ?_
        refine V_bipush C 10 dX1_heats_34 (by decide) ?_
        refine V_isub C dX1_heats_36 ?_
        exact V_iretD C dX1_heats_37 hT (by grind [heatsV]) rfl

theorem c_X1_loses {l : Launch} {E : En} {σ : Sg} {v i : Nat} {p0 : Int32} (hv : v < 5) (hi : i < nh (σ v)) (hwl : 0 < hf (σ v) i 2) : MD l yX1_loses cX1_loses 3 (some .int) rmX1_loses E [.ref (ad E (hc v i)), .int p0] σ (some (.int (losesV (hf (σ v) i 0) (hf (σ v) i 1) (hf (σ v) i 2) p0))) (σ) := by
  refine MD_of (by decide +kernel) rfl fun x C hE hT hcan => ?_
  have C : CX x cX1_loses RX1 rmX1_loses := C
  have hi8 : i < 8 := Nat.lt_of_lt_of_le hi (hcan.1 v hv).2.1
  refine V_L (L' := [some (.ref (ad E (hc v i))), some (.int p0), none]) rfl ?_
  have j30 : V x (eA E) (AP x E σ) 0 0 30 [some (.ref (ad E (hc v i))), some (.int p0), none] [.int (plainV (hf (σ v) i 1) (hf (σ v) i 2) p0)] := by
    refine V_istore_n C dX1_loses_30 rfl ?_
    refine V_aload_n C dX1_loses_31 rfl ?_
    refine V_iconst C 2 dX1_loses_32 (by decide) ?_
    refine V_cv C hE dX1_loses_33 (c_X1_isA hv hi) kyX1_isA q299 (isoH (by first | assumption | omega) (by first | assumption | omega)) rfl rfl rfl ?_
    refine V_ifeq_b C dX1_loses_36 (fun c36 => ?_) (fun c36 => ?_)
    · refine V_aload_n C dX1_loses_43 rfl ?_
      refine V_get C dX1_loses_44 (rdH (by first | assumption | omega) (by first | assumption | omega) 0 rfl) in_X1 (by decide) q101 rfl ?_
      refine V_iconst C 3 dX1_loses_47 (by decide) ?_
      refine V_icmp_ne C dX1_loses_48 (fun c48 => ?_) (fun c48 => ?_)
      · refine V_iload_n C dX1_loses_57 rfl ?_
        exact V_iretD C dX1_loses_58 hT (by simp_all [losesV, isAV]) rfl
      · refine V_iload_n C dX1_loses_51 rfl ?_
        refine V_iconst C 2 dX1_loses_52 (by decide) ?_
        refine V_idiv C dX1_loses_53 (by decide) ?_
        refine V_goto C dX1_loses_54 ?_
        exact V_iretD C dX1_loses_58 hT (by simp_all [losesV, isAV]) rfl
    · refine V_iconst C 2 dX1_loses_39 (by decide) ?_
      refine V_iload_n C dX1_loses_40 rfl ?_
      refine V_imul C dX1_loses_41 ?_
      exact V_iretD C dX1_loses_42 hT (by simp_all [losesV, isAV]) rfl
  refine V_aload_n C dX1_loses_0 rfl ?_
  refine V_get C dX1_loses_1 (rdH (by first | assumption | omega) (by first | assumption | omega) 2 rfl) in_X1 (by decide) q105 rfl ?_
  refine V_if_le C dX1_loses_4 (fun c4 => ?_) (fun c4 => ?_)
  · refine V_iconst C 0 dX1_loses_29 (by decide) ?_
    exact V_st (by simp only [plainV]; first | (rw [if_neg (by grind)]; done) | (exact congrArg (fun z => [Value.int z]) (plain0 (by first | exact Or.inl c4 | exact Or.inr c12) hwl))) j30
  · refine V_aload_n C dX1_loses_7 rfl ?_
    refine V_get C dX1_loses_8 (rdH (by first | assumption | omega) (by first | assumption | omega) 1 rfl) in_X1 (by decide) q102 rfl ?_
    refine V_iload_n C dX1_loses_11 rfl ?_
    refine V_icmp_le C dX1_loses_12 (fun c12 => ?_) (fun c12 => ?_)
    · refine V_iconst C 0 dX1_loses_29 (by decide) ?_
      exact V_st (by simp only [plainV]; first | (rw [if_neg (by grind)]; done) | (exact congrArg (fun z => [Value.int z]) (plain0 (by first | exact Or.inl c4 | exact Or.inr c12) hwl))) j30
    · refine V_aload_n C dX1_loses_15 rfl ?_
      refine V_get C dX1_loses_16 (rdH (by first | assumption | omega) (by first | assumption | omega) 1 rfl) in_X1 (by decide) q102 rfl ?_
      refine V_iload_n C dX1_loses_19 rfl ?_
      refine V_isub C dX1_loses_20 ?_
      refine V_aload_n C dX1_loses_21 rfl ?_
      refine V_get C dX1_loses_22 (rdH (by first | assumption | omega) (by first | assumption | omega) 2 rfl) in_X1 (by decide) q105 rfl ?_
      refine V_idiv C dX1_loses_25 (fun h => c4 (by rw [h]; decide)) ?_
      refine V_goto C dX1_loses_26 ?_
      exact V_st (by simp only [plainV]; first | (rw [if_neg (by grind)]; done) | (exact congrArg (fun z => [Value.int z]) (plain0 (by first | exact Or.inl c4 | exact Or.inr c12) hwl))) j30

theorem c_X1_gets {l : Launch} {E : En} {σ : Sg} {v i : Nat} {p0 : Int32} (hv : v < 5) (hi : i < nh (σ v)) : MD l yX1_gets cX1_gets 2 (some .int) rmX1_gets E [.ref (ad E (hc v i)), .int p0] σ (some (.int (getsV (hf (σ v) i 0) p0))) (σ) := by
  refine MD_of (by decide +kernel) rfl fun x C hE hT hcan => ?_
  have C : CX x cX1_gets RX1 rmX1_gets := C
  have hi8 : i < 8 := Nat.lt_of_lt_of_le hi (hcan.1 v hv).2.1
  refine V_L (L' := [some (.ref (ad E (hc v i))), some (.int p0)]) rfl ?_
  refine V_aload_n C dX1_gets_0 rfl ?_
  refine V_iconst C 1 dX1_gets_1 (by decide) ?_
  refine V_cv C hE dX1_gets_2 (c_X1_isA hv hi) kyX1_isA q299 (isoH (by first | assumption | omega) (by first | assumption | omega)) rfl rfl rfl ?_
  refine V_ifeq_b C dX1_gets_5 (fun c5 => ?_) (fun c5 => ?_)
  · refine V_iconst C 0 dX1_gets_14 (by decide) ?_
    exact V_iretD C dX1_gets_15 hT (by simp_all [getsV, isAV]) rfl
  · refine V_iload_n C dX1_gets_8 rfl ?_
    refine V_iconst C 4 dX1_gets_9 (by decide) ?_
    refine V_idiv C dX1_gets_10 (by decide) ?_
    refine V_goto C dX1_gets_11 ?_
    exact V_iretD C dX1_gets_15 hT (by simp_all [getsV, isAV]) rfl

theorem c_X1_isCold {l : Launch} {E : En} {σ : Sg} {v i : Nat} (hv : v < 5) (hi : i < nh (σ v)) : MD l yX1_isCold cX1_isCold 1 (some .boolean) rmX1_isCold E [.ref (ad E (hc v i))] σ (some (.int (bI (coldV (hf (σ v) i 0) (hf (σ v) i 1) (hf (σ v) i 4))))) (σ) := by
  refine MD_of (by decide +kernel) rfl fun x C hE hT hcan => ?_
  have C : CX x cX1_isCold RX1 rmX1_isCold := C
  have hi8 : i < 8 := Nat.lt_of_lt_of_le hi (hcan.1 v hv).2.1
  refine V_L (L' := [some (.ref (ad E (hc v i)))]) rfl ?_
  refine V_aload_n C dX1_isCold_0 rfl ?_
  refine V_cv C hE dX1_isCold_1 (c_X1_needs hv hi) kyX1_needs q435 (isoH (by first | assumption | omega) (by first | assumption | omega)) rfl rfl rfl ?_
  refine V_ifeq_b C dX1_isCold_4 (fun c4 => ?_) (fun c4 => ?_)
  · refine V_iconst C 0 dX1_isCold_22 (by decide) ?_
    exact V_zretD C dX1_isCold_23 hT (by simp_all [bI, coldV]) rfl
  · refine V_aload_n C dX1_isCold_7 rfl ?_
    refine V_get C dX1_isCold_8 (rdH (by first | assumption | omega) (by first | assumption | omega) 1 rfl) in_X1 (by decide) q102 rfl ?_
    refine V_aload_n C dX1_isCold_11 rfl ?_
    refine V_get C dX1_isCold_12 (rdH (by first | assumption | omega) (by first | assumption | omega) 4 rfl) in_X1 (by decide) q110 rfl ?_
    refine V_icmp_ge C dX1_isCold_15 (fun c15 => ?_) (fun c15 => ?_)
    · refine V_iconst C 0 dX1_isCold_22 (by decide) ?_
      exact V_zretD C dX1_isCold_23 hT (by simp_all [bI, coldV]) rfl
    · refine V_iconst C 1 dX1_isCold_18 (by decide) ?_
      refine V_goto C dX1_isCold_19 ?_
      exact V_zretD C dX1_isCold_23 hT (by simp_all [bI, coldV]) rfl

theorem c_X1_warmBy {l : Launch} {E : En} {σ : Sg} {v i : Nat} {p0 : Int32} (hv : v < 5) (hi : i < nh (σ v)) : MD l yX1_warmBy cX1_warmBy 2 none rmX1_warmBy E [.ref (ad E (hc v i)), .int p0] σ none (us σ v (uh (σ v) i 1 (warmV (hf (σ v) i 1) p0))) := by
  refine MD_of (by decide +kernel) rfl fun x C hE hT hcan => ?_
  have C : CX x cX1_warmBy RX1 rmX1_warmBy := C
  have hi8 : i < 8 := Nat.lt_of_lt_of_le hi (hcan.1 v hv).2.1
  refine V_L (L' := [some (.ref (ad E (hc v i))), some (.int p0)]) rfl ?_
  refine V_aload_n C dX1_warmBy_0 rfl ?_
  refine V_sipush C 400 dX1_warmBy_1 (by decide) ?_
  refine V_aload_n C dX1_warmBy_4 rfl ?_
  refine V_get C dX1_warmBy_5 (rdH (by first | assumption | omega) (by first | assumption | omega) 1 rfl) in_X1 (by decide) q102 rfl ?_
  refine V_iload_n C dX1_warmBy_8 rfl ?_
  refine V_iadd C dX1_warmBy_9 ?_
  refine V_mmin C dX1_warmBy_10 q408 q361 q69 q362 rfl rfl (Nat.zero_le _) (Nat.zero_le _) ?_
  refine V_put C dX1_warmBy_13 (wrH (by first | assumption | omega) (by first | assumption | omega) 1 rfl) ft_X1 (by decide) q102 rfl rfl rfl rfl ?_
  exact V_retD C dX1_warmBy_16 hT rfl

theorem c_X1_cool {l : Launch} {E : En} {σ : Sg} {v i : Nat} {p0 : Int32} (hv : v < 5) (hi : i < nh (σ v)) (hwl : 0 < hf (σ v) i 2) : MD l yX1_cool cX1_cool 2 none rmX1_cool E [.ref (ad E (hc v i)), .int p0] σ none (us σ v (uh (σ v) i 1 (coolV (hf (σ v) i 1) (losesV (hf (σ v) i 0) (hf (σ v) i 1) (hf (σ v) i 2) p0)))) := by
  refine MD_of (by decide +kernel) rfl fun x C hE hT hcan => ?_
  have C : CX x cX1_cool RX1 rmX1_cool := C
  have hi8 : i < 8 := Nat.lt_of_lt_of_le hi (hcan.1 v hv).2.1
  refine V_L (L' := [some (.ref (ad E (hc v i))), some (.int p0)]) rfl ?_
  refine V_aload_n C dX1_cool_0 rfl ?_
  refine V_iconst C 0 dX1_cool_1 (by decide) ?_
  refine V_aload_n C dX1_cool_2 rfl ?_
  refine V_get C dX1_cool_3 (rdH (by first | assumption | omega) (by first | assumption | omega) 1 rfl) in_X1 (by decide) q102 rfl ?_
  refine V_aload_n C dX1_cool_6 rfl ?_
  refine V_iload_n C dX1_cool_7 rfl ?_
  refine V_cv C hE dX1_cool_8 (c_X1_loses hv hi hwl) kyX1_loses q417 (isoH (by first | assumption | omega) (by first | assumption | omega)) rfl rfl rfl ?_
  refine V_isub C dX1_cool_11 ?_
  refine V_mmax C dX1_cool_12 q418 q358 q69 q359 rfl rfl (Nat.zero_le _) (Nat.zero_le _) ?_
  refine V_put C dX1_cool_15 (wrH (by first | assumption | omega) (by first | assumption | omega) 1 rfl) ft_X1 (by decide) q102 rfl rfl rfl rfl ?_
  exact V_retD C dX1_cool_18 hT (by rw [← cool_max])
