def rnX2_init : Room := { frames := 1, cells := 0, slots := 0, locals := 20 }
def rnX2_readAll : Room := { frames := 8, cells := 0, slots := 0, locals := 173 }
def rnX2_readItem : Room := { frames := 7, cells := 0, slots := 0, locals := 152 }
def rnX2_kindTold : Room := { frames := 5, cells := 0, slots := 0, locals := 107 }
def rnX2_readHouse : Room := { frames := 6, cells := 0, slots := 0, locals := 130 }
def rnX2_readPart : Room := { frames := 5, cells := 0, slots := 0, locals := 107 }
def rnX2_readSteep : Room := { frames := 2, cells := 0, slots := 0, locals := 41 }
def rnX2_readOut : Room := { frames := 2, cells := 0, slots := 0, locals := 41 }
def rnX2_isNumber : Room := { frames := 0, cells := 0, slots := 0, locals := 0 }
def rnX2_isWord : Room := { frames := 4, cells := 0, slots := 0, locals := 85 }
def rnX2_byteAt : Room := { frames := 0, cells := 0, slots := 0, locals := 0 }
def rnX2_isLetter : Room := { frames := 0, cells := 0, slots := 0, locals := 0 }
def rnX2_isDigit : Room := { frames := 0, cells := 0, slots := 0, locals := 0 }
def rnX2_next : Room := { frames := 1, cells := 0, slots := 0, locals := 21 }
def rnX8_text : Room := { frames := 9, cells := 0, slots := 0, locals := 195 }
/-- the reader's own slots -/
def WF (f : Nat → Int32) (a b c d : Int32) : Nat → Int32 := upd (upd (upd (upd f 3 a) 4 b) 5 c) 6 d
theorem WF_id (f : Nat → Int32) : WF f (f 3) (f 4) (f 5) (f 6) = f := by
  unfold WF
  funext k
  unfold upd
  split
  · next h => rw [h]
  · split
    · next h => rw [h]
    · split
      · next h => rw [h]
      · split
        · next h => rw [h]
        · rfl
theorem WF_g3 {f : Nat → Int32} {a b c d : Int32} : WF f a b c d 3 = a := rfl
theorem WF_g4 {f : Nat → Int32} {a b c d : Int32} : WF f a b c d 4 = b := rfl
theorem WF_g5 {f : Nat → Int32} {a b c d : Int32} : WF f a b c d 5 = c := rfl
theorem WF_g6 {f : Nat → Int32} {a b c d : Int32} : WF f a b c d 6 = d := rfl
theorem WF_g2 {f : Nat → Int32} {a b c d : Int32} : WF f a b c d 2 = f 2 := rfl
theorem upd_c {f : Nat → Int32} {i j : Nat} {a b : Int32} (h : i ≠ j) : upd (upd f i a) j b = upd (upd f j b) i a := by
  funext k
  unfold upd
  by_cases e : k = i
  · rw [if_pos e, if_neg (by omega), if_pos e]
  · rw [if_neg e, if_neg e]
theorem WF_6 {f : Nat → Int32} {a b c d y : Int32} : upd (WF f a b c d) 6 y = WF f a b c y := by unfold WF; rw [upd_upd]
theorem WF_5 {f : Nat → Int32} {a b c d y : Int32} : upd (WF f a b c d) 5 y = WF f a b y d := by unfold WF; rw [upd_c (by omega), upd_upd]
theorem WF_4 {f : Nat → Int32} {a b c d y : Int32} : upd (WF f a b c d) 4 y = WF f a y c d := by unfold WF; rw [upd_c (i := 6) (by omega), upd_c (i := 5) (by omega), upd_upd]
theorem WF_3 {f : Nat → Int32} {a b c d y : Int32} : upd (WF f a b c d) 3 y = WF f y b c d := by unfold WF; rw [upd_c (i := 6) (by omega), upd_c (i := 5) (by omega), upd_c (i := 4) (by omega), upd_upd]
/-- which token begins at s, as the class numbers them -/
def tkT (t : Nat → Int32) (n s : Nat) : Int32 := if s < n then (if isLT (t s) then 1 else if isDT (t s) then 2 else if t s = 59 then 3 else 4) else 0
def cvT (t : Nat → Int32) (n s : Nat) : Int32 := if s < n ∧ isDT (t s) then nI (vcT t s (enT t n s - s)) else 0
def RF (f t : Nat → Int32) (n s : Nat) : Nat → Int32 := WF f (nI (enT t n s)) (nI s) (tkT t n s) (cvT t n s)
theorem tk_1 {t : Nat → Int32} {n s : Nat} : tkT t n s = 1 ↔ s < n ∧ isLT (t s) := by
  unfold tkT
  by_cases h : s < n
  · rw [if_pos h]
    by_cases h1 : isLT (t s)
    · rw [if_pos h1]; exact ⟨fun _ => ⟨h, h1⟩, fun _ => rfl⟩
    · rw [if_neg h1]
      refine ⟨fun q => ?_, fun q => absurd q.2 h1⟩
      split at q
      · exact absurd q (by decide)
      · split at q <;> exact absurd q (by decide)
  · rw [if_neg h]; exact ⟨fun q => absurd q (by decide), fun q => absurd q.1 h⟩
theorem tk_2 {t : Nat → Int32} {n s : Nat} : tkT t n s = 2 ↔ s < n ∧ isDT (t s) := by
  unfold tkT
  by_cases h : s < n
  · rw [if_pos h]
    by_cases h1 : isLT (t s)
    · rw [if_pos h1]; exact ⟨fun q => absurd q (by decide), fun q => absurd q.2 (not_LD h1)⟩
    · rw [if_neg h1]
      by_cases h2 : isDT (t s)
      · rw [if_pos h2]; exact ⟨fun _ => ⟨h, h2⟩, fun _ => rfl⟩
      · rw [if_neg h2]
        refine ⟨fun q => ?_, fun q => absurd q.2 h2⟩
        split at q <;> exact absurd q (by decide)
  · rw [if_neg h]; exact ⟨fun q => absurd q (by decide), fun q => absurd q.1 h⟩
theorem tk_3 {t : Nat → Int32} {n s : Nat} : tkT t n s = 3 ↔ s < n ∧ t s = 59 := by
  unfold tkT
  by_cases h : s < n
  · rw [if_pos h]
    by_cases h1 : isLT (t s)
    · rw [if_pos h1]; exact ⟨fun q => absurd q (by decide), fun q => absurd h1 (by rw [q.2]; decide)⟩
    · rw [if_neg h1]
      by_cases h2 : isDT (t s)
      · rw [if_pos h2]; exact ⟨fun q => absurd q (by decide), fun q => absurd h2 (by rw [q.2]; decide)⟩
      · rw [if_neg h2]
        by_cases h3 : t s = 59
        · rw [if_pos h3]; exact ⟨fun _ => ⟨h, h3⟩, fun _ => rfl⟩
        · rw [if_neg h3]; exact ⟨fun q => absurd q (by decide), fun q => absurd q.2 h3⟩
  · rw [if_neg h]; exact ⟨fun q => absurd q (by decide), fun q => absurd q.1 h⟩
theorem tk_0 {t : Nat → Int32} {n s : Nat} : tkT t n s = 0 ↔ ¬ s < n := by
  unfold tkT
  by_cases h : s < n
  · rw [if_pos h]
    refine ⟨fun q => ?_, fun q => absurd h q⟩
    split at q
    · exact absurd q (by decide)
    · split at q
      · exact absurd q (by decide)
      · split at q <;> exact absurd q (by decide)
  · rw [if_neg h]; exact ⟨fun _ => h, fun _ => rfl⟩
theorem nm_cl {t : Nat → Int32} {n s lo hi : Nat} (hl : lo ≤ 999) (hh : hi ≤ 999) (h : s < n ∧ isDT (t s)) : (nI lo ≤ cvT t n s ∧ cvT t n s ≤ nI hi) ↔ (lo ≤ vlT t n s ∧ vlT t n s ≤ hi) := by
  unfold cvT
  rw [if_pos h, vcT_eq (e := enT t n s) (fun k h1 h2 => (enT_mD h.1 h.2 h1 h2).2) _ (by have := enT_ge (t := t) (n := n) (s := s); omega)]
  show (nI lo ≤ nI (min 1000 (vlT t n s)) ∧ nI (min 1000 (vlT t n s)) ≤ nI hi) ↔ _
  rw [nI_leI (by omega) (by omega), nI_leI (by omega) (by omega)]
  omega
theorem cv_v {t : Nat → Int32} {n s lo hi : Nat} (hh : hi ≤ 999) (h : nmT t n lo hi s) : cvT t n s = nI (vlT t n s) := by
  obtain ⟨h1, h2, h3⟩ := nmT_i.mp h
  unfold cvT
  rw [if_pos h1, vcT_eq (e := enT t n s) (fun k g1 g2 => (enT_mD h1.1 h1.2 g1 g2).2) _ (by have := enT_ge (t := t) (n := n) (s := s); omega)]
  show nI (min 1000 (vlT t n s)) = _
  congr 1; omega
theorem dg_st {t : Nat → Int32} {s k : Nat} (hd : isDT (t (s + k))) (hv : vcT t s k ≤ 1000) : (if 10 * nI (vcT t s k) + t (s + k) - 48 < 1000 then 10 * nI (vcT t s k) + t (s + k) - 48 else 1000) = nI (vcT t s (k + 1)) := by
  obtain ⟨h1, h2⟩ := dgT_b hd
  have e : 10 * nI (vcT t s k) + t (s + k) - 48 = nI (10 * vcT t s k + dgT (t (s + k))) := by
    rw [h2, show (10 : Int32) * nI (vcT t s k) = nI (10 * vcT t s k) from nI_mul 10 _, nI_add]
    rw [← h2, show (48 : Int32) = nI 48 from rfl, nI_msub (by omega)]
    congr 1; omega
  rw [e]
  show _ = nI (min 1000 (10 * vcT t s k + dgT (t (s + k))))
  by_cases c : 10 * vcT t s k + dgT (t (s + k)) < 1000
  · rw [if_pos (show nI (10 * vcT t s k + dgT (t (s + k))) < 1000 from nI_lt (b := 1000) c (by omega))]; congr 1; omega
  · rw [if_neg (show ¬ nI (10 * vcT t s k + dgT (t (s + k))) < 1000 from nI_nlt (b := 1000) (by omega) (by omega))]; show nI 1000 = _; congr 1; omega
theorem vcT_b {t : Nat → Int32} {s : Nat} : ∀ k, vcT t s k ≤ 1000 := by
  intro k
  cases k with
  | zero => exact Nat.zero_le _
  | succ k => show min 1000 _ ≤ 1000; omega

theorem c_X2_byteAt {l : Launch} {E : En} {σ : Sg} {n i : Nat} (h2 : σ 64 2 = nI n) (hn : n ≤ 120) (hi : i ≤ 200) : MD l yX2_byteAt cX2_byteAt 2 (some .int) rnX2_byteAt E [.ref (ad E 64), .int (nI i)] σ (some (.int (bAT (σ 63) n i))) (σ) := by
  refine MD_of (by decide +kernel) rfl fun x C hE hT hcan => ?_
  have C : CX x cX2_byteAt RX2 rnX2_byteAt := C
  refine V_L (L' := [some (.ref (ad E 64)), some (.int (nI i))]) rfl ?_
  refine V_iload_n C dX2_byteAt_0 rfl ?_
  refine V_if_lt C dX2_byteAt_1 (fun c1 => absurd c1 (nI_pos (by omega))) (fun c1 => ?_)
  refine V_iload_n C dX2_byteAt_4 rfl ?_
  refine V_aload_n C dX2_byteAt_5 rfl ?_
  refine V_get C dX2_byteAt_6 (rdO (j := 2) 64 rfl rfl rfl rfl rfl) in_X2 (by decide) q194 rfl ?_
  refine V_icmp_ge C dX2_byteAt_9 (fun c9 => ?_) (fun c9 => ?_)
  · refine V_iconst C (-1) dX2_byteAt_30 (by decide) ?_
    exact V_iretD C dX2_byteAt_31 hT (by rw [h2] at c9; first | (rw [bAT_out (by have := (nI_leI (a := n) (b := i) (by omega) (by omega)).mp c9; omega)] <;> rfl) | (rw [bAT_in ((nI_ltI (a := i) (b := n) (by omega) (by omega)).mp (Int32.not_le.mp c9))])) rfl
  · refine V_iload_n C dX2_byteAt_12 rfl ?_
    refine V_aload_n C dX2_byteAt_13 rfl ?_
    refine V_get C dX2_byteAt_14 (rdO (j := 0) 64 rfl rfl rfl rfl rfl) in_X2 (by decide) q192 rfl ?_
    refine V_alen C dX2_byteAt_17 (rdOL 63 rfl rfl rfl) rfl ?_
    refine V_icmp_ge C dX2_byteAt_18 (fun c18 => absurd c18 (nI_ge (b := 120) (by rw [h2] at c9; have := (nI_ltI (a := i) (b := n) (by omega) (by omega)).mp (Int32.not_le.mp c9); omega) (by decide))) (fun c18 => ?_)
    refine V_aload_n C dX2_byteAt_21 rfl ?_
    refine V_get C dX2_byteAt_22 (rdO (j := 0) 64 rfl rfl rfl rfl rfl) in_X2 (by decide) q192 rfl ?_
    refine V_iload_n C dX2_byteAt_25 rfl ?_
    refine V_ialdN C i rfl (by rw [h2] at c9; have := (nI_ltI (a := i) (b := n) (by omega) (by omega)).mp (Int32.not_le.mp c9); omega) (by omega) dX2_byteAt_26 (rdOA 63 rfl rfl rfl) ?_
    refine V_goto C dX2_byteAt_27 ?_
    exact V_iretD C dX2_byteAt_31 hT (by rw [h2] at c9; first | (rw [bAT_out (by have := (nI_leI (a := n) (b := i) (by omega) (by omega)).mp c9; omega)] <;> rfl) | (rw [bAT_in ((nI_ltI (a := i) (b := n) (by omega) (by omega)).mp (Int32.not_le.mp c9))])) rfl

theorem c_X2_isLetter {l : Launch} {E : En} {σ : Sg} {p0 : Int32}  : MD l yX2_isLetter cX2_isLetter 2 (some .boolean) rnX2_isLetter E [.ref (ad E 64), .int p0] σ (some (.int (bI (isLT p0)))) (σ) := by
  refine MD_of (by decide +kernel) rfl fun x C hE hT hcan => ?_
  have C : CX x cX2_isLetter RX2 rnX2_isLetter := C
  refine V_L (L' := [some (.ref (ad E 64)), some (.int p0)]) rfl ?_
  refine V_iload_n C dX2_isLetter_0 rfl ?_
  refine V_bipush C 97 dX2_isLetter_1 (by decide) ?_
  refine V_icmp_lt C dX2_isLetter_3 (fun c3 => ?_) (fun c3 => ?_)
  · refine V_iconst C 0 dX2_isLetter_16 (by decide) ?_
    exact V_zretD C dX2_isLetter_17 hT (by first | exact (bI_t ⟨Int32.not_lt.mp c3, Int32.not_lt.mp c9⟩).symm | exact (bI_f (fun q => absurd q.1 (Int32.not_le.mpr c3))).symm | exact (bI_f (fun q => absurd q.2 (Int32.not_le.mpr c9))).symm) rfl
  · refine V_iload_n C dX2_isLetter_6 rfl ?_
    refine V_bipush C 122 dX2_isLetter_7 (by decide) ?_
    refine V_icmp_gt C dX2_isLetter_9 (fun c9 => ?_) (fun c9 => ?_)
    · refine V_iconst C 0 dX2_isLetter_16 (by decide) ?_
      exact V_zretD C dX2_isLetter_17 hT (by first | exact (bI_t ⟨Int32.not_lt.mp c3, Int32.not_lt.mp c9⟩).symm | exact (bI_f (fun q => absurd q.1 (Int32.not_le.mpr c3))).symm | exact (bI_f (fun q => absurd q.2 (Int32.not_le.mpr c9))).symm) rfl
    · refine V_iconst C 1 dX2_isLetter_12 (by decide) ?_
      refine V_goto C dX2_isLetter_13 ?_
      exact V_zretD C dX2_isLetter_17 hT (by first | exact (bI_t ⟨Int32.not_lt.mp c3, Int32.not_lt.mp c9⟩).symm | exact (bI_f (fun q => absurd q.1 (Int32.not_le.mpr c3))).symm | exact (bI_f (fun q => absurd q.2 (Int32.not_le.mpr c9))).symm) rfl

theorem c_X2_isDigit {l : Launch} {E : En} {σ : Sg} {p0 : Int32}  : MD l yX2_isDigit cX2_isDigit 2 (some .boolean) rnX2_isDigit E [.ref (ad E 64), .int p0] σ (some (.int (bI (isDT p0)))) (σ) := by
  refine MD_of (by decide +kernel) rfl fun x C hE hT hcan => ?_
  have C : CX x cX2_isDigit RX2 rnX2_isDigit := C
  refine V_L (L' := [some (.ref (ad E 64)), some (.int p0)]) rfl ?_
  refine V_iload_n C dX2_isDigit_0 rfl ?_
  refine V_bipush C 48 dX2_isDigit_1 (by decide) ?_
  refine V_icmp_lt C dX2_isDigit_3 (fun c3 => ?_) (fun c3 => ?_)
  · refine V_iconst C 0 dX2_isDigit_16 (by decide) ?_
    exact V_zretD C dX2_isDigit_17 hT (by first | exact (bI_t ⟨Int32.not_lt.mp c3, Int32.not_lt.mp c9⟩).symm | exact (bI_f (fun q => absurd q.1 (Int32.not_le.mpr c3))).symm | exact (bI_f (fun q => absurd q.2 (Int32.not_le.mpr c9))).symm) rfl
  · refine V_iload_n C dX2_isDigit_6 rfl ?_
    refine V_bipush C 57 dX2_isDigit_7 (by decide) ?_
    refine V_icmp_gt C dX2_isDigit_9 (fun c9 => ?_) (fun c9 => ?_)
    · refine V_iconst C 0 dX2_isDigit_16 (by decide) ?_
      exact V_zretD C dX2_isDigit_17 hT (by first | exact (bI_t ⟨Int32.not_lt.mp c3, Int32.not_lt.mp c9⟩).symm | exact (bI_f (fun q => absurd q.1 (Int32.not_le.mpr c3))).symm | exact (bI_f (fun q => absurd q.2 (Int32.not_le.mpr c9))).symm) rfl
    · refine V_iconst C 1 dX2_isDigit_12 (by decide) ?_
      refine V_goto C dX2_isDigit_13 ?_
      exact V_zretD C dX2_isDigit_17 hT (by first | exact (bI_t ⟨Int32.not_lt.mp c3, Int32.not_lt.mp c9⟩).symm | exact (bI_f (fun q => absurd q.1 (Int32.not_le.mpr c3))).symm | exact (bI_f (fun q => absurd q.2 (Int32.not_le.mpr c9))).symm) rfl

theorem nx_o {σ : Sg} {f : Nat → Int32} {n s : Nat} (c58 : nI s < nI n) (c81 : ¬ isLT (bAT (σ 63) n s)) (c140 : ¬ isDT (bAT (σ 63) n s)) (c227 : ¬ bAT (σ 63) n s = 59) (hs : s ≤ 120) (hn : n ≤ 120) : us σ 64 (WF f (nI s + 1) (nI s) 4 0) = us σ 64 (RF f (σ 63) n s) := by
  have hsn : s < n := (nI_ltI (by omega) (by omega)).mp c58
  have h1 : ¬ isLT (σ 63 s) := fun q => c81 (bAT_L.mpr ⟨hsn, q⟩)
  have h3 : ¬ isDT (σ 63 s) := fun q => c140 (bAT_D.mpr ⟨hsn, q⟩)
  rw [bAT_in hsn] at c227
  unfold RF tkT cvT
  rw [enT_S hsn h1 h3, if_pos hsn, if_neg h1, if_neg h3, if_neg c227, if_neg (fun q => h3 q.2), nI_1]
theorem nx_s {σ : Sg} {f : Nat → Int32} {n s : Nat} (c58 : nI s < nI n) (c81 : ¬ isLT (bAT (σ 63) n s)) (c140 : ¬ isDT (bAT (σ 63) n s)) (c227 : bAT (σ 63) n s = 59) (hs : s ≤ 120) (hn : n ≤ 120) : us σ 64 (WF f (nI s + 1) (nI s) 3 0) = us σ 64 (RF f (σ 63) n s) := by
  have hsn : s < n := (nI_ltI (by omega) (by omega)).mp c58
  have h1 : ¬ isLT (σ 63 s) := fun q => c81 (bAT_L.mpr ⟨hsn, q⟩)
  have h3 : ¬ isDT (σ 63 s) := fun q => c140 (bAT_D.mpr ⟨hsn, q⟩)
  rw [bAT_in hsn] at c227
  unfold RF tkT cvT
  rw [enT_S hsn h1 h3, if_pos hsn, if_neg h1, if_neg h3, if_pos c227, if_neg (fun q => h3 q.2), nI_1]
theorem nx_e {σ : Sg} {f : Nat → Int32} {n s : Nat} (c58 : ¬ nI s < nI n) (hs : s ≤ 120) (hn : n ≤ 120) : us σ 64 (WF f (nI s) (nI s) 0 0) = us σ 64 (RF f (σ 63) n s) := by
  have hsn : ¬ s < n := fun q => c58 ((nI_ltI (by omega) (by omega)).mpr q)
  unfold RF
  rw [enT_0 hsn, show cvT (σ 63) n s = 0 from if_neg (fun q => hsn q.1), tk_0.mpr hsn]

theorem c_X2_next {l : Launch} {E : En} {σ : Sg} {f : Nat → Int32} {n e : Nat} {b c g : Int32} (hw : σ 64 = WF f (nI e) b c g) (h2 : f 2 = nI n) (he : e ≤ n) (hn : n ≤ 120) : MD l yX2_next cX2_next 1 none rnX2_next E [.ref (ad E 64)] σ none (us σ 64 (RF f (σ 63) n (skT (σ 63) n e))) := by
  refine MD_of (by decide +kernel) rfl fun x C hE hT hcan => ?_
  have C : CX x cX2_next RX2 rnX2_next := C
  refine V_L (L' := [some (.ref (ad E 64))]) rfl ?_
  have j37 : ∀ s, s ≤ n → skT (σ 63) n e = s → V x (eA E) (AP x E (us σ 64 (WF f (nI s) b c g))) 0 0 37 [some (.ref (ad E 64))] [] := by
    intro s hs hsk
    rw [hsk] at hT
    refine V_aload_n C dX2_next_37 rfl ?_
    refine V_aload_n C dX2_next_38 rfl ?_
    refine V_get C dX2_next_39 (rdO (j := 3) 64 rfl rfl rfl rfl rfl) in_X2 (by decide) q195 rfl ?_
    try simp (disch := omega) only [us_us, us_s, us_n, hw, WF_3, WF_4, WF_5, WF_6, WF_g2, WF_g3, WF_g4, WF_g5, WF_g6, RF, h2]
    refine V_put C dX2_next_42 (wrO (j := 4) 64 rfl rfl rfl rfl rfl rfl) ft_X2 (by decide) q196 rfl rfl rfl rfl ?_
    try simp (disch := omega) only [us_us, us_s, us_n, hw, WF_3, WF_4, WF_5, WF_6, WF_g2, WF_g3, WF_g4, WF_g5, WF_g6, RF, h2]
    refine V_aload_n C dX2_next_45 rfl ?_
    refine V_iconst C 0 dX2_next_46 (by decide) ?_
    refine V_put C dX2_next_47 (wrO (j := 6) 64 rfl rfl rfl rfl rfl rfl) ft_X2 (by decide) q198 rfl rfl rfl rfl ?_
    try simp (disch := omega) only [us_us, us_s, us_n, hw, WF_3, WF_4, WF_5, WF_6, WF_g2, WF_g3, WF_g4, WF_g5, WF_g6, RF, h2]
    refine V_aload_n C dX2_next_50 rfl ?_
    refine V_get C dX2_next_51 (rdO (j := 3) 64 rfl rfl rfl rfl rfl) in_X2 (by decide) q195 rfl ?_
    try simp (disch := omega) only [us_us, us_s, us_n, hw, WF_3, WF_4, WF_5, WF_6, WF_g2, WF_g3, WF_g4, WF_g5, WF_g6, RF, h2]
    refine V_aload_n C dX2_next_54 rfl ?_
    refine V_get C dX2_next_55 (rdO (j := 2) 64 rfl rfl rfl rfl rfl) in_X2 (by decide) q194 rfl ?_
    try simp (disch := omega) only [us_us, us_s, us_n, hw, WF_3, WF_4, WF_5, WF_6, WF_g2, WF_g3, WF_g4, WF_g5, WF_g6, RF, h2]
    refine V_icmp_lt C dX2_next_58 (fun c58 => ?_) (fun c58 => ?_)
    · refine V_aload_n C dX2_next_69 rfl ?_
      refine V_aload_n C dX2_next_70 rfl ?_
      refine V_aload_n C dX2_next_71 rfl ?_
      refine V_get C dX2_next_72 (rdO (j := 3) 64 rfl rfl rfl rfl rfl) in_X2 (by decide) q195 rfl ?_
      try simp (disch := omega) only [us_us, us_s, us_n, hw, WF_3, WF_4, WF_5, WF_6, WF_g2, WF_g3, WF_g4, WF_g5, WF_g6, RF, h2]
      refine V_cv C hE dX2_next_75 (c_X2_byteAt (n := n) (i := s) (by simp (disch := omega) only [us_s, WF_g2, h2]) (by omega) (by omega)) kyX2_byteAt q675 (isoO 64 rfl rfl rfl rfl) rfl rfl rfl ?_
      try simp (disch := omega) only [us_us, us_s, us_n, hw, WF_3, WF_4, WF_5, WF_6, WF_g2, WF_g3, WF_g4, WF_g5, WF_g6, RF, h2]
      refine V_cv C hE dX2_next_78 (c_X2_isLetter) kyX2_isLetter q679 (isoO 64 rfl rfl rfl rfl) rfl rfl rfl ?_
      try simp (disch := omega) only [us_us, us_s, us_n, hw, WF_3, WF_4, WF_5, WF_6, WF_g2, WF_g3, WF_g4, WF_g5, WF_g6, RF, h2]
      refine V_ifeq_b C dX2_next_81 (fun c81 => ?_) (fun c81 => ?_)
      · refine V_aload_n C dX2_next_128 rfl ?_
        refine V_aload_n C dX2_next_129 rfl ?_
        refine V_aload_n C dX2_next_130 rfl ?_
        refine V_get C dX2_next_131 (rdO (j := 3) 64 rfl rfl rfl rfl rfl) in_X2 (by decide) q195 rfl ?_
        try simp (disch := omega) only [us_us, us_s, us_n, hw, WF_3, WF_4, WF_5, WF_6, WF_g2, WF_g3, WF_g4, WF_g5, WF_g6, RF, h2]
        refine V_cv C hE dX2_next_134 (c_X2_byteAt (n := n) (i := s) (by simp (disch := omega) only [us_s, WF_g2, h2]) (by omega) (by omega)) kyX2_byteAt q675 (isoO 64 rfl rfl rfl rfl) rfl rfl rfl ?_
        try simp (disch := omega) only [us_us, us_s, us_n, hw, WF_3, WF_4, WF_5, WF_6, WF_g2, WF_g3, WF_g4, WF_g5, WF_g6, RF, h2]
        refine V_cv C hE dX2_next_137 (c_X2_isDigit) kyX2_isDigit q683 (isoO 64 rfl rfl rfl rfl) rfl rfl rfl ?_
        try simp (disch := omega) only [us_us, us_s, us_n, hw, WF_3, WF_4, WF_5, WF_6, WF_g2, WF_g3, WF_g4, WF_g5, WF_g6, RF, h2]
        refine V_ifeq_b C dX2_next_140 (fun c140 => ?_) (fun c140 => ?_)
        · refine V_aload_n C dX2_next_216 rfl ?_
          refine V_aload_n C dX2_next_217 rfl ?_
          refine V_aload_n C dX2_next_218 rfl ?_
          refine V_get C dX2_next_219 (rdO (j := 3) 64 rfl rfl rfl rfl rfl) in_X2 (by decide) q195 rfl ?_
          try simp (disch := omega) only [us_us, us_s, us_n, hw, WF_3, WF_4, WF_5, WF_6, WF_g2, WF_g3, WF_g4, WF_g5, WF_g6, RF, h2]
          refine V_cv C hE dX2_next_222 (c_X2_byteAt (n := n) (i := s) (by simp (disch := omega) only [us_s, WF_g2, h2]) (by omega) (by omega)) kyX2_byteAt q675 (isoO 64 rfl rfl rfl rfl) rfl rfl rfl ?_
          try simp (disch := omega) only [us_us, us_s, us_n, hw, WF_3, WF_4, WF_5, WF_6, WF_g2, WF_g3, WF_g4, WF_g5, WF_g6, RF, h2]
          refine V_bipush C 59 dX2_next_225 (by decide) ?_
          refine V_icmp_ne C dX2_next_227 (fun c227 => ?_) (fun c227 => ?_)
          · refine V_iconst C 4 dX2_next_234 (by decide) ?_
            refine V_put C dX2_next_235 (wrO (j := 5) 64 rfl rfl rfl rfl rfl rfl) ft_X2 (by decide) q197 rfl rfl rfl rfl ?_
            try simp (disch := omega) only [us_us, us_s, us_n, hw, WF_3, WF_4, WF_5, WF_6, WF_g2, WF_g3, WF_g4, WF_g5, WF_g6, RF, h2]
            refine V_aload_n C dX2_next_238 rfl ?_
            refine V_dup C dX2_next_239 rfl ?_
            refine V_get C dX2_next_240 (rdO (j := 3) 64 rfl rfl rfl rfl rfl) in_X2 (by decide) q195 rfl ?_
            try simp (disch := omega) only [us_us, us_s, us_n, hw, WF_3, WF_4, WF_5, WF_6, WF_g2, WF_g3, WF_g4, WF_g5, WF_g6, RF, h2]
            refine V_iconst C 1 dX2_next_243 (by decide) ?_
            refine V_iadd C dX2_next_244 ?_
            refine V_put C dX2_next_245 (wrO (j := 3) 64 rfl rfl rfl rfl rfl rfl) ft_X2 (by decide) q195 rfl rfl rfl rfl ?_
            try simp (disch := omega) only [us_us, us_s, us_n, hw, WF_3, WF_4, WF_5, WF_6, WF_g2, WF_g3, WF_g4, WF_g5, WF_g6, RF, h2]
            exact V_retD C dX2_next_248 hT (by first | exact nx_e c58 (by omega) hn | exact nx_o c58 c81 c140 c227 (by omega) hn | exact nx_s c58 c81 c140 c227 (by omega) hn)
          · refine V_iconst C 3 dX2_next_230 (by decide) ?_
            refine V_goto C dX2_next_231 ?_
            refine V_put C dX2_next_235 (wrO (j := 5) 64 rfl rfl rfl rfl rfl rfl) ft_X2 (by decide) q197 rfl rfl rfl rfl ?_
            try simp (disch := omega) only [us_us, us_s, us_n, hw, WF_3, WF_4, WF_5, WF_6, WF_g2, WF_g3, WF_g4, WF_g5, WF_g6, RF, h2]
            refine V_aload_n C dX2_next_238 rfl ?_
            refine V_dup C dX2_next_239 rfl ?_
            refine V_get C dX2_next_240 (rdO (j := 3) 64 rfl rfl rfl rfl rfl) in_X2 (by decide) q195 rfl ?_
            try simp (disch := omega) only [us_us, us_s, us_n, hw, WF_3, WF_4, WF_5, WF_6, WF_g2, WF_g3, WF_g4, WF_g5, WF_g6, RF, h2]
            refine V_iconst C 1 dX2_next_243 (by decide) ?_
            refine V_iadd C dX2_next_244 ?_
            refine V_put C dX2_next_245 (wrO (j := 3) 64 rfl rfl rfl rfl rfl rfl) ft_X2 (by decide) q195 rfl rfl rfl rfl ?_
            try simp (disch := omega) only [us_us, us_s, us_n, hw, WF_3, WF_4, WF_5, WF_6, WF_g2, WF_g3, WF_g4, WF_g5, WF_g6, RF, h2]
            exact V_retD C dX2_next_248 hT (by first | exact nx_e c58 (by omega) hn | exact nx_o c58 c81 c140 c227 (by omega) hn | exact nx_s c58 c81 c140 c227 (by omega) hn)
        · refine V_aload_n C dX2_next_143 rfl ?_
          refine V_iconst C 2 dX2_next_144 (by decide) ?_
          refine V_put C dX2_next_145 (wrO (j := 5) 64 rfl rfl rfl rfl rfl rfl) ft_X2 (by decide) q197 rfl rfl rfl rfl ?_
          try simp (disch := omega) only [us_us, us_s, us_n, hw, WF_3, WF_4, WF_5, WF_6, WF_g2, WF_g3, WF_g4, WF_g5, WF_g6, RF, h2]
          have hsn : s < n := (nI_ltI (by omega) (by omega)).mp c58
          have hl := (bAT_D.mp c140).2
          have lpD : ∀ (d i : Nat) , i + d = n - s → (rnT dpT (σ 63) n (s + i) = rnT dpT (σ 63) n s) → V x (eA E) (AP x E (us σ 64 (WF f (nI (s + i)) (nI s) 2 (nI (vcT (σ 63) s i))))) 0 0 148 [some (.ref (ad E 64))] [] := by
            intro d
            induction d with
            | zero =>
              intro i  hi' hI
              have hN : i = n - s := by omega
              refine V_aload_n C dX2_next_148 rfl ?_
              refine V_get C dX2_next_149 (rdO (j := 3) 64 rfl rfl rfl rfl rfl) in_X2 (by decide) q195 rfl ?_
              try simp (disch := omega) only [us_us, us_s, us_n, hw, WF_3, WF_4, WF_5, WF_6, WF_g2, WF_g3, WF_g4, WF_g5, WF_g6, RF, h2]
              refine V_aload_n C dX2_next_152 rfl ?_
              refine V_get C dX2_next_153 (rdO (j := 2) 64 rfl rfl rfl rfl rfl) in_X2 (by decide) q194 rfl ?_
              try simp (disch := omega) only [us_us, us_s, us_n, hw, WF_3, WF_4, WF_5, WF_6, WF_g2, WF_g3, WF_g4, WF_g5, WF_g6, RF, h2]
              refine V_icmp_ge C dX2_next_156 (fun c156 => ?_) (fun c156 => absurd (nI_le (by omega) (by omega)) c156)
              exact V_retD C dX2_next_248 hT (by unfold RF; rw [show enT (σ 63) n s = s + i from by unfold enT; rw [if_pos hsn, if_neg (fun q => not_LD q hl), if_pos hl, ← hI]; exact rnT_k (fun q => by omega), show tkT (σ 63) n s = 2 from tk_2.mpr ⟨hsn, hl⟩, show cvT (σ 63) n s = nI (vcT (σ 63) s i) from by unfold cvT; rw [if_pos ⟨hsn, hl⟩, show enT (σ 63) n s = s + i from by unfold enT; rw [if_pos hsn, if_neg (fun q => not_LD q hl), if_pos hl, ← hI]; exact rnT_k (fun q => by omega), Nat.add_sub_cancel_left]])
            | succ d ih =>
              intro i  hi' hI
              refine V_aload_n C dX2_next_148 rfl ?_
              refine V_get C dX2_next_149 (rdO (j := 3) 64 rfl rfl rfl rfl rfl) in_X2 (by decide) q195 rfl ?_
              try simp (disch := omega) only [us_us, us_s, us_n, hw, WF_3, WF_4, WF_5, WF_6, WF_g2, WF_g3, WF_g4, WF_g5, WF_g6, RF, h2]
              refine V_aload_n C dX2_next_152 rfl ?_
              refine V_get C dX2_next_153 (rdO (j := 2) 64 rfl rfl rfl rfl rfl) in_X2 (by decide) q194 rfl ?_
              try simp (disch := omega) only [us_us, us_s, us_n, hw, WF_3, WF_4, WF_5, WF_6, WF_g2, WF_g3, WF_g4, WF_g5, WF_g6, RF, h2]
              refine V_icmp_ge C dX2_next_156 (fun c156 => absurd c156 (nI_ge (by omega) (by omega))) (fun c156 => ?_)
              refine V_aload_n C dX2_next_159 rfl ?_
              refine V_aload_n C dX2_next_160 rfl ?_
              refine V_aload_n C dX2_next_161 rfl ?_
              refine V_get C dX2_next_162 (rdO (j := 3) 64 rfl rfl rfl rfl rfl) in_X2 (by decide) q195 rfl ?_
              try simp (disch := omega) only [us_us, us_s, us_n, hw, WF_3, WF_4, WF_5, WF_6, WF_g2, WF_g3, WF_g4, WF_g5, WF_g6, RF, h2]
              refine V_cv C hE dX2_next_165 (c_X2_byteAt (n := n) (i := (s + i)) (by simp (disch := omega) only [us_s, WF_g2, h2]) (by omega) (by omega)) kyX2_byteAt q675 (isoO 64 rfl rfl rfl rfl) rfl rfl rfl ?_
              try simp (disch := omega) only [us_us, us_s, us_n, hw, WF_3, WF_4, WF_5, WF_6, WF_g2, WF_g3, WF_g4, WF_g5, WF_g6, RF, h2]
              refine V_cv C hE dX2_next_168 (c_X2_isDigit) kyX2_isDigit q683 (isoO 64 rfl rfl rfl rfl) rfl rfl rfl ?_
              try simp (disch := omega) only [us_us, us_s, us_n, hw, WF_3, WF_4, WF_5, WF_6, WF_g2, WF_g3, WF_g4, WF_g5, WF_g6, RF, h2]
              refine V_ifeq_b C dX2_next_171 (fun c171 => ?_) (fun c171 => ?_)
              · exact V_retD C dX2_next_248 hT (by unfold RF; rw [show enT (σ 63) n s = s + i from by unfold enT; rw [if_pos hsn, if_neg (fun q => not_LD q hl), if_pos hl, ← hI]; exact rnT_k (fun q => c171 (bAT_D.mpr ⟨q.1, dpT_t.mp q.2⟩)), show tkT (σ 63) n s = 2 from tk_2.mpr ⟨hsn, hl⟩, show cvT (σ 63) n s = nI (vcT (σ 63) s i) from by unfold cvT; rw [if_pos ⟨hsn, hl⟩, show enT (σ 63) n s = s + i from by unfold enT; rw [if_pos hsn, if_neg (fun q => not_LD q hl), if_pos hl, ← hI]; exact rnT_k (fun q => c171 (bAT_D.mpr ⟨q.1, dpT_t.mp q.2⟩)), Nat.add_sub_cancel_left]])
              · refine V_aload_n C dX2_next_174 rfl ?_
                refine V_sipush C 1000 dX2_next_175 (by decide) ?_
                refine V_bipush C 10 dX2_next_178 (by decide) ?_
                refine V_aload_n C dX2_next_180 rfl ?_
                refine V_get C dX2_next_181 (rdO (j := 6) 64 rfl rfl rfl rfl rfl) in_X2 (by decide) q198 rfl ?_
                try simp (disch := omega) only [us_us, us_s, us_n, hw, WF_3, WF_4, WF_5, WF_6, WF_g2, WF_g3, WF_g4, WF_g5, WF_g6, RF, h2]
                refine V_imul C dX2_next_184 ?_
                refine V_aload_n C dX2_next_185 rfl ?_
                refine V_aload_n C dX2_next_186 rfl ?_
                refine V_get C dX2_next_187 (rdO (j := 3) 64 rfl rfl rfl rfl rfl) in_X2 (by decide) q195 rfl ?_
                try simp (disch := omega) only [us_us, us_s, us_n, hw, WF_3, WF_4, WF_5, WF_6, WF_g2, WF_g3, WF_g4, WF_g5, WF_g6, RF, h2]
                refine V_cv C hE dX2_next_190 (c_X2_byteAt (n := n) (i := (s + i)) (by simp (disch := omega) only [us_s, WF_g2, h2]) (by omega) (by omega)) kyX2_byteAt q675 (isoO 64 rfl rfl rfl rfl) rfl rfl rfl ?_
                try simp (disch := omega) only [us_us, us_s, us_n, hw, WF_3, WF_4, WF_5, WF_6, WF_g2, WF_g3, WF_g4, WF_g5, WF_g6, RF, h2]
                rw [bAT_in (bAT_D.mp c171).1]
                refine V_iadd C dX2_next_193 ?_
                refine V_bipush C 48 dX2_next_194 (by decide) ?_
                refine V_isub C dX2_next_196 ?_
                refine V_mmin C dX2_next_197 q687 q361 q69 q362 rfl rfl (Nat.zero_le _) (Nat.zero_le _) ?_
                refine V_put C dX2_next_200 (wrO (j := 6) 64 rfl rfl rfl rfl rfl rfl) ft_X2 (by decide) q198 rfl rfl rfl rfl ?_
                try simp (disch := omega) only [us_us, us_s, us_n, hw, WF_3, WF_4, WF_5, WF_6, WF_g2, WF_g3, WF_g4, WF_g5, WF_g6, RF, h2]
                refine V_aload_n C dX2_next_203 rfl ?_
                refine V_dup C dX2_next_204 rfl ?_
                refine V_get C dX2_next_205 (rdO (j := 3) 64 rfl rfl rfl rfl rfl) in_X2 (by decide) q195 rfl ?_
                try simp (disch := omega) only [us_us, us_s, us_n, hw, WF_3, WF_4, WF_5, WF_6, WF_g2, WF_g3, WF_g4, WF_g5, WF_g6, RF, h2]
                refine V_iconst C 1 dX2_next_208 (by decide) ?_
                refine V_iadd C dX2_next_209 ?_
                refine V_put C dX2_next_210 (wrO (j := 3) 64 rfl rfl rfl rfl rfl rfl) ft_X2 (by decide) q195 rfl rfl rfl rfl ?_
                try simp (disch := omega) only [us_us, us_s, us_n, hw, WF_3, WF_4, WF_5, WF_6, WF_g2, WF_g3, WF_g4, WF_g5, WF_g6, RF, h2]
                refine V_goto C dX2_next_213 ?_
                exact V_nx (by rw [dg_st (bAT_D.mp c171).2 (vcT_b _), nI_1, Nat.add_assoc]) rfl (ih (i + 1) (by omega) (by rw [← hI, ← Nat.add_assoc]; exact (rnT_s (bAT_D.mp c171).1 (dpT_t.mpr (bAT_D.mp c171).2)).symm))
          exact V_nx rfl rfl (lpD (n - s) 0 (by omega) rfl)
      · refine V_aload_n C dX2_next_84 rfl ?_
        refine V_iconst C 1 dX2_next_85 (by decide) ?_
        refine V_put C dX2_next_86 (wrO (j := 5) 64 rfl rfl rfl rfl rfl rfl) ft_X2 (by decide) q197 rfl rfl rfl rfl ?_
        try simp (disch := omega) only [us_us, us_s, us_n, hw, WF_3, WF_4, WF_5, WF_6, WF_g2, WF_g3, WF_g4, WF_g5, WF_g6, RF, h2]
        have hsn : s < n := (nI_ltI (by omega) (by omega)).mp c58
        have hl := (bAT_L.mp c81).2
        have lpW : ∀ (d i : Nat) , i + d = n → (rnT lpT (σ 63) n i = rnT lpT (σ 63) n (s + 1)) → V x (eA E) (AP x E (us σ 64 (WF f (nI i) (nI s) 1 0))) 0 0 89 [some (.ref (ad E 64))] [] := by
          intro d
          induction d with
          | zero =>
            intro i  hi' hI
            have hN : i = n := by omega
            refine V_aload_n C dX2_next_89 rfl ?_
            refine V_get C dX2_next_90 (rdO (j := 3) 64 rfl rfl rfl rfl rfl) in_X2 (by decide) q195 rfl ?_
            try simp (disch := omega) only [us_us, us_s, us_n, hw, WF_3, WF_4, WF_5, WF_6, WF_g2, WF_g3, WF_g4, WF_g5, WF_g6, RF, h2]
            refine V_aload_n C dX2_next_93 rfl ?_
            refine V_get C dX2_next_94 (rdO (j := 2) 64 rfl rfl rfl rfl rfl) in_X2 (by decide) q194 rfl ?_
            try simp (disch := omega) only [us_us, us_s, us_n, hw, WF_3, WF_4, WF_5, WF_6, WF_g2, WF_g3, WF_g4, WF_g5, WF_g6, RF, h2]
            refine V_icmp_ge C dX2_next_97 (fun c97 => ?_) (fun c97 => absurd (by rw [hN] <;> exact nI_le (Nat.le_refl _) (by omega)) c97)
            exact V_retD C dX2_next_248 hT (by unfold RF; rw [show enT (σ 63) n s = i from by rw [enT_L hsn hl, ← hI]; exact (rnT_k (fun q => by omega)), show tkT (σ 63) n s = 1 from tk_1.mpr ⟨hsn, hl⟩, show cvT (σ 63) n s = 0 from if_neg (fun q => not_LD hl q.2)])
          | succ d ih =>
            intro i  hi' hI
            refine V_aload_n C dX2_next_89 rfl ?_
            refine V_get C dX2_next_90 (rdO (j := 3) 64 rfl rfl rfl rfl rfl) in_X2 (by decide) q195 rfl ?_
            try simp (disch := omega) only [us_us, us_s, us_n, hw, WF_3, WF_4, WF_5, WF_6, WF_g2, WF_g3, WF_g4, WF_g5, WF_g6, RF, h2]
            refine V_aload_n C dX2_next_93 rfl ?_
            refine V_get C dX2_next_94 (rdO (j := 2) 64 rfl rfl rfl rfl rfl) in_X2 (by decide) q194 rfl ?_
            try simp (disch := omega) only [us_us, us_s, us_n, hw, WF_3, WF_4, WF_5, WF_6, WF_g2, WF_g3, WF_g4, WF_g5, WF_g6, RF, h2]
            refine V_icmp_ge C dX2_next_97 (fun c97 => absurd c97 (nI_ge (by omega) (by omega))) (fun c97 => ?_)
            refine V_aload_n C dX2_next_100 rfl ?_
            refine V_aload_n C dX2_next_101 rfl ?_
            refine V_aload_n C dX2_next_102 rfl ?_
            refine V_get C dX2_next_103 (rdO (j := 3) 64 rfl rfl rfl rfl rfl) in_X2 (by decide) q195 rfl ?_
            try simp (disch := omega) only [us_us, us_s, us_n, hw, WF_3, WF_4, WF_5, WF_6, WF_g2, WF_g3, WF_g4, WF_g5, WF_g6, RF, h2]
            refine V_cv C hE dX2_next_106 (c_X2_byteAt (n := n) (i := i) (by simp (disch := omega) only [us_s, WF_g2, h2]) (by omega) (by omega)) kyX2_byteAt q675 (isoO 64 rfl rfl rfl rfl) rfl rfl rfl ?_
            try simp (disch := omega) only [us_us, us_s, us_n, hw, WF_3, WF_4, WF_5, WF_6, WF_g2, WF_g3, WF_g4, WF_g5, WF_g6, RF, h2]
            refine V_cv C hE dX2_next_109 (c_X2_isLetter) kyX2_isLetter q679 (isoO 64 rfl rfl rfl rfl) rfl rfl rfl ?_
            try simp (disch := omega) only [us_us, us_s, us_n, hw, WF_3, WF_4, WF_5, WF_6, WF_g2, WF_g3, WF_g4, WF_g5, WF_g6, RF, h2]
            refine V_ifeq_b C dX2_next_112 (fun c112 => ?_) (fun c112 => ?_)
            · exact V_retD C dX2_next_248 hT (by unfold RF; rw [show enT (σ 63) n s = i from by rw [enT_L hsn hl, ← hI]; exact (rnT_k (fun q => c112 (bAT_L.mpr ⟨q.1, lpT_t.mp q.2⟩))), show tkT (σ 63) n s = 1 from tk_1.mpr ⟨hsn, hl⟩, show cvT (σ 63) n s = 0 from if_neg (fun q => not_LD hl q.2)])
            · refine V_aload_n C dX2_next_115 rfl ?_
              refine V_dup C dX2_next_116 rfl ?_
              refine V_get C dX2_next_117 (rdO (j := 3) 64 rfl rfl rfl rfl rfl) in_X2 (by decide) q195 rfl ?_
              try simp (disch := omega) only [us_us, us_s, us_n, hw, WF_3, WF_4, WF_5, WF_6, WF_g2, WF_g3, WF_g4, WF_g5, WF_g6, RF, h2]
              refine V_iconst C 1 dX2_next_120 (by decide) ?_
              refine V_iadd C dX2_next_121 ?_
              refine V_put C dX2_next_122 (wrO (j := 3) 64 rfl rfl rfl rfl rfl rfl) ft_X2 (by decide) q195 rfl rfl rfl rfl ?_
              try simp (disch := omega) only [us_us, us_s, us_n, hw, WF_3, WF_4, WF_5, WF_6, WF_g2, WF_g3, WF_g4, WF_g5, WF_g6, RF, h2]
              refine V_goto C dX2_next_125 ?_
              exact V_nx (by rw [nI_1]) rfl (ih (i + 1) (by omega) (by rw [← hI]; exact (rnT_s (bAT_L.mp c112).1 (lpT_t.mpr (bAT_L.mp c112).2)).symm))
        exact lpW (n - s) s (by omega) (rnT_s hsn (lpT_t.mpr hl))
    · refine V_aload_n C dX2_next_61 rfl ?_
      refine V_iconst C 0 dX2_next_62 (by decide) ?_
      refine V_put C dX2_next_63 (wrO (j := 5) 64 rfl rfl rfl rfl rfl rfl) ft_X2 (by decide) q197 rfl rfl rfl rfl ?_
      try simp (disch := omega) only [us_us, us_s, us_n, hw, WF_3, WF_4, WF_5, WF_6, WF_g2, WF_g3, WF_g4, WF_g5, WF_g6, RF, h2]
      refine V_goto C dX2_next_66 ?_
      exact V_retD C dX2_next_248 hT (by first | exact nx_e c58 (by omega) hn | exact nx_o c58 c81 c140 c227 (by omega) hn | exact nx_s c58 c81 c140 c227 (by omega) hn)
  have lp : ∀ (d i : Nat) , i + d = n → (rnT bpT (σ 63) n i = skT (σ 63) n e) → V x (eA E) (AP x E (us σ 64 (WF f (nI i) b c g))) 0 0 0 [some (.ref (ad E 64))] [] := by
    intro d
    induction d with
    | zero =>
      intro i  hi' hI
      have hN : i = n := by omega
      refine V_aload_n C dX2_next_0 rfl ?_
      refine V_get C dX2_next_1 (rdO (j := 3) 64 rfl rfl rfl rfl rfl) in_X2 (by decide) q195 rfl ?_
      try simp (disch := omega) only [us_us, us_s, us_n, hw, WF_3, WF_4, WF_5, WF_6, WF_g2, WF_g3, WF_g4, WF_g5, WF_g6, RF, h2]
      refine V_aload_n C dX2_next_4 rfl ?_
      refine V_get C dX2_next_5 (rdO (j := 2) 64 rfl rfl rfl rfl rfl) in_X2 (by decide) q194 rfl ?_
      try simp (disch := omega) only [us_us, us_s, us_n, hw, WF_3, WF_4, WF_5, WF_6, WF_g2, WF_g3, WF_g4, WF_g5, WF_g6, RF, h2]
      refine V_icmp_ge C dX2_next_8 (fun c8 => ?_) (fun c8 => absurd (by rw [hN] <;> exact nI_le (Nat.le_refl _) (by omega)) c8)
      exact j37 i (by omega) (by rw [← hI]; exact rnT_k (fun q => by omega))
    | succ d ih =>
      intro i  hi' hI
      refine V_aload_n C dX2_next_0 rfl ?_
      refine V_get C dX2_next_1 (rdO (j := 3) 64 rfl rfl rfl rfl rfl) in_X2 (by decide) q195 rfl ?_
      try simp (disch := omega) only [us_us, us_s, us_n, hw, WF_3, WF_4, WF_5, WF_6, WF_g2, WF_g3, WF_g4, WF_g5, WF_g6, RF, h2]
      refine V_aload_n C dX2_next_4 rfl ?_
      refine V_get C dX2_next_5 (rdO (j := 2) 64 rfl rfl rfl rfl rfl) in_X2 (by decide) q194 rfl ?_
      try simp (disch := omega) only [us_us, us_s, us_n, hw, WF_3, WF_4, WF_5, WF_6, WF_g2, WF_g3, WF_g4, WF_g5, WF_g6, RF, h2]
      refine V_icmp_ge C dX2_next_8 (fun c8 => absurd c8 (nI_ge (by omega) (by omega))) (fun c8 => ?_)
      refine V_aload_n C dX2_next_11 rfl ?_
      refine V_aload_n C dX2_next_12 rfl ?_
      refine V_get C dX2_next_13 (rdO (j := 3) 64 rfl rfl rfl rfl rfl) in_X2 (by decide) q195 rfl ?_
      try simp (disch := omega) only [us_us, us_s, us_n, hw, WF_3, WF_4, WF_5, WF_6, WF_g2, WF_g3, WF_g4, WF_g5, WF_g6, RF, h2]
      refine V_cv C hE dX2_next_16 (c_X2_byteAt (n := n) (i := i) (by simp (disch := omega) only [us_s, WF_g2, h2]) (by omega) (by omega)) kyX2_byteAt q675 (isoO 64 rfl rfl rfl rfl) rfl rfl rfl ?_
      try simp (disch := omega) only [us_us, us_s, us_n, hw, WF_3, WF_4, WF_5, WF_6, WF_g2, WF_g3, WF_g4, WF_g5, WF_g6, RF, h2]
      refine V_bipush C 32 dX2_next_19 (by decide) ?_
      refine V_icmp_ne C dX2_next_21 (fun c21 => ?_) (fun c21 => ?_)
      · exact j37 i (by omega) (by rw [← hI]; exact rnT_k (fun q => c21 ((bAT_c (by decide)).mpr ⟨q.1, bpT_t.mp q.2⟩)))
      · refine V_aload_n C dX2_next_24 rfl ?_
        refine V_dup C dX2_next_25 rfl ?_
        refine V_get C dX2_next_26 (rdO (j := 3) 64 rfl rfl rfl rfl rfl) in_X2 (by decide) q195 rfl ?_
        try simp (disch := omega) only [us_us, us_s, us_n, hw, WF_3, WF_4, WF_5, WF_6, WF_g2, WF_g3, WF_g4, WF_g5, WF_g6, RF, h2]
        refine V_iconst C 1 dX2_next_29 (by decide) ?_
        refine V_iadd C dX2_next_30 ?_
        refine V_put C dX2_next_31 (wrO (j := 3) 64 rfl rfl rfl rfl rfl rfl) ft_X2 (by decide) q195 rfl rfl rfl rfl ?_
        try simp (disch := omega) only [us_us, us_s, us_n, hw, WF_3, WF_4, WF_5, WF_6, WF_g2, WF_g3, WF_g4, WF_g5, WF_g6, RF, h2]
        refine V_goto C dX2_next_34 ?_
        exact V_nx (by rw [nI_1]) rfl (ih (i + 1) (by omega) (by rw [← hI]; have h := (bAT_c (by decide)).mp c21; exact (rnT_s h.1 (bpT_t.mpr h.2)).symm))
  exact V_nx (by rw [← hw, us_id]) rfl (lp (n - e) e (by omega) rfl)

theorem c_X2_isNumber {l : Launch} {E : En} {σ : Sg} {f : Nat → Int32} {n s : Nat} {lo hi : Nat} (hw : σ 64 = RF f (σ 63) n s) (h2 : f 2 = nI n) (hs : s ≤ n) (hn : n ≤ 120) (hlo : lo ≤ 999) (hhi : hi ≤ 999) : MD l yX2_isNumber cX2_isNumber 3 (some .boolean) rnX2_isNumber E [.ref (ad E 64), .int (nI lo), .int (nI hi)] σ (some (.int (bI (nmT (σ 63) n lo hi s)))) (σ) := by
  refine MD_of (by decide +kernel) rfl fun x C hE hT hcan => ?_
  have C : CX x cX2_isNumber RX2 rnX2_isNumber := C
  refine V_L (L' := [some (.ref (ad E 64)), some (.int (nI lo)), some (.int (nI hi))]) rfl ?_
  refine V_aload_n C dX2_isNumber_0 rfl ?_
  refine V_get C dX2_isNumber_1 (rdO (j := 5) 64 rfl rfl rfl rfl rfl) in_X2 (by decide) q197 rfl ?_
  try simp (disch := omega) only [us_us, us_s, us_n, hw, WF_3, WF_4, WF_5, WF_6, WF_g2, WF_g3, WF_g4, WF_g5, WF_g6, RF, h2]
  refine V_iconst C 2 dX2_isNumber_4 (by decide) ?_
  refine V_icmp_ne C dX2_isNumber_5 (fun c5 => ?_) (fun c5 => ?_)
  · refine V_iconst C 0 dX2_isNumber_28 (by decide) ?_
    exact V_zretD C dX2_isNumber_29 hT (by first | (exact (bI_f (fun q => c5 (tk_2.mpr (nmT_i.mp q).1))).symm) | (exact (bI_t (nmT_i.mpr ⟨tk_2.mp c5, (nm_cl hlo hhi (tk_2.mp c5)).mp ⟨Int32.not_lt.mp c13, Int32.not_lt.mp c21⟩⟩)).symm) | (exact (bI_f (fun q => absurd ((nm_cl hlo hhi (tk_2.mp c5)).mpr (nmT_i.mp q).2).1 (Int32.not_le.mpr c13))).symm) | (exact (bI_f (fun q => absurd ((nm_cl hlo hhi (tk_2.mp c5)).mpr (nmT_i.mp q).2).2 (Int32.not_le.mpr c21))).symm)) rfl
  · refine V_aload_n C dX2_isNumber_8 rfl ?_
    refine V_get C dX2_isNumber_9 (rdO (j := 6) 64 rfl rfl rfl rfl rfl) in_X2 (by decide) q198 rfl ?_
    try simp (disch := omega) only [us_us, us_s, us_n, hw, WF_3, WF_4, WF_5, WF_6, WF_g2, WF_g3, WF_g4, WF_g5, WF_g6, RF, h2]
    refine V_iload_n C dX2_isNumber_12 rfl ?_
    refine V_icmp_lt C dX2_isNumber_13 (fun c13 => ?_) (fun c13 => ?_)
    · refine V_iconst C 0 dX2_isNumber_28 (by decide) ?_
      exact V_zretD C dX2_isNumber_29 hT (by first | (exact (bI_f (fun q => c5 (tk_2.mpr (nmT_i.mp q).1))).symm) | (exact (bI_t (nmT_i.mpr ⟨tk_2.mp c5, (nm_cl hlo hhi (tk_2.mp c5)).mp ⟨Int32.not_lt.mp c13, Int32.not_lt.mp c21⟩⟩)).symm) | (exact (bI_f (fun q => absurd ((nm_cl hlo hhi (tk_2.mp c5)).mpr (nmT_i.mp q).2).1 (Int32.not_le.mpr c13))).symm) | (exact (bI_f (fun q => absurd ((nm_cl hlo hhi (tk_2.mp c5)).mpr (nmT_i.mp q).2).2 (Int32.not_le.mpr c21))).symm)) rfl
    · refine V_aload_n C dX2_isNumber_16 rfl ?_
      refine V_get C dX2_isNumber_17 (rdO (j := 6) 64 rfl rfl rfl rfl rfl) in_X2 (by decide) q198 rfl ?_
      try simp (disch := omega) only [us_us, us_s, us_n, hw, WF_3, WF_4, WF_5, WF_6, WF_g2, WF_g3, WF_g4, WF_g5, WF_g6, RF, h2]
      refine V_iload_n C dX2_isNumber_20 rfl ?_
      refine V_icmp_gt C dX2_isNumber_21 (fun c21 => ?_) (fun c21 => ?_)
      · refine V_iconst C 0 dX2_isNumber_28 (by decide) ?_
        exact V_zretD C dX2_isNumber_29 hT (by first | (exact (bI_f (fun q => c5 (tk_2.mpr (nmT_i.mp q).1))).symm) | (exact (bI_t (nmT_i.mpr ⟨tk_2.mp c5, (nm_cl hlo hhi (tk_2.mp c5)).mp ⟨Int32.not_lt.mp c13, Int32.not_lt.mp c21⟩⟩)).symm) | (exact (bI_f (fun q => absurd ((nm_cl hlo hhi (tk_2.mp c5)).mpr (nmT_i.mp q).2).1 (Int32.not_le.mpr c13))).symm) | (exact (bI_f (fun q => absurd ((nm_cl hlo hhi (tk_2.mp c5)).mpr (nmT_i.mp q).2).2 (Int32.not_le.mpr c21))).symm)) rfl
      · refine V_iconst C 1 dX2_isNumber_24 (by decide) ?_
        refine V_goto C dX2_isNumber_25 ?_
        exact V_zretD C dX2_isNumber_29 hT (by first | (exact (bI_f (fun q => c5 (tk_2.mpr (nmT_i.mp q).1))).symm) | (exact (bI_t (nmT_i.mpr ⟨tk_2.mp c5, (nm_cl hlo hhi (tk_2.mp c5)).mp ⟨Int32.not_lt.mp c13, Int32.not_lt.mp c21⟩⟩)).symm) | (exact (bI_f (fun q => absurd ((nm_cl hlo hhi (tk_2.mp c5)).mpr (nmT_i.mp q).2).1 (Int32.not_le.mpr c13))).symm) | (exact (bI_f (fun q => absurd ((nm_cl hlo hhi (tk_2.mp c5)).mpr (nmT_i.mp q).2).2 (Int32.not_le.mpr c21))).symm)) rfl

theorem hA_s {t : Nat → Int32} {i j s : Nat} (h : ∀ k, k < j → t (s + k) = chT i k) (e : t (s + j) = chT i j) : ∀ k, k < j + 1 → t (s + k) = chT i k := fun k hk => by
  by_cases q : k = j
  · subst q; exact e
  · exact h k (by omega)

theorem c_X2_isWord {l : Launch} {E : En} {σ : Sg} {f : Nat → Int32} {n s : Nat} {i : Nat} (hi : i < nTx) (hw : σ 64 = RF f (σ 63) n s) (h2 : f 2 = nI n) (hs : s ≤ n) (hn : n ≤ 120) : MD l yX2_isWord cX2_isWord 3 (some .boolean) rnX2_isWord E [.ref (ad E 64), .ref (eK E i)] σ (some (.int (bI (wdT (σ 63) n i s)))) (σ) := by
  refine MD_of (by decide +kernel) rfl fun x C hE hT hcan => ?_
  have C : CX x cX2_isWord RX2 rnX2_isWord := C
  have hlen := lenTx_b i hi
  have hge : s ≤ enT (σ 63) n s := enT_ge
  have hle : enT (σ 63) n s ≤ n := enT_le hs
  refine V_L (L' := [some (.ref (ad E 64)), some (.ref (eK E i)), none]) rfl ?_
  refine V_aload_n C dX2_isWord_0 rfl ?_
  refine V_get C dX2_isWord_1 (rdO (j := 5) 64 rfl rfl rfl rfl rfl) in_X2 (by decide) q197 rfl ?_
  try simp (disch := omega) only [us_us, us_s, us_n, hw, WF_3, WF_4, WF_5, WF_6, WF_g2, WF_g3, WF_g4, WF_g5, WF_g6, RF, h2]
  refine V_iconst C 1 dX2_isWord_4 (by decide) ?_
  refine V_icmp_ne C dX2_isWord_5 (fun c5 => ?_) (fun c5 => ?_)
  · refine V_iconst C 0 dX2_isWord_24 (by decide) ?_
    exact V_zretD C dX2_isWord_25 hT (by first | (exact (bI_f (fun q => c5 (tk_1.mpr (wdT_i.mp q).1))).symm) | (exact (bI_f (fun q => c21 (by rw [(wdT_i.mp q).2.1]))).symm)) rfl
  · refine V_aload_n C dX2_isWord_8 rfl ?_
    refine V_get C dX2_isWord_9 (rdO (j := 3) 64 rfl rfl rfl rfl rfl) in_X2 (by decide) q195 rfl ?_
    try simp (disch := omega) only [us_us, us_s, us_n, hw, WF_3, WF_4, WF_5, WF_6, WF_g2, WF_g3, WF_g4, WF_g5, WF_g6, RF, h2]
    refine V_aload_n C dX2_isWord_12 rfl ?_
    refine V_get C dX2_isWord_13 (rdO (j := 4) 64 rfl rfl rfl rfl rfl) in_X2 (by decide) q196 rfl ?_
    try simp (disch := omega) only [us_us, us_s, us_n, hw, WF_3, WF_4, WF_5, WF_6, WF_g2, WF_g3, WF_g4, WF_g5, WF_g6, RF, h2]
    refine V_isub C dX2_isWord_16 ?_
    refine V_aload_n C dX2_isWord_17 rfl ?_
    refine V_ck C hE hi dX2_isWord_18 (c_length hi) kyJ0_length_8abf5 q701 rfl rfl rfl ?_
    rw [nI_msub hge]
    refine V_icmp_eq C dX2_isWord_21 (fun c21 => ?_) (fun c21 => ?_)
    · refine V_iconst C 0 dX2_isWord_26 (by decide) ?_
      refine V_istore_n C dX2_isWord_27 rfl ?_
      have c21' : enT (σ 63) n s - s = lenTx.getD i 0 := (nI_eq (by omega) (by omega)).mp c21
      have lp : ∀ (d j : Nat) , j + d = lenTx.getD i 0 → (∀ k, k < j → σ 63 (s + k) = chT i k) → V x (eA E) (AP x E (σ)) 0 0 28 [some (.ref (ad E 64)), some (.ref (eK E i)), some (.int (nI j))] [] := by
        intro d
        induction d with
        | zero =>
          intro j  hi' hA
          have hN : j = lenTx.getD i 0 := by omega
          refine V_iload_n C dX2_isWord_28 rfl ?_
          refine V_aload_n C dX2_isWord_29 rfl ?_
          refine V_ck C hE hi dX2_isWord_30 (c_length hi) kyJ0_length_8abf5 q701 rfl rfl rfl ?_
          refine V_icmp_ge C dX2_isWord_33 (fun c33 => ?_) (fun c33 => absurd (by rw [hN] <;> exact nI_le (Nat.le_refl _) (by omega)) c33)
          refine V_iconst C 1 dX2_isWord_62 (by decide) ?_
          exact V_zretD C dX2_isWord_63 hT (bI_t (wdT_i.mpr ⟨tk_1.mp c5, c21', fun k hk => hA k (by omega)⟩)).symm rfl
        | succ d ih =>
          intro j  hi' hA
          refine V_iload_n C dX2_isWord_28 rfl ?_
          refine V_aload_n C dX2_isWord_29 rfl ?_
          refine V_ck C hE hi dX2_isWord_30 (c_length hi) kyJ0_length_8abf5 q701 rfl rfl rfl ?_
          refine V_icmp_ge C dX2_isWord_33 (fun c33 => absurd c33 (nI_ge (by omega) (by omega))) (fun c33 => ?_)
          refine V_aload_n C dX2_isWord_36 rfl ?_
          refine V_aload_n C dX2_isWord_37 rfl ?_
          refine V_get C dX2_isWord_38 (rdO (j := 4) 64 rfl rfl rfl rfl rfl) in_X2 (by decide) q196 rfl ?_
          try simp (disch := omega) only [us_us, us_s, us_n, hw, WF_3, WF_4, WF_5, WF_6, WF_g2, WF_g3, WF_g4, WF_g5, WF_g6, RF, h2]
          refine V_iload_n C dX2_isWord_41 rfl ?_
          refine V_iadd C dX2_isWord_42 ?_
          rw [nI_add]
          refine V_cv C hE dX2_isWord_43 (c_X2_byteAt (n := n) (i := s + j) (by simp (disch := omega) only [hw, RF, WF_g2, h2]) (by omega) (by omega)) kyX2_byteAt q675 (isoO 64 rfl rfl rfl rfl) rfl rfl rfl ?_
          try simp (disch := omega) only [us_us, us_s, us_n, hw, WF_3, WF_4, WF_5, WF_6, WF_g2, WF_g3, WF_g4, WF_g5, WF_g6, RF, h2]
          refine V_aload_n C dX2_isWord_46 rfl ?_
          refine V_iload_n C dX2_isWord_47 rfl ?_
          refine V_ck C hE hi dX2_isWord_48 (c_charAt (i := i) (j := j) hi (by omega)) kyJ0_charAt_5068e q711 rfl rfl rfl ?_
          refine V_icmp_eq C dX2_isWord_51 (fun c51 => ?_) (fun c51 => ?_)
          · refine V_iinc C 1 dX2_isWord_56 rfl (by decide) rfl ?_
            refine V_goto C dX2_isWord_59 ?_
            exact V_nx rfl (by simp [← nI_1] <;> rfl) (ih (j + 1) (by omega) (hA_s hA (by rw [← c51, bAT_in (by omega)])))
          · refine V_iconst C 0 dX2_isWord_54 (by decide) ?_
            exact V_zretD C dX2_isWord_55 hT (by refine (bI_f (fun q => c51 ?_)).symm; rw [bAT_in (by omega)]; exact (wdT_i.mp q).2.2 j (by omega)) rfl
      exact lp (lenTx.getD i 0) 0 (by omega) (fun k hk => absurd hk (by omega))
    · refine V_iconst C 0 dX2_isWord_24 (by decide) ?_
      exact V_zretD C dX2_isWord_25 hT (by first | (exact (bI_f (fun q => c5 (tk_1.mpr (wdT_i.mp q).1))).symm) | (exact (bI_f (fun q => c21 (by rw [(wdT_i.mp q).2.1]))).symm)) rfl

theorem c_X2_kindTold {l : Launch} {E : En} {σ : Sg} {f : Nat → Int32} {n s : Nat} (hw : σ 64 = RF f (σ 63) n s) (h2 : f 2 = nI n) (hs : s ≤ n) (hn : n ≤ 120) : MD l yX2_kindTold cX2_kindTold 1 (some .int) rnX2_kindTold E [.ref (ad E 64)] σ (some (.int (kdT (σ 63) n s))) (σ) := by
  refine MD_of (by decide +kernel) rfl fun x C hE hT hcan => ?_
  have C : CX x cX2_kindTold RX2 rnX2_kindTold := C
  refine V_L (L' := [some (.ref (ad E 64))]) rfl ?_
  refine V_aload_n C dX2_kindTold_0 rfl ?_
  refine V_ldcS C dX2_kindTold_1 (hE.1.2.1 0 (by decide)) ?_
  refine V_cv C hE dX2_kindTold_3 (c_X2_isWord (i := 0) (f := f) (n := n) (s := s) (by decide) hw h2 hs hn) kyX2_isWord q697 (isoO 64 rfl rfl rfl rfl) rfl rfl rfl ?_
  refine V_ifeq_b C dX2_kindTold_6 (fun c6 => ?_) (fun c6 => ?_)
  · refine V_aload_n C dX2_kindTold_11 rfl ?_
    refine V_ldcS C dX2_kindTold_12 (hE.1.2.1 1 (by decide)) ?_
    refine V_cv C hE dX2_kindTold_14 (c_X2_isWord (i := 1) (f := f) (n := n) (s := s) (by decide) hw h2 hs hn) kyX2_isWord q697 (isoO 64 rfl rfl rfl rfl) rfl rfl rfl ?_
    refine V_ifeq_b C dX2_kindTold_17 (fun c17 => ?_) (fun c17 => ?_)
    · refine V_aload_n C dX2_kindTold_22 rfl ?_
      refine V_ldcS C dX2_kindTold_23 (hE.1.2.1 2 (by decide)) ?_
      refine V_cv C hE dX2_kindTold_25 (c_X2_isWord (i := 2) (f := f) (n := n) (s := s) (by decide) hw h2 hs hn) kyX2_isWord q697 (isoO 64 rfl rfl rfl rfl) rfl rfl rfl ?_
      refine V_ifeq_b C dX2_kindTold_28 (fun c28 => ?_) (fun c28 => ?_)
      · refine V_aload_n C dX2_kindTold_33 rfl ?_
        refine V_ldcS C dX2_kindTold_34 (hE.1.2.1 3 (by decide)) ?_
        refine V_cv C hE dX2_kindTold_36 (c_X2_isWord (i := 3) (f := f) (n := n) (s := s) (by decide) hw h2 hs hn) kyX2_isWord q697 (isoO 64 rfl rfl rfl rfl) rfl rfl rfl ?_
        refine V_ifeq_b C dX2_kindTold_39 (fun c39 => ?_) (fun c39 => ?_)
        · refine V_aload_n C dX2_kindTold_44 rfl ?_
          refine V_ldcS C dX2_kindTold_45 (hE.1.2.1 4 (by decide)) ?_
          refine V_cv C hE dX2_kindTold_47 (c_X2_isWord (i := 4) (f := f) (n := n) (s := s) (by decide) hw h2 hs hn) kyX2_isWord q697 (isoO 64 rfl rfl rfl rfl) rfl rfl rfl ?_
          refine V_ifeq_b C dX2_kindTold_50 (fun c50 => ?_) (fun c50 => ?_)
          · refine V_aload_n C dX2_kindTold_55 rfl ?_
            refine V_ldcS C dX2_kindTold_56 (hE.1.2.1 5 (by decide)) ?_
            refine V_cv C hE dX2_kindTold_58 (c_X2_isWord (i := 5) (f := f) (n := n) (s := s) (by decide) hw h2 hs hn) kyX2_isWord q697 (isoO 64 rfl rfl rfl rfl) rfl rfl rfl ?_
            refine V_ifeq_b C dX2_kindTold_61 (fun c61 => ?_) (fun c61 => ?_)
            · refine V_aload_n C dX2_kindTold_66 rfl ?_
              refine V_ldcS C dX2_kindTold_67 (hE.1.2.1 6 (by decide)) ?_
              refine V_cv C hE dX2_kindTold_69 (c_X2_isWord (i := 6) (f := f) (n := n) (s := s) (by decide) hw h2 hs hn) kyX2_isWord q697 (isoO 64 rfl rfl rfl rfl) rfl rfl rfl ?_
              refine V_ifeq_b C dX2_kindTold_72 (fun c72 => ?_) (fun c72 => ?_)
              · refine V_iconst C (-1) dX2_kindTold_80 (by decide) ?_
                exact V_iretD C dX2_kindTold_81 hT (by unfold kdT; (first | rw [if_neg c6, if_neg c17, if_neg c28, if_neg c39, if_neg c50, if_neg c61, if_pos c72] | rw [if_neg c6, if_neg c17, if_neg c28, if_neg c39, if_neg c50, if_neg c61, if_neg c72])) rfl
              · refine V_bipush C 6 dX2_kindTold_75 (by decide) ?_
                refine V_goto C dX2_kindTold_77 ?_
                exact V_iretD C dX2_kindTold_81 hT (by unfold kdT; (first | rw [if_neg c6, if_neg c17, if_neg c28, if_neg c39, if_neg c50, if_neg c61, if_pos c72] | rw [if_neg c6, if_neg c17, if_neg c28, if_neg c39, if_neg c50, if_neg c61, if_neg c72])) rfl
            · refine V_iconst C 5 dX2_kindTold_64 (by decide) ?_
              exact V_iretD C dX2_kindTold_65 hT (by unfold kdT; (first | rw [if_neg c6, if_neg c17, if_neg c28, if_neg c39, if_neg c50, if_pos c61] | rw [if_neg c6, if_neg c17, if_neg c28, if_neg c39, if_neg c50, if_neg c61])) rfl
          · refine V_iconst C 4 dX2_kindTold_53 (by decide) ?_
            exact V_iretD C dX2_kindTold_54 hT (by unfold kdT; (first | rw [if_neg c6, if_neg c17, if_neg c28, if_neg c39, if_pos c50] | rw [if_neg c6, if_neg c17, if_neg c28, if_neg c39, if_neg c50])) rfl
        · refine V_iconst C 3 dX2_kindTold_42 (by decide) ?_
          exact V_iretD C dX2_kindTold_43 hT (by unfold kdT; (first | rw [if_neg c6, if_neg c17, if_neg c28, if_pos c39] | rw [if_neg c6, if_neg c17, if_neg c28, if_neg c39])) rfl
      · refine V_iconst C 2 dX2_kindTold_31 (by decide) ?_
        exact V_iretD C dX2_kindTold_32 hT (by unfold kdT; (first | rw [if_neg c6, if_neg c17, if_pos c28] | rw [if_neg c6, if_neg c17, if_neg c28])) rfl
    · refine V_iconst C 1 dX2_kindTold_20 (by decide) ?_
      exact V_iretD C dX2_kindTold_21 hT (by unfold kdT; (first | rw [if_neg c6, if_pos c17] | rw [if_neg c6, if_neg c17])) rfl
  · refine V_iconst C 0 dX2_kindTold_9 (by decide) ?_
    exact V_iretD C dX2_kindTold_10 hT (by unfold kdT; (first | rw [if_pos c6] | rw [if_neg c6])) rfl

