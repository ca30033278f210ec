/-- the quarters while the stove is away -/
def awN : Nat → (Nat → Int32) → Nat → Int32
  | 0, f => f
  | n + 1, f => qF False (awN n f)
theorem Inv_awN {f : Nat → Int32} (h : Inv f) : ∀ n, Inv (awN n f) := by
  intro n
  induction n with
  | zero => exact h
  | succ n ih => exact Inv_qF ih (fun q => q.elim)
theorem late_eq {q n : Int32} (h : inP q 0 9999) (hn : inP n 0 9999) : 9999 < q + n ↔ 9999 - n < q := by
  obtain ⟨a, rfl, ha⟩ := i32_le (m := 9999) (by omega) h.1 h.2
  obtain ⟨b, rfl, hb⟩ := i32_le (m := 9999) (by omega) hn.1 hn.2
  have e1 : (9999 : Int32) < nI a + nI b ↔ 9999 < a + b := by rw [nI_add]; exact nI_ltI (a := 9999) (by omega) (by omega)
  have e2 : (9999 : Int32) - nI b < nI a ↔ 9999 - b < a := by
    rw [show (9999 : Int32) - nI b = nI (9999 - b) from nI_msub (a := 9999) hb]; exact nI_ltI (by omega) (by omega)
  rw [e1, e2]; omega
theorem V_raw {x : Cx} {E : En} {A : Nat → Prop} {σ : Sg} {k n pc : Nat} {L : List (Option Value)} {st : List Value} (h : ∀ ρ, ABS σ ρ → V x A (RP x E ρ) k n pc L st) : V x A (AP x E σ) k n pc L st :=
  V_ex (P' := fun (a : {ρ : Sg // ABS σ ρ}) => RP x E a.1) (fun H hH => by obtain ⟨ρ, h1, h2⟩ := hH; exact ⟨⟨ρ, h1⟩, h2⟩) (fun a => h a.1 a.2)
theorem V_pic {x : Cx} {E : En} {A : Nat → Prop} {σ ρ : Sg} {k n pc : Nat} {L : List (Option Value)} {st : List Value} (hA : ABS σ ρ) (h : V x A (AP x E σ) k n pc L st) : V x A (RP x E ρ) k n pc L st :=
  V_to (P' := AP x E σ) (fun H hH => ⟨ρ, hA, hH⟩) rfl rfl h
theorem V_nR {x : Cx} {E : En} {A : Nat → Prop} {σ σ' : Sg} {k n pc : Nat} {L L' : List (Option Value)} {st : List Value} (hs : σ = σ') (hl : L = L') (h : V x A (RP x E σ') k n pc L' st) : V x A (RP x E σ) k n pc L st := by
  subst hs; subst hl; exact h
/-- i numbers of f from b on, put into g from a on -/
def cpO (g f : Nat → Int32) (a b i : Nat) : Nat → Int32 := fun k => if a ≤ k ∧ k < a + i then f (b + (k - a)) else g k
theorem cpO_0 (g f : Nat → Int32) (a b : Nat) : cpO g f a b 0 = g := by funext k; unfold cpO; rw [if_neg (by omega)]
theorem cpO_s {g f : Nat → Int32} {a b i : Nat} {v : Int32} (hv : v = f (b + i)) : upd (cpO g f a b i) (a + i) v = cpO g f a b (i + 1) := by
  funext k; unfold upd cpO
  by_cases e : k = a + i
  · subst e; rw [if_pos rfl, if_pos (by omega), hv]; congr 1; omega
  · rw [if_neg e]
    by_cases q : a ≤ k ∧ k < a + i
    · rw [if_pos q, if_pos (by omega)]
    · rw [if_neg q, if_neg (by omega)]
theorem cpO_a {g f : Nat → Int32} {a b n k : Nat} (h : k < n) : cpO g f a b n (a + k) = f (b + k) := by unfold cpO; rw [if_pos (by omega)]; congr 1; omega
theorem cpO_o {g f : Nat → Int32} {a b n k : Nat} (h : k < a ∨ a + n ≤ k) : cpO g f a b n k = g k := by unfold cpO; rw [if_neg (by omega)]
theorem Msk.congr {f g g' : Nat → Int32} (h : Msk f g) (e : ∀ k, k < 73 → g' k = g k) : Msk f g' := by
  obtain ⟨h1, h2, h3, h4⟩ := h
  refine ⟨h1, fun k hk => by rw [e k (by omega)]; exact h2 k hk, fun k h5 h6 => by rw [e k h6]; exact h3 k h5 h6, fun i j hi hj => ?_⟩
  have := h1.2.1
  rw [e _ (by omega)]; exact h4 i j hi hj
theorem ABS.cp {σ ρ : Sg} {c d : Nat} (h : ABS σ ρ) (hc1 : 74 ≤ c) (hc2 : c ≤ 76) (hd1 : 74 ≤ d) (hd2 : d ≤ 76) : ABS (us σ c (σ d)) (us ρ c (cpO (ρ c) (ρ d) 0 0 73)) :=
  h.msk hc1 hc2 ((h.2.2.1 d hd1 hd2).congr fun k hk => by
    have e := cpO_a (g := ρ c) (f := ρ d) (a := 0) (b := 0) hk
    rw [Nat.zero_add] at e; exact e)
theorem ABS.st {σ ρ : Sg} {k : Nat} (h : ABS σ ρ) (hk : k < 2) : ABS (us σ (10+k) (σ 74)) (us ρ 78 (cpO (ρ 78) (ρ 74) (73*k) 0 73)) := by
  obtain ⟨a, b, d, m, m2⟩ := h
  have hm := d 74 (by omega) (by omega)
  refine ⟨fun v' hv' => ?_, fun c' q q1 q2 q3 q4 => ?_, fun c' q q1 => ?_, ?_, ?_⟩
  · rw [us_n (show v' ≠ 10 + k by omega), us_n (show 5 + v' ≠ 10 + k by omega), us_n (show 12 * v' ≠ 78 by omega)]
    exact ⟨(a v' hv').1.congr (fun c' _ _ => us_n (by omega)), (a v' hv').2⟩
  · rw [us_n (by omega), us_n (by omega)]; exact b c' q q1 q2 q3 q4
  · rw [us_n (by omega), us_n (by omega)]; exact d c' q q1
  · rw [us_s]
    by_cases e : k = 0
    · subst e; rw [us_s]; exact hm.congr (fun j hj => by have e := cpO_a (g := ρ 78) (f := ρ 74) (a := 73*0) (b := 0) hj; rw [Nat.zero_add] at e; rw [← e] <;> (congr 1 <;> omega))
    · rw [us_n (by omega)]; exact m.congr (fun j hj => cpO_o (by omega))
  · rw [us_s]
    by_cases e : k = 1
    · subst e; rw [us_s]; exact hm.congr (fun j hj => by have e := cpO_a (g := ρ 78) (f := ρ 74) (a := 73*1) (b := 0) hj; rw [Nat.zero_add] at e; rw [← e])
    · rw [us_n (by omega)]; exact m2.congr (fun j hj => cpO_o (by omega))
theorem ABS.sa {σ ρ : Sg} {k : Nat} (h : ABS σ ρ) (hk : k < 2) : ABS (us σ 74 (σ (10+k))) (us ρ 74 (cpO (ρ 74) (ρ 78) 0 (73*k) 73)) := by
  refine h.msk (by omega) (by omega) ?_
  rcases (show k = 0 ∨ k = 1 by omega) with rfl | rfl
  · exact h.2.2.2.1.congr (fun j hj => by have e := cpO_a (g := ρ 74) (f := ρ 78) (a := 0) (b := 73*0) hj; rw [Nat.zero_add] at e; rw [e] <;> (congr 1 <;> omega))
  · exact h.2.2.2.2.congr (fun j hj => by have e := cpO_a (g := ρ 74) (f := ρ 78) (a := 0) (b := 73*1) hj; rw [Nat.zero_add] at e; rw [e])
theorem lst_a {f : Nat → Int32} {a : Int32} {i : Nat} (h : hf f i 0 = 4) : lstN f a (i+1) = lstN f a i := if_neg (fun q => q.1 h)
theorem lst_b {f : Nat → Int32} {a : Int32} {i : Nat} (h : lstN f a i ≤ hf f i 1) : lstN f a (i+1) = lstN f a i := if_neg (fun q => absurd q.2 (Int32.not_lt.mpr h))
theorem lst_c {f : Nat → Int32} {a : Int32} {i : Nat} (h : ¬ hf f i 0 = 4) (h1 : ¬ lstN f a i ≤ hf f i 1) : lstN f a (i+1) = hf f i 1 := if_pos ⟨h, Int32.not_le.mp h1⟩
theorem cold_a {k w b : Int32} (h : k = 4) : bI (coldV k w b) = 0 := bI_f (fun q => q.1 h)
theorem cold_b {k w b : Int32} (h : b ≤ w) : bI (coldV k w b) = 0 := bI_f (fun q => absurd q.2 (Int32.not_lt.mpr h))
theorem cold_c {k w b : Int32} (h : ¬ k = 4) (h1 : ¬ b ≤ w) : bI (coldV k w b) = 1 := bI_t ⟨h, Int32.not_le.mp h1⟩
theorem or_0 (a : Int32) : a ||| 0 = a := by simp

theorem c_X9_quartersGo {l : Launch} {E : En} {σ : Sg} {n : Nat} (hI : Inv (σ 74)) (hz : σ 73 5 = 0) (hn : n < 2 ^ 31) : MD l yX9_quartersGo cX9_quartersGo 3 none rmX9_quartersGo E [.ref (ad E 73), .int (nI n)] σ none (us σ 74 (passN n (σ 74))) := by
  refine MD_of (by decide +kernel) rfl fun x C hE hT hcan => ?_
  have C : CX x cX9_quartersGo RX9 rmX9_quartersGo := C
  refine V_L (L' := [some (.ref (ad E 73)), some (.int (nI n)), none]) rfl ?_
  refine V_iconst C 0 dX9_quartersGo_0 (by decide) ?_
  refine V_istore_n C dX9_quartersGo_1 rfl ?_
  have lp : ∀ (d i : Nat) , i + d = n → V x (eA E) (AP x E (us σ 74 (passN i (σ 74)))) 0 0 2 [some (.ref (ad E 73)), some (.int (nI n)), some (.int (nI i))] [] := by
    intro d
    induction d with
    | zero =>
      intro i  hi' 
      have hN : i = n := by omega
      refine V_iload_n C dX9_quartersGo_2 rfl ?_
      refine V_iload_n C dX9_quartersGo_3 rfl ?_
      refine V_icmp_ge C dX9_quartersGo_4 (fun c4 => ?_) (fun c4 => absurd (by rw [hN] <;> exact nI_le (Nat.le_refl _) (by omega)) c4)
      exact V_retD C dX9_quartersGo_17 hT (by rw [hN])
    | succ d ih =>
      intro i  hi' 
      refine V_iload_n C dX9_quartersGo_2 rfl ?_
      refine V_iload_n C dX9_quartersGo_3 rfl ?_
      refine V_icmp_ge C dX9_quartersGo_4 (fun c4 => absurd c4 (nI_ge (by omega) (by omega))) (fun c4 => ?_)
      refine V_aload_n C dX9_quartersGo_7 rfl ?_
      refine V_cv0 C hE dX9_quartersGo_8 (c_X9_quarter (p := canB (passN i (σ 74))) (by rw [us_s]; exact Inv_passN hI i) (by rw [us_s, us_n (by omega)]; exact ⟨fun q => ⟨q, hz⟩, fun q => q.1⟩)) kyX9_quarter q1094 (isoO 73 rfl rfl rfl rfl) rfl rfl rfl ?_
      try simp only [us_us, us_s]
      refine V_iinc C 1 dX9_quartersGo_11 rfl (by decide) rfl ?_
      refine V_goto C dX9_quartersGo_14 ?_
      exact V_nx rfl (by simp [← nI_1] <;> rfl) (ih (i + 1) (by omega))
  exact V_nx (us_id σ 74).symm rfl (lp n 0 (by omega))

theorem c_X9_quartersAw {l : Launch} {E : En} {σ : Sg} {n : Nat} (hI : Inv (σ 74)) (hz : ¬ σ 73 5 = 0) (hn : n < 2 ^ 31) : MD l yX9_quartersGo cX9_quartersGo 3 none rmX9_quartersGo E [.ref (ad E 73), .int (nI n)] σ none (us σ 74 (awN n (σ 74))) := by
  refine MD_of (by decide +kernel) rfl fun x C hE hT hcan => ?_
  have C : CX x cX9_quartersGo RX9 rmX9_quartersGo := C
  refine V_L (L' := [some (.ref (ad E 73)), some (.int (nI n)), none]) rfl ?_
  refine V_iconst C 0 dX9_quartersGo_0 (by decide) ?_
  refine V_istore_n C dX9_quartersGo_1 rfl ?_
  have lp : ∀ (d i : Nat) , i + d = n → V x (eA E) (AP x E (us σ 74 (awN i (σ 74)))) 0 0 2 [some (.ref (ad E 73)), some (.int (nI n)), some (.int (nI i))] [] := by
    intro d
    induction d with
    | zero =>
      intro i  hi' 
      have hN : i = n := by omega
      refine V_iload_n C dX9_quartersGo_2 rfl ?_
      refine V_iload_n C dX9_quartersGo_3 rfl ?_
      refine V_icmp_ge C dX9_quartersGo_4 (fun c4 => ?_) (fun c4 => absurd (by rw [hN] <;> exact nI_le (Nat.le_refl _) (by omega)) c4)
      exact V_retD C dX9_quartersGo_17 hT (by rw [hN])
    | succ d ih =>
      intro i  hi' 
      refine V_iload_n C dX9_quartersGo_2 rfl ?_
      refine V_iload_n C dX9_quartersGo_3 rfl ?_
      refine V_icmp_ge C dX9_quartersGo_4 (fun c4 => absurd c4 (nI_ge (by omega) (by omega))) (fun c4 => ?_)
      refine V_aload_n C dX9_quartersGo_7 rfl ?_
      refine V_cv0 C hE dX9_quartersGo_8 (c_X9_quarter (p := False) (by rw [us_s]; exact Inv_awN hI i) (by rw [us_n (show (73:Nat) ≠ 74 by omega)]; exact ⟨fun q => q.elim, fun q => hz q.2⟩)) kyX9_quarter q1094 (isoO 73 rfl rfl rfl rfl) rfl rfl rfl ?_
      try simp only [us_us, us_s]
      refine V_iinc C 1 dX9_quartersGo_11 rfl (by decide) rfl ?_
      refine V_goto C dX9_quartersGo_14 ?_
      exact V_nx rfl (by simp [← nI_1] <;> rfl) (ih (i + 1) (by omega))
  exact V_nx (us_id σ 74).symm rfl (lp n 0 (by omega))

theorem c_X9_isAbove {l : Launch} {E : En} {σ : Sg} {p0 : Int32}  : MD l yX9_isAbove cX9_isAbove 2 (some .boolean) rmX9_isAbove E [.ref (ad E 73), .int p0] σ (some (.int (bI (p0 < σ 74 0)))) (σ) := by
  refine MD_of (by decide +kernel) rfl fun x C hE hT hcan => ?_
  have C : CX x cX9_isAbove RX9 rmX9_isAbove := C
  refine V_L (L' := [some (.ref (ad E 73)), some (.int p0)]) rfl ?_
  refine V_aload_n C dX9_isAbove_0 rfl ?_
  refine V_get C dX9_isAbove_1 (rdO (j := 0) 73 rfl rfl rfl rfl rfl) in_X9 (by decide) q907 rfl ?_
  refine V_iconst C 0 dX9_isAbove_4 (by decide) ?_
  refine V_iald C 0 rfl rfl rfl dX9_isAbove_5 (rdM 74 0 rfl rfl rfl) ?_
  refine V_iload_n C dX9_isAbove_6 rfl ?_
  refine V_icmp_le C dX9_isAbove_7 (fun c7 => ?_) (fun c7 => ?_)
  · refine V_iconst C 0 dX9_isAbove_14 (by decide) ?_
    exact V_zretD C dX9_isAbove_15 hT (by first | exact (bI_t (by first | exact c7 | exact Int32.not_le.mp c7)).symm | exact (bI_f (Int32.not_lt.mpr c7)).symm) rfl
  · refine V_iconst C 1 dX9_isAbove_10 (by decide) ?_
    refine V_goto C dX9_isAbove_11 ?_
    exact V_zretD C dX9_isAbove_15 hT (by first | exact (bI_t (by first | exact c7 | exact Int32.not_le.mp c7)).symm | exact (bI_f (Int32.not_lt.mpr c7)).symm) rfl

theorem c_X9_isTooLate {l : Launch} {E : En} {σ : Sg} {p0 : Int32} (hq : inP (σ 74 0) 0 9999) (hp : inP p0 0 9999) : MD l yX9_isTooLate cX9_isTooLate 2 (some .boolean) rmX9_isTooLate E [.ref (ad E 73), .int p0] σ (some (.int (bI (9999 - p0 < σ 74 0)))) (σ) := by
  refine MD_of (by decide +kernel) rfl fun x C hE hT hcan => ?_
  have C : CX x cX9_isTooLate RX9 rmX9_isTooLate := C
  refine V_L (L' := [some (.ref (ad E 73)), some (.int p0)]) rfl ?_
  refine V_aload_n C dX9_isTooLate_0 rfl ?_
  refine V_get C dX9_isTooLate_1 (rdO (j := 0) 73 rfl rfl rfl rfl rfl) in_X9 (by decide) q907 rfl ?_
  refine V_iconst C 0 dX9_isTooLate_4 (by decide) ?_
  refine V_iald C 0 rfl rfl rfl dX9_isTooLate_5 (rdM 74 0 rfl rfl rfl) ?_
  refine V_iload_n C dX9_isTooLate_6 rfl ?_
  refine V_iadd C dX9_isTooLate_7 ?_
  refine V_sipush C 9999 dX9_isTooLate_8 (by decide) ?_
  refine V_icmp_le C dX9_isTooLate_11 (fun c11 => ?_) (fun c11 => ?_)
  · refine V_iconst C 0 dX9_isTooLate_18 (by decide) ?_
    exact V_zretD C dX9_isTooLate_19 hT (by first | exact (bI_t ((late_eq hq hp).mp (Int32.not_le.mp c11))).symm | exact (bI_f (fun q => Int32.not_lt.mpr c11 ((late_eq hq hp).mpr q))).symm) rfl
  · refine V_iconst C 1 dX9_isTooLate_14 (by decide) ?_
    refine V_goto C dX9_isTooLate_15 ?_
    exact V_zretD C dX9_isTooLate_19 hT (by first | exact (bI_t ((late_eq hq hp).mp (Int32.not_le.mp c11))).symm | exact (bI_f (fun q => Int32.not_lt.mpr c11 ((late_eq hq hp).mpr q))).symm) rfl

theorem c_X9_sumOf {l : Launch} {E : En} {σ : Sg} {j : Nat} {w : Int32} (hw : w = nI j) (hj : j < 6) : MD l yX9_sumOf cX9_sumOf 4 (some .int) rmX9_sumOf E [.ref (ad E 73), .int w] σ (some (.int (sumF (σ 74) j))) (σ) := by
  refine MD_of (by decide +kernel) rfl fun x C hE hT hcan => ?_
  have C : CX x cX9_sumOf RX9 rmX9_sumOf := C
  have h8 : nh (σ 74) ≤ 8 := (hcan.2.1 74 (by omega) (by omega)).2.1
  have hn1 : σ 74 1 = nI (nh (σ 74)) := (hcan.2.1 74 (by omega) (by omega)).1
  refine V_L (L' := [some (.ref (ad E 73)), some (.int w), none, none]) rfl ?_
  subst hw
  refine V_iconst C 0 dX9_sumOf_0 (by decide) ?_
  refine V_istore_n C dX9_sumOf_1 rfl ?_
  refine V_iconst C 0 dX9_sumOf_2 (by decide) ?_
  refine V_istore_n C dX9_sumOf_3 rfl ?_
  have lp : ∀ (d i : Nat) , i + d = nh (σ 74) → V x (eA E) (AP x E (σ)) 0 0 4 [some (.ref (ad E 73)), some (.int (nI j)), some (.int (sumN (σ 74) j i)), some (.int (nI i))] [] := by
    intro d
    induction d with
    | zero =>
      intro i  hi' 
      have hN : i = nh (σ 74) := by omega
      refine V_iload_n C dX9_sumOf_4 rfl ?_
      refine V_aload_n C dX9_sumOf_5 rfl ?_
      refine V_get C dX9_sumOf_6 (rdO (j := 0) 73 rfl rfl rfl rfl rfl) in_X9 (by decide) q907 rfl ?_
      refine V_iconst C 1 dX9_sumOf_9 (by decide) ?_
      refine V_iald C 1 rfl rfl rfl dX9_sumOf_10 (rdM 74 1 rfl rfl rfl) ?_
      refine V_icmp_ge C dX9_sumOf_11 (fun c11 => ?_) (fun c11 => absurd (by rw [hn1, hN] <;> exact nI_le (Nat.le_refl _) (by omega)) c11)
      refine V_iload_n C dX9_sumOf_29 rfl ?_
      exact V_iretD C dX9_sumOf_30 hT (by rw [hN]; rfl) rfl
    | succ d ih =>
      intro i  hi' 
      refine V_iload_n C dX9_sumOf_4 rfl ?_
      refine V_aload_n C dX9_sumOf_5 rfl ?_
      refine V_get C dX9_sumOf_6 (rdO (j := 0) 73 rfl rfl rfl rfl rfl) in_X9 (by decide) q907 rfl ?_
      refine V_iconst C 1 dX9_sumOf_9 (by decide) ?_
      refine V_iald C 1 rfl rfl rfl dX9_sumOf_10 (rdM 74 1 rfl rfl rfl) ?_
      refine V_icmp_ge C dX9_sumOf_11 (fun c11 => absurd c11 (by rw [hn1]; exact nI_ge (by omega) (by omega))) (fun c11 => ?_)
      refine V_iload_n C dX9_sumOf_14 rfl ?_
      refine V_aload_n C dX9_sumOf_15 rfl ?_
      refine V_iload_n C dX9_sumOf_16 rfl ?_
      refine V_iload_n C dX9_sumOf_17 rfl ?_
      refine V_cv C hE dX9_sumOf_18 (c_X9_its (i := i) (j := j) rfl (by omega) hj) kyX9_its q1016 (isoO 73 rfl rfl rfl rfl) rfl rfl rfl ?_
      refine V_iadd C dX9_sumOf_21 ?_
      refine V_istore_n C dX9_sumOf_22 rfl ?_
      refine V_iinc C 1 dX9_sumOf_23 rfl (by decide) rfl ?_
      refine V_goto C dX9_sumOf_26 ?_
      exact V_nx rfl (by simp [sumN, ← nI_1] <;> rfl) (ih (i + 1) (by omega))
  exact lp (nh (σ 74)) 0 (by omega)

theorem c_X9_isCold {l : Launch} {E : En} {σ : Sg} {i : Nat} (hi : i < nh (σ 74)) : MD l yX9_isCold cX9_isCold 2 (some .boolean) rmX9_isCold E [.ref (ad E 73), .int (nI i)] σ (some (.int (bI (coldV (hf (σ 74) i 0) (hf (σ 74) i 1) (hf (σ 74) i 4))))) (σ) := by
  refine MD_of (by decide +kernel) rfl fun x C hE hT hcan => ?_
  have C : CX x cX9_isCold RX9 rmX9_isCold := C
  have h8 : nh (σ 74) ≤ 8 := (hcan.2.1 74 (by omega) (by omega)).2.1
  have hi8 : i < 8 := by omega
  refine V_L (L' := [some (.ref (ad E 73)), some (.int (nI i))]) rfl ?_
  refine V_aload_n C dX9_isCold_0 rfl ?_
  refine V_iload_n C dX9_isCold_1 rfl ?_
  refine V_iconst C 0 dX9_isCold_2 (by decide) ?_
  refine V_cv C hE dX9_isCold_3 (c_X9_its (j := 0) rfl (by first | assumption | omega | (simp (disch := omega) only [us_s, us_n, nh_uh, nh_upd, nh_passN, nh_goF, nh_quarterF]; assumption)) (by omega)) kyX9_its q1016 (isoO 73 rfl rfl rfl rfl) rfl rfl rfl ?_
  refine V_iconst C 4 dX9_isCold_6 (by decide) ?_
  refine V_icmp_eq C dX9_isCold_7 (fun c7 => ?_) (fun c7 => ?_)
  · refine V_iconst C 0 dX9_isCold_29 (by decide) ?_
    exact V_zretD C dX9_isCold_30 hT (by first | exact (cold_a c7).symm | exact (cold_b c22).symm | exact (cold_c c7 c22).symm) rfl
  · refine V_aload_n C dX9_isCold_10 rfl ?_
    refine V_iload_n C dX9_isCold_11 rfl ?_
    refine V_iconst C 1 dX9_isCold_12 (by decide) ?_
    refine V_cv C hE dX9_isCold_13 (c_X9_its (j := 1) rfl (by first | assumption | omega | (simp (disch := omega) only [us_s, us_n, nh_uh, nh_upd, nh_passN, nh_goF, nh_quarterF]; assumption)) (by omega)) kyX9_its q1016 (isoO 73 rfl rfl rfl rfl) rfl rfl rfl ?_
    refine V_aload_n C dX9_isCold_16 rfl ?_
    refine V_iload_n C dX9_isCold_17 rfl ?_
    refine V_iconst C 4 dX9_isCold_18 (by decide) ?_
    refine V_cv C hE dX9_isCold_19 (c_X9_its (j := 4) rfl (by first | assumption | omega | (simp (disch := omega) only [us_s, us_n, nh_uh, nh_upd, nh_passN, nh_goF, nh_quarterF]; assumption)) (by omega)) kyX9_its q1016 (isoO 73 rfl rfl rfl rfl) rfl rfl rfl ?_
    refine V_icmp_ge C dX9_isCold_22 (fun c22 => ?_) (fun c22 => ?_)
    · refine V_iconst C 0 dX9_isCold_29 (by decide) ?_
      exact V_zretD C dX9_isCold_30 hT (by first | exact (cold_a c7).symm | exact (cold_b c22).symm | exact (cold_c c7 c22).symm) rfl
    · refine V_iconst C 1 dX9_isCold_25 (by decide) ?_
      refine V_goto C dX9_isCold_26 ?_
      exact V_zretD C dX9_isCold_30 hT (by first | exact (cold_a c7).symm | exact (cold_b c22).symm | exact (cold_c c7 c22).symm) rfl

theorem c_X9_coldSet {l : Launch} {E : En} {σ : Sg}   : MD l yX9_coldSet cX9_coldSet 3 (some .int) rmX9_coldSet E [.ref (ad E 73)] σ (some (.int (setF (σ 74)))) (σ) := by
  refine MD_of (by decide +kernel) rfl fun x C hE hT hcan => ?_
  have C : CX x cX9_coldSet RX9 rmX9_coldSet := C
  have h8 : nh (σ 74) ≤ 8 := (hcan.2.1 74 (by omega) (by omega)).2.1
  have hn1 : σ 74 1 = nI (nh (σ 74)) := (hcan.2.1 74 (by omega) (by omega)).1
  refine V_L (L' := [some (.ref (ad E 73)), none, none]) rfl ?_
  refine V_iconst C 0 dX9_coldSet_0 (by decide) ?_
  refine V_istore_n C dX9_coldSet_1 rfl ?_
  refine V_iconst C 0 dX9_coldSet_2 (by decide) ?_
  refine V_istore_n C dX9_coldSet_3 rfl ?_
  have lp : ∀ (d i : Nat) , i + d = nh (σ 74) → V x (eA E) (AP x E (σ)) 0 0 4 [some (.ref (ad E 73)), some (.int (setN (σ 74) i)), some (.int (nI i))] [] := by
    intro d
    induction d with
    | zero =>
      intro i  hi' 
      have hN : i = nh (σ 74) := by omega
      refine V_iload_n C dX9_coldSet_4 rfl ?_
      refine V_aload_n C dX9_coldSet_5 rfl ?_
      refine V_get C dX9_coldSet_6 (rdO (j := 0) 73 rfl rfl rfl rfl rfl) in_X9 (by decide) q907 rfl ?_
      refine V_iconst C 1 dX9_coldSet_9 (by decide) ?_
      refine V_iald C 1 rfl rfl rfl dX9_coldSet_10 (rdM 74 1 rfl rfl rfl) ?_
      refine V_icmp_ge C dX9_coldSet_11 (fun c11 => ?_) (fun c11 => absurd (by rw [hn1, hN] <;> exact nI_le (Nat.le_refl _) (by omega)) c11)
      refine V_iload_n C dX9_coldSet_38 rfl ?_
      exact V_iretD C dX9_coldSet_39 hT (by rw [hN]; rfl) rfl
    | succ d ih =>
      intro i  hi' 
      refine V_iload_n C dX9_coldSet_4 rfl ?_
      refine V_aload_n C dX9_coldSet_5 rfl ?_
      refine V_get C dX9_coldSet_6 (rdO (j := 0) 73 rfl rfl rfl rfl rfl) in_X9 (by decide) q907 rfl ?_
      refine V_iconst C 1 dX9_coldSet_9 (by decide) ?_
      refine V_iald C 1 rfl rfl rfl dX9_coldSet_10 (rdM 74 1 rfl rfl rfl) ?_
      refine V_icmp_ge C dX9_coldSet_11 (fun c11 => absurd c11 (by rw [hn1]; exact nI_ge (by omega) (by omega))) (fun c11 => ?_)
      refine V_iload_n C dX9_coldSet_14 rfl ?_
      refine V_aload_n C dX9_coldSet_15 rfl ?_
      refine V_iload_n C dX9_coldSet_16 rfl ?_
      refine V_cv C hE dX9_coldSet_17 (c_X9_isCold (i := i) (by omega)) kyX9_isCold q1114 (isoO 73 rfl rfl rfl rfl) rfl rfl rfl ?_
      refine V_ifeq_b C dX9_coldSet_20 (fun c20 => ?_) (fun c20 => ?_)
      · refine V_iconst C 0 dX9_coldSet_29 (by decide) ?_
        refine V_ior C dX9_coldSet_30 ?_
        refine V_istore_n C dX9_coldSet_31 rfl ?_
        refine V_iinc C 1 dX9_coldSet_32 rfl (by decide) rfl ?_
        refine V_goto C dX9_coldSet_35 ?_
        exact V_nx rfl (by simp [setN, or_0, ← nI_1, c20] <;> rfl) (ih (i + 1) (by omega))
      · refine V_iconst C 1 dX9_coldSet_23 (by decide) ?_
        refine V_iload_n C dX9_coldSet_24 rfl ?_
        refine V_ishl C dX9_coldSet_25 ?_
        refine V_goto C dX9_coldSet_26 ?_
        refine V_ior C dX9_coldSet_30 ?_
        refine V_istore_n C dX9_coldSet_31 rfl ?_
        refine V_iinc C 1 dX9_coldSet_32 rfl (by decide) rfl ?_
        refine V_goto C dX9_coldSet_35 ?_
        exact V_nx rfl (by simp [setN, or_0, ← nI_1, c20] <;> rfl) (ih (i + 1) (by omega))
  exact lp (nh (σ 74)) 0 (by omega)

theorem c_X9_leastWarmth {l : Launch} {E : En} {σ : Sg}   : MD l yX9_leastWarmth cX9_leastWarmth 3 (some .int) rmX9_leastWarmth E [.ref (ad E 73)] σ (some (.int (lstF (σ 74)))) (σ) := by
  refine MD_of (by decide +kernel) rfl fun x C hE hT hcan => ?_
  have C : CX x cX9_leastWarmth RX9 rmX9_leastWarmth := C
  have h8 : nh (σ 74) ≤ 8 := (hcan.2.1 74 (by omega) (by omega)).2.1
  have hn1 : σ 74 1 = nI (nh (σ 74)) := (hcan.2.1 74 (by omega) (by omega)).1
  refine V_L (L' := [some (.ref (ad E 73)), none, none]) rfl ?_
  refine V_sipush C 400 dX9_leastWarmth_0 (by decide) ?_
  refine V_istore_n C dX9_leastWarmth_3 rfl ?_
  refine V_iconst C 0 dX9_leastWarmth_4 (by decide) ?_
  refine V_istore_n C dX9_leastWarmth_5 rfl ?_
  have lp : ∀ (d i : Nat) , i + d = nh (σ 74) → V x (eA E) (AP x E (σ)) 0 0 6 [some (.ref (ad E 73)), some (.int (lstN (σ 74) 400 i)), some (.int (nI i))] [] := by
    intro d
    induction d with
    | zero =>
      intro i  hi' 
      have hN : i = nh (σ 74) := by omega
      refine V_iload_n C dX9_leastWarmth_6 rfl ?_
      refine V_aload_n C dX9_leastWarmth_7 rfl ?_
      refine V_get C dX9_leastWarmth_8 (rdO (j := 0) 73 rfl rfl rfl rfl rfl) in_X9 (by decide) q907 rfl ?_
      refine V_iconst C 1 dX9_leastWarmth_11 (by decide) ?_
      refine V_iald C 1 rfl rfl rfl dX9_leastWarmth_12 (rdM 74 1 rfl rfl rfl) ?_
      refine V_icmp_ge C dX9_leastWarmth_13 (fun c13 => ?_) (fun c13 => absurd (by rw [hn1, hN] <;> exact nI_le (Nat.le_refl _) (by omega)) c13)
      refine V_iload_n C dX9_leastWarmth_53 rfl ?_
      exact V_iretD C dX9_leastWarmth_54 hT (by rw [hN]; rfl) rfl
    | succ d ih =>
      intro i  hi' 
      refine V_iload_n C dX9_leastWarmth_6 rfl ?_
      refine V_aload_n C dX9_leastWarmth_7 rfl ?_
      refine V_get C dX9_leastWarmth_8 (rdO (j := 0) 73 rfl rfl rfl rfl rfl) in_X9 (by decide) q907 rfl ?_
      refine V_iconst C 1 dX9_leastWarmth_11 (by decide) ?_
      refine V_iald C 1 rfl rfl rfl dX9_leastWarmth_12 (rdM 74 1 rfl rfl rfl) ?_
      refine V_icmp_ge C dX9_leastWarmth_13 (fun c13 => absurd c13 (by rw [hn1]; exact nI_ge (by omega) (by omega))) (fun c13 => ?_)
      refine V_aload_n C dX9_leastWarmth_16 rfl ?_
      refine V_iload_n C dX9_leastWarmth_17 rfl ?_
      refine V_iconst C 0 dX9_leastWarmth_18 (by decide) ?_
      refine V_cv C hE dX9_leastWarmth_19 (c_X9_its (i := i) (j := 0) rfl (by omega) (by omega)) kyX9_its q1016 (isoO 73 rfl rfl rfl rfl) rfl rfl rfl ?_
      refine V_iconst C 4 dX9_leastWarmth_22 (by decide) ?_
      refine V_icmp_eq C dX9_leastWarmth_23 (fun c23 => ?_) (fun c23 => ?_)
      · refine V_iload_n C dX9_leastWarmth_45 rfl ?_
        refine V_istore_n C dX9_leastWarmth_46 rfl ?_
        refine V_iinc C 1 dX9_leastWarmth_47 rfl (by decide) rfl ?_
        refine V_goto C dX9_leastWarmth_50 ?_
        exact V_nx rfl (by simp only [List.set, nI_1]; first | rw [lst_a c23] | rw [lst_b c33] | rw [lst_c c23 c33]) (ih (i + 1) (by omega))
      · refine V_aload_n C dX9_leastWarmth_26 rfl ?_
        refine V_iload_n C dX9_leastWarmth_27 rfl ?_
        refine V_iconst C 1 dX9_leastWarmth_28 (by decide) ?_
        refine V_cv C hE dX9_leastWarmth_29 (c_X9_its (i := i) (j := 1) rfl (by omega) (by omega)) kyX9_its q1016 (isoO 73 rfl rfl rfl rfl) rfl rfl rfl ?_
        refine V_iload_n C dX9_leastWarmth_32 rfl ?_
        refine V_icmp_ge C dX9_leastWarmth_33 (fun c33 => ?_) (fun c33 => ?_)
        · refine V_iload_n C dX9_leastWarmth_45 rfl ?_
          refine V_istore_n C dX9_leastWarmth_46 rfl ?_
          refine V_iinc C 1 dX9_leastWarmth_47 rfl (by decide) rfl ?_
          refine V_goto C dX9_leastWarmth_50 ?_
          exact V_nx rfl (by simp only [List.set, nI_1]; first | rw [lst_a c23] | rw [lst_b c33] | rw [lst_c c23 c33]) (ih (i + 1) (by omega))
        · refine V_aload_n C dX9_leastWarmth_36 rfl ?_
          refine V_iload_n C dX9_leastWarmth_37 rfl ?_
          refine V_iconst C 1 dX9_leastWarmth_38 (by decide) ?_
          refine V_cv C hE dX9_leastWarmth_39 (c_X9_its (i := i) (j := 1) rfl (by omega) (by omega)) kyX9_its q1016 (isoO 73 rfl rfl rfl rfl) rfl rfl rfl ?_
          refine V_goto C dX9_leastWarmth_42 ?_
          refine V_istore_n C dX9_leastWarmth_46 rfl ?_
          refine V_iinc C 1 dX9_leastWarmth_47 rfl (by decide) rfl ?_
          refine V_goto C dX9_leastWarmth_50 ?_
          exact V_nx rfl (by simp only [List.set, nI_1]; first | rw [lst_a c23] | rw [lst_b c33] | rw [lst_c c23 c33]) (ih (i + 1) (by omega))
  exact lp (nh (σ 74)) 0 (by omega)

theorem c_X9_isSpan {l : Launch} {E : En} {σ : Sg} {p0 : Int32}  : MD l yX9_isSpan cX9_isSpan 1 (some .boolean) rmX9_isSpan E [.int p0] σ (some (.int (bI (inP p0 1 96)))) (σ) := by
  refine MD_of (by decide +kernel) rfl fun x C hE hT hcan => ?_
  have C : CX x cX9_isSpan RX9 rmX9_isSpan := C
  refine V_L (L' := [some (.int p0)]) rfl ?_
  refine V_iload_n C dX9_isSpan_0 rfl ?_
  refine V_i2l C dX9_isSpan_1 ?_
  refine V_lconst C 1 dX9_isSpan_2 (by decide) ?_
  refine V_ldc2 C dX9_isSpan_3 q1081 ?_
  refine V_cs C hE dX9_isSpan_6 (c_X9_in (a := p0) (lo := 1) (hi := 96) (by decide +kernel) (by decide +kernel)) kyX9_in q991 rfl rfl rfl ?_
  exact V_zretD C dX9_isSpan_9 hT rfl rfl

theorem c_X9_isStay {l : Launch} {E : En} {σ : Sg} {p0 : Int32}  : MD l yX9_isStay cX9_isStay 1 (some .boolean) rmX9_isStay E [.int p0] σ (some (.int (bI (inP p0 1 12)))) (σ) := by
  refine MD_of (by decide +kernel) rfl fun x C hE hT hcan => ?_
  have C : CX x cX9_isStay RX9 rmX9_isStay := C
  refine V_L (L' := [some (.int p0)]) rfl ?_
  refine V_iload_n C dX9_isStay_0 rfl ?_
  refine V_i2l C dX9_isStay_1 ?_
  refine V_lconst C 1 dX9_isStay_2 (by decide) ?_
  refine V_ldc2 C dX9_isStay_3 q1193 ?_
  refine V_cs C hE dX9_isStay_6 (c_X9_in (a := p0) (lo := 1) (hi := 12) (by decide +kernel) (by decide +kernel)) kyX9_in q991 rfl rfl rfl ?_
  exact V_zretD C dX9_isStay_9 hT rfl rfl

theorem c_X9_isOne {l : Launch} {E : En} {σ : Sg} {p0 : Int32}  : MD l yX9_isOne cX9_isOne 1 (some .boolean) rmX9_isOne E [.int p0] σ (some (.int (bI (inP p0 0 3)))) (σ) := by
  refine MD_of (by decide +kernel) rfl fun x C hE hT hcan => ?_
  have C : CX x cX9_isOne RX9 rmX9_isOne := C
  refine V_L (L' := [some (.int p0)]) rfl ?_
  refine V_iload_n C dX9_isOne_0 rfl ?_
  refine V_i2l C dX9_isOne_1 ?_
  refine V_lconst C 0 dX9_isOne_2 (by decide) ?_
  refine V_ldc2 C dX9_isOne_3 q1383 ?_
  refine V_cs C hE dX9_isOne_6 (c_X9_in (a := p0) (lo := 0) (hi := 3) (by decide +kernel) (by decide +kernel)) kyX9_in q991 rfl rfl rfl ?_
  exact V_zretD C dX9_isOne_9 hT rfl rfl

theorem c_X9_isLetter {l : Launch} {E : En} {σ : Sg} {p0 : Int32}  : MD l yX9_isLetter cX9_isLetter 1 (some .boolean) rmX9_isLetter E [.int p0] σ (some (.int (bI (inP p0 97 122)))) (σ) := by
  refine MD_of (by decide +kernel) rfl fun x C hE hT hcan => ?_
  have C : CX x cX9_isLetter RX9 rmX9_isLetter := C
  refine V_L (L' := [some (.int p0)]) rfl ?_
  refine V_iload_n C dX9_isLetter_0 rfl ?_
  refine V_i2l C dX9_isLetter_1 ?_
  refine V_ldc2 C dX9_isLetter_2 q1310 ?_
  refine V_ldc2 C dX9_isLetter_5 q1311 ?_
  refine V_cs C hE dX9_isLetter_8 (c_X9_in (a := p0) (lo := 97) (hi := 122) (by decide +kernel) (by decide +kernel)) kyX9_in q991 rfl rfl rfl ?_
  exact V_zretD C dX9_isLetter_11 hT rfl rfl

theorem c_X9_isDigit {l : Launch} {E : En} {σ : Sg} {p0 : Int32}  : MD l yX9_isDigit cX9_isDigit 1 (some .boolean) rmX9_isDigit E [.int p0] σ (some (.int (bI (inP p0 48 57)))) (σ) := by
  refine MD_of (by decide +kernel) rfl fun x C hE hT hcan => ?_
  have C : CX x cX9_isDigit RX9 rmX9_isDigit := C
  refine V_L (L' := [some (.int p0)]) rfl ?_
  refine V_iload_n C dX9_isDigit_0 rfl ?_
  refine V_i2l C dX9_isDigit_1 ?_
  refine V_ldc2 C dX9_isDigit_2 q1315 ?_
  refine V_ldc2 C dX9_isDigit_5 q1316 ?_
  refine V_cs C hE dX9_isDigit_8 (c_X9_in (a := p0) (lo := 48) (hi := 57) (by decide +kernel) (by decide +kernel)) kyX9_in q991 rfl rfl rfl ?_
  exact V_zretD C dX9_isDigit_11 hT rfl rfl

theorem c_X9_isFixed {l : Launch} {E : En} {σ : Sg} {p0 : Int32} (hq : inP (σ 74 0) 0 9999) (hp : inP p0 0 9999) : MD l yX9_isFixed cX9_isFixed 2 (some .boolean) rmX9_isFixed E [.ref (ad E 73), .int p0] σ (some (.int (bI (0 < σ 74 3 ∨ σ 74 1 = 0 ∨ 9999 - p0 < σ 74 0)))) (σ) := by
  refine MD_of (by decide +kernel) rfl fun x C hE hT hcan => ?_
  have C : CX x cX9_isFixed RX9 rmX9_isFixed := C
  refine V_L (L' := [some (.ref (ad E 73)), some (.int p0)]) rfl ?_
  refine V_aload_n C dX9_isFixed_0 rfl ?_
  refine V_cv C hE dX9_isFixed_1 (c_X9_isGoing) kyX9_isGoing q1069 (isoO 73 rfl rfl rfl rfl) rfl rfl rfl ?_
  refine V_ifne_b C dX9_isFixed_4 (fun c4 => ?_) (fun c4 => ?_)
  · refine V_iconst C 1 dX9_isFixed_24 (by decide) ?_
    refine V_goto C dX9_isFixed_25 ?_
    exact V_zretD C dX9_isFixed_29 hT (by first | exact (bI_t (Or.inl c4)).symm | exact (bI_t (Or.inr (Or.inl c13))).symm | exact (bI_t (Or.inr (Or.inr c21))).symm | exact (bI_f (fun q => q.elim c4 (fun q => q.elim c13 c21))).symm) rfl
  · refine V_aload_n C dX9_isFixed_7 rfl ?_
    refine V_get C dX9_isFixed_8 (rdO (j := 0) 73 rfl rfl rfl rfl rfl) in_X9 (by decide) q907 rfl ?_
    refine V_iconst C 1 dX9_isFixed_11 (by decide) ?_
    refine V_iald C 1 rfl rfl rfl dX9_isFixed_12 (rdM 74 1 rfl rfl rfl) ?_
    refine V_if_eq C dX9_isFixed_13 (fun c13 => ?_) (fun c13 => ?_)
    · refine V_iconst C 1 dX9_isFixed_24 (by decide) ?_
      refine V_goto C dX9_isFixed_25 ?_
      exact V_zretD C dX9_isFixed_29 hT (by first | exact (bI_t (Or.inl c4)).symm | exact (bI_t (Or.inr (Or.inl c13))).symm | exact (bI_t (Or.inr (Or.inr c21))).symm | exact (bI_f (fun q => q.elim c4 (fun q => q.elim c13 c21))).symm) rfl
    · refine V_aload_n C dX9_isFixed_16 rfl ?_
      refine V_iload_n C dX9_isFixed_17 rfl ?_
      refine V_cv C hE dX9_isFixed_18 (c_X9_isTooLate hq hp) kyX9_isTooLate q1082 (isoO 73 rfl rfl rfl rfl) rfl rfl rfl ?_
      refine V_ifeq_b C dX9_isFixed_21 (fun c21 => ?_) (fun c21 => ?_)
      · refine V_iconst C 0 dX9_isFixed_28 (by decide) ?_
        exact V_zretD C dX9_isFixed_29 hT (by first | exact (bI_t (Or.inl c4)).symm | exact (bI_t (Or.inr (Or.inl c13))).symm | exact (bI_t (Or.inr (Or.inr c21))).symm | exact (bI_f (fun q => q.elim c4 (fun q => q.elim c13 c21))).symm) rfl
      · refine V_iconst C 1 dX9_isFixed_24 (by decide) ?_
        refine V_goto C dX9_isFixed_25 ?_
        exact V_zretD C dX9_isFixed_29 hT (by first | exact (bI_t (Or.inl c4)).symm | exact (bI_t (Or.inr (Or.inl c13))).symm | exact (bI_t (Or.inr (Or.inr c21))).symm | exact (bI_f (fun q => q.elim c4 (fun q => q.elim c13 c21))).symm) rfl

theorem c_X9_isBarred {l : Launch} {E : En} {σ : Sg}   : MD l yX9_isBarred cX9_isBarred 1 (some .boolean) rmX9_isBarred E [.ref (ad E 73)] σ (some (.int (bI (0 < σ 74 3 ∨ σ 74 1 = 0 ∨ 9700 < σ 74 0)))) (σ) := by
  refine MD_of (by decide +kernel) rfl fun x C hE hT hcan => ?_
  have C : CX x cX9_isBarred RX9 rmX9_isBarred := C
  refine V_L (L' := [some (.ref (ad E 73))]) rfl ?_
  refine V_aload_n C dX9_isBarred_0 rfl ?_
  refine V_cv C hE dX9_isBarred_1 (c_X9_isGoing) kyX9_isGoing q1069 (isoO 73 rfl rfl rfl rfl) rfl rfl rfl ?_
  refine V_ifne_b C dX9_isBarred_4 (fun c4 => ?_) (fun c4 => ?_)
  · refine V_iconst C 1 dX9_isBarred_26 (by decide) ?_
    refine V_goto C dX9_isBarred_27 ?_
    exact V_zretD C dX9_isBarred_31 hT (by first | exact (bI_t (Or.inl c4)).symm | exact (bI_t (Or.inr (Or.inl c13))).symm | exact (bI_t (Or.inr (Or.inr c23))).symm | exact (bI_f (fun q => q.elim c4 (fun q => q.elim c13 c23))).symm) rfl
  · refine V_aload_n C dX9_isBarred_7 rfl ?_
    refine V_get C dX9_isBarred_8 (rdO (j := 0) 73 rfl rfl rfl rfl rfl) in_X9 (by decide) q907 rfl ?_
    refine V_iconst C 1 dX9_isBarred_11 (by decide) ?_
    refine V_iald C 1 rfl rfl rfl dX9_isBarred_12 (rdM 74 1 rfl rfl rfl) ?_
    refine V_if_eq C dX9_isBarred_13 (fun c13 => ?_) (fun c13 => ?_)
    · refine V_iconst C 1 dX9_isBarred_26 (by decide) ?_
      refine V_goto C dX9_isBarred_27 ?_
      exact V_zretD C dX9_isBarred_31 hT (by first | exact (bI_t (Or.inl c4)).symm | exact (bI_t (Or.inr (Or.inl c13))).symm | exact (bI_t (Or.inr (Or.inr c23))).symm | exact (bI_f (fun q => q.elim c4 (fun q => q.elim c13 c23))).symm) rfl
    · refine V_aload_n C dX9_isBarred_16 rfl ?_
      refine V_sipush C 9700 dX9_isBarred_17 (by decide) ?_
      refine V_cv C hE dX9_isBarred_20 (c_X9_isAbove) kyX9_isAbove q1162 (isoO 73 rfl rfl rfl rfl) rfl rfl rfl ?_
      refine V_ifeq_b C dX9_isBarred_23 (fun c23 => ?_) (fun c23 => ?_)
      · refine V_iconst C 0 dX9_isBarred_30 (by decide) ?_
        exact V_zretD C dX9_isBarred_31 hT (by first | exact (bI_t (Or.inl c4)).symm | exact (bI_t (Or.inr (Or.inl c13))).symm | exact (bI_t (Or.inr (Or.inr c23))).symm | exact (bI_f (fun q => q.elim c4 (fun q => q.elim c13 c23))).symm) rfl
      · refine V_iconst C 1 dX9_isBarred_26 (by decide) ?_
        refine V_goto C dX9_isBarred_27 ?_
        exact V_zretD C dX9_isBarred_31 hT (by first | exact (bI_t (Or.inl c4)).symm | exact (bI_t (Or.inr (Or.inl c13))).symm | exact (bI_t (Or.inr (Or.inr c23))).symm | exact (bI_f (fun q => q.elim c4 (fun q => q.elim c13 c23))).symm) rfl

theorem c_X9_narrowed {l : Launch} {E : En} {σ : Sg} {p0 p1 : Int32}  : MD l yX9_narrowed cX9_narrowed 2 (some .int) rmX9_narrowed E [.int p0, .int p1] σ (some (.int (cutV p0 p1))) (σ) := by
  refine MD_of (by decide +kernel) rfl fun x C hE hT hcan => ?_
  have C : CX x cX9_narrowed RX9 rmX9_narrowed := C
  refine V_L (L' := [some (.int p0), some (.int p1)]) rfl ?_
  refine V_iload_n C dX9_narrowed_0 rfl ?_
  refine V_bipush C 8 dX9_narrowed_1 (by decide) ?_
  refine V_icmp_ne C dX9_narrowed_3 (fun c3 => ?_) (fun c3 => ?_)
  · refine V_iload_n C dX9_narrowed_11 rfl ?_
    refine V_bipush C 16 dX9_narrowed_12 (by decide) ?_
    refine V_icmp_ne C dX9_narrowed_14 (fun c14 => ?_) (fun c14 => ?_)
    · refine V_iload_n C dX9_narrowed_22 rfl ?_
      exact V_iretD C dX9_narrowed_23 hT (by simp [cutV, c3, c14]) rfl
    · refine V_iload_n C dX9_narrowed_17 rfl ?_
      refine V_i2s C dX9_narrowed_18 ?_
      refine V_goto C dX9_narrowed_19 ?_
      exact V_iretD C dX9_narrowed_23 hT (by simp [cutV, c3, c14]) rfl
  · refine V_iload_n C dX9_narrowed_6 rfl ?_
    refine V_i2b C dX9_narrowed_7 ?_
    refine V_goto C dX9_narrowed_8 ?_
    exact V_iretD C dX9_narrowed_23 hT (by simp [cutV, c3]) rfl

theorem c_X9_wrongB {l : Launch} {E : En} {σ : Sg} {p0 : Int32} (hn : ¬ inP p0 0 3) : MD l yX9_wrong cX9_wrong 2 (some .int) rmX9_wrong E [.ref (ad E 73), .int p0] σ (some (.int (-1000001))) (σ) := by
  refine MD_of (by decide +kernel) rfl fun x C hE hT hcan => ?_
  have C : CX x cX9_wrong RX9 rmX9_wrong := C
  refine V_L (L' := [some (.ref (ad E 73)), some (.int p0)]) rfl ?_
  refine V_iload_n C dX9_wrong_0 rfl ?_
  refine V_cs C hE dX9_wrong_1 (c_X9_isOne) kyX9_isOne q1380 rfl rfl rfl ?_
  refine V_ifne_b C dX9_wrong_4 (fun c4 => absurd c4 (hn)) (fun c4 => ?_)
  refine V_ldc C dX9_wrong_7 q994 ?_
  refine V_goto C dX9_wrong_9 ?_
  exact V_iretD C dX9_wrong_28 hT rfl rfl

theorem c_X9_wrong {l : Launch} {E : En} {σ : Sg} {s : Nat} (hs : s < 4) : MD l yX9_wrong cX9_wrong 2 (some .int) rmX9_wrong E [.ref (ad E 73), .int (nI s)] σ (some (.int (if σ 81 s = 0 then -1000006 else 0))) (σ) := by
  refine MD_of (by decide +kernel) rfl fun x C hE hT hcan => ?_
  have C : CX x cX9_wrong RX9 rmX9_wrong := C
  refine V_L (L' := [some (.ref (ad E 73)), some (.int (nI s))]) rfl ?_
  refine V_iload_n C dX9_wrong_0 rfl ?_
  refine V_cs C hE dX9_wrong_1 (c_X9_isOne) kyX9_isOne q1380 rfl rfl rfl ?_
  refine V_ifne_b C dX9_wrong_4 (fun c4 => ?_) (fun c4 => absurd (⟨nI_pos' (by omega), nI_le (a := s) (b := 3) (by omega) (by omega)⟩) c4)
  refine V_aload_n C dX9_wrong_12 rfl ?_
  refine V_get C dX9_wrong_13 (rdO (j := 22) 73 rfl rfl rfl rfl rfl) in_X9 (by decide) q929 rfl ?_
  refine V_iload_n C dX9_wrong_16 rfl ?_
  refine V_ialdN C s rfl (hs) (by omega) dX9_wrong_17 (rdOA 81 rfl rfl rfl) ?_
  refine V_if_ne C dX9_wrong_18 (fun c18 => ?_) (fun c18 => ?_)
  · refine V_iconst C 0 dX9_wrong_27 (by decide) ?_
    exact V_iretD C dX9_wrong_28 hT (by first | rw [if_pos c18] | rw [if_neg c18]) rfl
  · refine V_ldc_w C dX9_wrong_21 q1374 ?_
    refine V_goto C dX9_wrong_24 ?_
    exact V_iretD C dX9_wrong_28 hT (by first | rw [if_pos c18] | rw [if_neg c18]) rfl

theorem c_X9_saves {l : Launch} {E : En} {σ : Sg}   : MD l yX9_saves cX9_saves 2 none rmX9_saves E [.ref (ad E 73)] σ none (us σ 76 (σ 74)) := by
  refine MD_of (by decide +kernel) rfl fun x C hE hT hcan => ?_
  have C : CX x cX9_saves RX9 rmX9_saves := C
  refine V_L (L' := [some (.ref (ad E 73)), none]) rfl ?_
  refine V_iconst C 0 dX9_saves_0 (by decide) ?_
  refine V_istore_n C dX9_saves_1 rfl ?_
  refine V_raw fun ρ hA => ?_
  have lp : ∀ (d i : Nat) , i + d = 73 → V x (eA E) (RP x E (us ρ 76 (cpO (ρ 76) (ρ 74) 0 0 i))) 0 0 2 [some (.ref (ad E 73)), some (.int (nI i))] [] := by
    intro d
    induction d with
    | zero =>
      intro i  hi' 
      have hN : i = 73 := by omega
      refine V_iload_n C dX9_saves_2 rfl ?_
      refine V_bipush C 73 dX9_saves_3 (by decide) ?_
      refine V_icmp_ge C dX9_saves_5 (fun c5 => ?_) (fun c5 => absurd (by rw [hN]; decide) c5)
      subst hN
      refine V_pic (hA.cp (c := 76) (d := 74) (by omega) (by omega) (by omega) (by omega)) ?_
      exact V_retD C dX9_saves_26 hT rfl
    | succ d ih =>
      intro i  hi' 
      refine V_iload_n C dX9_saves_2 rfl ?_
      refine V_bipush C 73 dX9_saves_3 (by decide) ?_
      refine V_icmp_ge C dX9_saves_5 (fun c5 => absurd c5 (nI_ge (b := 73) (by omega) (by omega))) (fun c5 => ?_)
      refine V_aload_n C dX9_saves_8 rfl ?_
      refine V_get C dX9_saves_9 (rdF (j := 2) (c := 73) (by have := eN_ge E; omega) rfl rfl rfl) in_X9 (by decide) q909 rfl ?_
      refine V_iload_n C dX9_saves_12 rfl ?_
      refine V_aload_n C dX9_saves_13 rfl ?_
      refine V_get C dX9_saves_14 (rdF (j := 0) (c := 73) (by have := eN_ge E; omega) rfl rfl rfl) in_X9 (by decide) q907 rfl ?_
      refine V_iload_n C dX9_saves_17 rfl ?_
      refine V_ialdN C i rfl (by omega) (by omega) dX9_saves_18 (rdA (c := 74) (by have := eN_ge E; omega) rfl) ?_
      refine V_iastN C i rfl (by omega) (by omega) dX9_saves_19 (wrA (c := 76) (by have := eN_ge E; omega) (fun _ => rfl)) ?_
      refine V_iinc C 1 dX9_saves_20 rfl (by decide) rfl ?_
      refine V_goto C dX9_saves_23 ?_
      exact V_nR (by rw [us_us, us_s, us_n (show (74:Nat) ≠ 76 by decide)]; have e := cpO_s (g := ρ 76) (f := ρ 74) (a := 0) (b := 0) (i := i) (v := ρ 74 i) (by rw [Nat.zero_add]); rw [Nat.zero_add] at e; rw [e]) (by simp [← nI_1] <;> rfl) (ih (i + 1) (by omega))
  exact V_nR (by rw [cpO_0, us_id]) rfl (lp 73 0 (by omega))

theorem c_X9_putsBack {l : Launch} {E : En} {σ : Sg}   : MD l yX9_putsBack cX9_putsBack 2 none rmX9_putsBack E [.ref (ad E 73)] σ none (us σ 74 (σ 76)) := by
  refine MD_of (by decide +kernel) rfl fun x C hE hT hcan => ?_
  have C : CX x cX9_putsBack RX9 rmX9_putsBack := C
  refine V_L (L' := [some (.ref (ad E 73)), none]) rfl ?_
  refine V_iconst C 0 dX9_putsBack_0 (by decide) ?_
  refine V_istore_n C dX9_putsBack_1 rfl ?_
  refine V_raw fun ρ hA => ?_
  have lp : ∀ (d i : Nat) , i + d = 73 → V x (eA E) (RP x E (us ρ 74 (cpO (ρ 74) (ρ 76) 0 0 i))) 0 0 2 [some (.ref (ad E 73)), some (.int (nI i))] [] := by
    intro d
    induction d with
    | zero =>
      intro i  hi' 
      have hN : i = 73 := by omega
      refine V_iload_n C dX9_putsBack_2 rfl ?_
      refine V_bipush C 73 dX9_putsBack_3 (by decide) ?_
      refine V_icmp_ge C dX9_putsBack_5 (fun c5 => ?_) (fun c5 => absurd (by rw [hN]; decide) c5)
      subst hN
      refine V_pic (hA.cp (c := 74) (d := 76) (by omega) (by omega) (by omega) (by omega)) ?_
      exact V_retD C dX9_putsBack_26 hT rfl
    | succ d ih =>
      intro i  hi' 
      refine V_iload_n C dX9_putsBack_2 rfl ?_
      refine V_bipush C 73 dX9_putsBack_3 (by decide) ?_
      refine V_icmp_ge C dX9_putsBack_5 (fun c5 => absurd c5 (nI_ge (b := 73) (by omega) (by omega))) (fun c5 => ?_)
      refine V_aload_n C dX9_putsBack_8 rfl ?_
      refine V_get C dX9_putsBack_9 (rdF (j := 0) (c := 73) (by have := eN_ge E; omega) rfl rfl rfl) in_X9 (by decide) q907 rfl ?_
      refine V_iload_n C dX9_putsBack_12 rfl ?_
      refine V_aload_n C dX9_putsBack_13 rfl ?_
      refine V_get C dX9_putsBack_14 (rdF (j := 2) (c := 73) (by have := eN_ge E; omega) rfl rfl rfl) in_X9 (by decide) q909 rfl ?_
      refine V_iload_n C dX9_putsBack_17 rfl ?_
      refine V_ialdN C i rfl (by omega) (by omega) dX9_putsBack_18 (rdA (c := 76) (by have := eN_ge E; omega) rfl) ?_
      refine V_iastN C i rfl (by omega) (by omega) dX9_putsBack_19 (wrA (c := 74) (by have := eN_ge E; omega) (fun _ => rfl)) ?_
      refine V_iinc C 1 dX9_putsBack_20 rfl (by decide) rfl ?_
      refine V_goto C dX9_putsBack_23 ?_
      exact V_nR (by rw [us_us, us_s, us_n (show (76:Nat) ≠ 74 by decide)]; have e := cpO_s (g := ρ 74) (f := ρ 76) (a := 0) (b := 0) (i := i) (v := ρ 76 i) (by rw [Nat.zero_add]); rw [Nat.zero_add] at e; rw [e]) (by simp [← nI_1] <;> rfl) (ih (i + 1) (by omega))
  exact V_nR (by rw [cpO_0, us_id]) rfl (lp 73 0 (by omega))

