/-! THE PICTURE: villages as rows of 73 numbers, in the order of the reference; what lies behind the last house is 0 in the picture, and anything in the memory -/
def nh (f : Nat → Int32) : Nat := (f 1).toNatClampNeg
def hf (f : Nat → Int32) (i j : Nat) : Int32 := f (15 + 6 * i + j)
def uh (f : Nat → Int32) (i j : Nat) (y : Int32) : Nat → Int32 := upd f (15 + 6 * i + j) y
def Can (f : Nat → Int32) : Prop := f 1 = nI (nh f) ∧ nh f ≤ 8 ∧ (∀ k, 73 ≤ k → f k = 0) ∧ ∀ i j, nh f ≤ i → i < 8 → j < 6 → hf f i j = 0
def vsl : Nat → Nat
  | 3 => 1
  | 4 => 5
  | 5 => 6
  | 6 => 2
  | 7 => 3
  | 8 => 0
  | 9 => 4
  | _ => 7
theorem upd_s (f : Nat → Int32) (k : Nat) (x : Int32) : upd f k x k = x := by simp [upd]
theorem upd_n {f : Nat → Int32} {k j : Nat} {x : Int32} (h : j ≠ k) : upd f k x j = f j := by simp [upd, h]
theorem upd_id (f : Nat → Int32) (k : Nat) : upd f k (f k) = f := by
  funext j; by_cases h : j = k
  · subst h; rw [upd_s]
  · rw [upd_n h]
theorem upd_upd (f : Nat → Int32) (k : Nat) (x y : Int32) : upd (upd f k x) k y = upd f k y := by
  funext j; by_cases h : j = k
  · subst h; rw [upd_s, upd_s]
  · rw [upd_n h, upd_n h, upd_n h]
theorem hf_uh_s (f : Nat → Int32) (i j : Nat) (y : Int32) : hf (uh f i j y) i j = y := upd_s _ _ _
theorem hf_uh_n {f : Nat → Int32} {i j i' j' : Nat} {y : Int32} (h : ¬ (i' = i ∧ j' = j)) (hj : j < 6) (hj' : j' < 6) : hf (uh f i j y) i' j' = hf f i' j' := by
  unfold hf uh; exact upd_n (by omega)
theorem uh_lo {f : Nat → Int32} {i j k : Nat} {y : Int32} (h : k < 15) : uh f i j y k = f k := upd_n (by omega)
theorem uh_hi {f : Nat → Int32} {i j k : Nat} {y : Int32} (h : 63 ≤ k) (hi : i < 8) (hj : j < 6) : uh f i j y k = f k := upd_n (by omega)
theorem nh_uh {f : Nat → Int32} {i j : Nat} {y : Int32} : nh (uh f i j y) = nh f := by unfold nh; rw [uh_lo (by omega)]
theorem nh_upd {f : Nat → Int32} {k : Nat} {y : Int32} (h : k ≠ 1) : nh (upd f k y) = nh f := by unfold nh; rw [upd_n (Ne.symm h)]
theorem hf_upd {f : Nat → Int32} {k i j : Nat} {y : Int32} (h : k < 15 ∨ 63 ≤ k) (hi : i < 8) (hj : j < 6) : hf (upd f k y) i j = hf f i j := by
  unfold hf; exact upd_n (by omega)
theorem Can_uh {f : Nat → Int32} {i j : Nat} {y : Int32} (h : Can f) (hi : i < nh f) (hj : j < 6) : Can (uh f i j y) := by
  obtain ⟨h1, h2, h3, h4⟩ := h
  refine ⟨by rw [nh_uh, uh_lo (by omega)]; exact h1, by rw [nh_uh]; exact h2, fun k hk => ?_, fun i' j' hi' hi8 hj' => ?_⟩
  · rw [uh_hi (by omega) (by omega) hj]; exact h3 k hk
  · rw [nh_uh] at hi'
    rw [hf_uh_n (by omega) hj hj']; exact h4 i' j' hi' hi8 hj'
theorem Can_upd {f : Nat → Int32} {k : Nat} {y : Int32} (h : Can f) (hk : k ≠ 1) (hk2 : k < 15 ∨ 63 ≤ k) (hk3 : k < 73) : Can (upd f k y) := by
  obtain ⟨h1, h2, h3, h4⟩ := h
  refine ⟨by rw [nh_upd hk, upd_n (Ne.symm hk)]; exact h1, by rw [nh_upd hk]; exact h2, fun k' hk' => ?_, fun i' j' hi' hi8 hj' => ?_⟩
  · rw [upd_n (by omega)]; exact h3 k' hk'
  · rw [nh_upd hk] at hi'
    rw [hf_upd hk2 hi8 hj']; exact h4 i' j' hi' hi8 hj'
/-- a village of the system -/
def AbV (f : Nat → Int32) (ρ : Sg) (v : Nat) : Prop := Can f ∧ (∀ j, 3 ≤ j → j ≤ 10 → ρ (12*v) j = f (vsl j)) ∧ (∀ i, i < 7 → ρ (12*v+2) i = f (8+i)) ∧ (∀ i, i < 10 → ρ (12*v+3) i = f (63+i)) ∧ ∀ i j, i < nh f → j < 6 → ρ (12*v+4+i) j = hf f i j
/-- a row of the reference -/
def Msk (f g : Nat → Int32) : Prop := Can f ∧ (∀ k, k < 15 → g k = f k) ∧ (∀ k, 63 ≤ k → k < 73 → g k = f k) ∧ ∀ i j, i < nh f → j < 6 → g (15+6*i+j) = hf f i j
def ABS (σ ρ : Sg) : Prop := (∀ v, v < 5 → AbV (σ v) ρ v ∧ ρ (12*v) 11 = σ (5+v) 0 ∧ ρ (12*v) 12 = σ (5+v) 1 ∧ (σ (5+v) 1 = 0 ∨ σ (5+v) 1 = 1)) ∧ (∀ c, 60 ≤ c → c ≠ 74 → c ≠ 75 → c ≠ 76 → c ≠ 78 → σ c = ρ c) ∧ (∀ c, 74 ≤ c → c ≤ 76 → Msk (σ c) (ρ c)) ∧ Msk (σ 10) (ρ 78) ∧ Msk (σ 11) (fun k => ρ 78 (73+k))
theorem AbV.congr {f : Nat → Int32} {ρ ρ' : Sg} {v : Nat} (h : AbV f ρ v) (e : ∀ c, 12*v ≤ c → c < 12*v+12 → ρ' c = ρ c) : AbV f ρ' v := by
  obtain ⟨h1, h2, h3, h4, h5⟩ := h
  refine ⟨h1, fun j a b => by rw [e _ (by omega) (by omega)]; exact h2 j a b, fun i a => by rw [e _ (by omega) (by omega)]; exact h3 i a, fun i a => by rw [e _ (by omega) (by omega)]; exact h4 i a, fun i j a b => ?_⟩
  have := h1.2.1
  rw [e _ (by omega) (by omega)]; exact h5 i j a b
/-- a write into village v's cells -/
theorem ABS.vil {σ ρ : Sg} {v c : Nat} {f g : Nat → Int32} (h : ABS σ ρ) (hv : v < 5) (h1 : 12*v ≤ c) (h2 : c < 12*v+12) (ha : AbV f (us ρ c g) v) (hl : us ρ c g (12*v) 11 = ρ (12*v) 11) (hl2 : us ρ c g (12*v) 12 = ρ (12*v) 12) : ABS (us σ v f) (us ρ c g) := by
  obtain ⟨a, b, d, m, m2⟩ := h
  refine ⟨fun v' hv' => ?_, fun c' q q1 q2 q3 q4 => ?_, fun c' q q1 => ?_, ?_, ?_⟩
  · by_cases e : v' = v
    · subst e
      rw [us_s, us_n (show 5 + v' ≠ v' by omega), hl, hl2]
      exact ⟨ha, (a v' hv').2⟩
    · rw [us_n e, us_n (show 5 + v' ≠ v by omega), us_n (show 12 * v' ≠ c by omega)]
      exact ⟨(a v' hv').1.congr (fun c' _ _ => us_n (by omega)), (a v' hv').2⟩
  · rw [us_n (by omega), us_n (by omega)]; exact b c' q q1 q2 q3 q4
  · rw [us_n (by omega), us_n (by omega)]; exact d c' q q1
  · rw [us_n (by omega), us_n (by omega)]; exact m
  · rw [us_n (show (11:Nat) ≠ v by omega), us_n (show (78:Nat) ≠ c by omega)]; exact m2
theorem abs_house {σ ρ : Sg} {v i j : Nat} {y : Int32} (h : ABS σ ρ) (hv : v < 5) (hi : i < nh (σ v)) (hj : j < 6) : ABS (us σ v (uh (σ v) i j y)) (us ρ (12*v+4+i) (upd (ρ (12*v+4+i)) j y)) := by
  obtain ⟨h1, h2, h3, h4, h5⟩ := (h.1 v hv).1
  have h8 := h1.2.1
  refine h.vil hv (by omega) (by omega) ⟨Can_uh h1 hi hj, fun j' a b => ?_, fun i' a => ?_, fun i' a => ?_, fun i' j' a b => ?_⟩ (by rw [us_n (by omega)]) (by rw [us_n (by omega)])
  · rw [us_n (by omega), h2 j' a b, uh_lo (by unfold vsl; split <;> omega)]
  · rw [us_n (by omega), h3 i' a, uh_lo (by omega)]
  · rw [us_n (by omega), h4 i' a, uh_hi (by omega) (by omega) hj]
  · rw [nh_uh] at a
    by_cases e : i' = i
    · subst e
      rw [us_s]
      by_cases ej : j' = j
      · subst ej; rw [upd_s, hf_uh_s]
      · rw [upd_n ej, hf_uh_n (by omega) hj b]; exact h5 i' j' a b
    · rw [us_n (by omega), hf_uh_n (by omega) hj b]; exact h5 i' j' a b
theorem vsl_inj : ∀ j, j ≤ 10 → ∀ j', j' ≤ 10 → 3 ≤ j → 3 ≤ j' → vsl j = vsl j' → j = j' := by decide
theorem vsl_lt : ∀ j, vsl j < 8 := by intro j; unfold vsl; split <;> omega
theorem vsl_1 : ∀ j, j ≤ 10 → 3 < j → vsl j ≠ 1 := by decide
theorem abs_scal {σ ρ : Sg} {v j : Nat} {y : Int32} (h : ABS σ ρ) (hv : v < 5) (hj : 3 < j) (hj2 : j ≤ 10) : ABS (us σ v (upd (σ v) (vsl j) y)) (us ρ (12*v) (upd (ρ (12*v)) j y)) := by
  obtain ⟨h1, h2, h3, h4, h5⟩ := (h.1 v hv).1
  have h8 := h1.2.1
  have hs := vsl_lt j
  have hs1 := vsl_1 j hj2 hj
  refine h.vil hv (by omega) (by omega) ⟨Can_upd h1 hs1 (by omega) (by omega), fun j' a b => ?_, fun i' a => ?_, fun i' a => ?_, fun i' j' a b => ?_⟩ (by rw [us_s, upd_n (by omega)]) (by rw [us_s, upd_n (by omega)])
  · rw [us_s]
    by_cases e : j' = j
    · subst e; rw [upd_s, upd_s]
    · rw [upd_n e, upd_n (fun q => e (vsl_inj j' b j hj2 a (by omega) q))]; exact h2 j' a b
  · rw [us_n (by omega), h3 i' a, upd_n (by omega)]
  · rw [us_n (by omega), h4 i' a, upd_n (by omega)]
  · rw [nh_upd hs1] at a
    rw [us_n (by omega), hf_upd (by omega) (by omega) b]; exact h5 i' j' a b
theorem abs_steep {σ ρ : Sg} {v i : Nat} {y : Int32} (h : ABS σ ρ) (hv : v < 5) (hi : i < 7) : ABS (us σ v (upd (σ v) (8+i) y)) (us ρ (12*v+2) (upd (ρ (12*v+2)) i y)) := by
  obtain ⟨h1, h2, h3, h4, h5⟩ := (h.1 v hv).1
  have h8 := h1.2.1
  refine h.vil hv (by omega) (by omega) ⟨Can_upd h1 (by omega) (by omega) (by omega), fun j' a b => ?_, fun i' a => ?_, fun i' a => ?_, fun i' j' a b => ?_⟩ (by rw [us_n (by omega)]) (by rw [us_n (by omega)])
  · have := vsl_lt j'
    rw [us_n (by omega), h2 j' a b, upd_n (by omega)]
  · rw [us_s]
    by_cases e : i' = i
    · subst e; rw [upd_s, upd_s]
    · rw [upd_n e, upd_n (by omega)]; exact h3 i' a
  · rw [us_n (by omega), h4 i' a, upd_n (by omega)]
  · rw [nh_upd (by omega)] at a
    rw [us_n (by omega), hf_upd (by omega) (by omega) b]; exact h5 i' j' a b
theorem abs_spot {σ ρ : Sg} {v i : Nat} {y : Int32} (h : ABS σ ρ) (hv : v < 5) (hi : i < 10) : ABS (us σ v (upd (σ v) (63+i) y)) (us ρ (12*v+3) (upd (ρ (12*v+3)) i y)) := by
  obtain ⟨h1, h2, h3, h4, h5⟩ := (h.1 v hv).1
  have h8 := h1.2.1
  refine h.vil hv (by omega) (by omega) ⟨Can_upd h1 (by omega) (by omega) (by omega), fun j' a b => ?_, fun i' a => ?_, fun i' a => ?_, fun i' j' a b => ?_⟩ (by rw [us_n (by omega)]) (by rw [us_n (by omega)])
  · have := vsl_lt j'
    rw [us_n (by omega), h2 j' a b, upd_n (by omega)]
  · rw [us_n (by omega), h3 i' a, upd_n (by omega)]
  · rw [us_s]
    by_cases e : i' = i
    · subst e; rw [upd_s, upd_s]
    · rw [upd_n e, upd_n (by omega)]; exact h4 i' a
  · rw [nh_upd (by omega)] at a
    rw [us_n (by omega), hf_upd (by omega) (by omega) b]; exact h5 i' j' a b
theorem abs_least {σ ρ : Sg} {v j : Nat} {y : Int32} (h : ABS σ ρ) (hv : v < 5) (hj : j < 2) (hy : j = 1 → y = 0 ∨ y = 1) : ABS (us σ (5+v) (upd (σ (5+v)) j y)) (us ρ (12*v) (upd (ρ (12*v)) (11+j) y)) := by
  obtain ⟨a, b, d, m, m2⟩ := h
  refine ⟨fun v' hv' => ?_, fun c' q q1 q2 q3 q4 => ?_, fun c' q q1 => ?_, ?_, ?_⟩
  · obtain ⟨⟨h1, h2, h3, h4, h5⟩, e11, e12, e13⟩ := a v' hv'
    have h8 := h1.2.1
    by_cases e : v' = v
    · subst e
      rw [us_n (show v' ≠ 5 + v' by omega), us_s, us_s]
      refine ⟨⟨h1, fun j' p q => by rw [us_s, upd_n (by omega)]; exact h2 j' p q, fun i p => by rw [us_n (by omega)]; exact h3 i p, fun i p => by rw [us_n (by omega)]; exact h4 i p, fun i j' p q => by rw [us_n (by omega)]; exact h5 i j' p q⟩, ?_, ?_, ?_⟩
      · rcases (show j = 0 ∨ j = 1 by omega) with rfl | rfl
        · rw [upd_s, upd_s]
        · rw [upd_n (by omega), upd_n (by omega)]; exact e11
      · rcases (show j = 0 ∨ j = 1 by omega) with rfl | rfl
        · rw [upd_n (by omega), upd_n (by omega)]; exact e12
        · rw [upd_s, upd_s]
      · rcases (show j = 0 ∨ j = 1 by omega) with rfl | rfl
        · rw [upd_n (by omega)]; exact e13
        · rw [upd_s]; exact hy rfl
    · rw [us_n (show v' ≠ 5 + v by omega), us_n (show 5 + v' ≠ 5 + v by omega), us_n (show 12 * v' ≠ 12 * v by omega)]
      exact ⟨(a v' hv').1.congr (fun c' _ _ => us_n (by omega)), (a v' hv').2⟩
  · rw [us_n (by omega), us_n (by omega)]; exact b c' q q1 q2 q3 q4
  · rw [us_n (by omega), us_n (by omega)]; exact d c' q q1
  · rw [us_n (by omega), us_n (by omega)]; exact m
  · rw [us_n (show (11:Nat) ≠ 5 + v by omega), us_n (show (78:Nat) ≠ 12 * v by omega)]; exact m2
def okc (c : Nat) : Bool := Nat.ble 60 c && !(c == 74) && !(c == 75) && !(c == 76) && !(c == 78)
theorem okc_of {c : Nat} (h : okc c = true) : 60 ≤ c ∧ c ≠ 74 ∧ c ≠ 75 ∧ c ≠ 76 ∧ c ≠ 78 := by
  simp only [okc, Bool.and_eq_true, Bool.not_eq_true', beq_eq_false_iff_ne, ne_eq, Nat.ble_eq] at h
  omega
theorem abs_other {σ ρ : Sg} {c : Nat} {g : Nat → Int32} (h : ABS σ ρ) (hc : okc c = true) : ABS (us σ c g) (us ρ c g) := by
  obtain ⟨c1, c2, c3, c4, c5⟩ := okc_of hc
  obtain ⟨a, b, d, m, m2⟩ := h
  refine ⟨fun v' hv' => ?_, fun c' q q1 q2 q3 q4 => ?_, fun c' q q1 => ?_, ?_, ?_⟩
  · rw [us_n (show v' ≠ c by omega), us_n (show 5 + v' ≠ c by omega), us_n (show 12 * v' ≠ c by omega)]
    exact ⟨(a v' hv').1.congr (fun c' _ _ => us_n (by omega)), (a v' hv').2⟩
  · by_cases e : c' = c
    · subst e; rw [us_s, us_s]
    · rw [us_n e, us_n e]; exact b c' q q1 q2 q3 q4
  · rw [us_n (by omega), us_n (by omega)]; exact d c' q q1
  · rw [us_n (by omega), us_n (by omega)]; exact m
  · rw [us_n (show (11:Nat) ≠ c by omega), us_n (show (78:Nat) ≠ c by omega)]; exact m2
theorem ABS.msk {σ ρ : Sg} {c : Nat} {f g : Nat → Int32} (h : ABS σ ρ) (h1 : 74 ≤ c) (h2 : c ≤ 76) (hm : Msk f g) : ABS (us σ c f) (us ρ c g) := by
  obtain ⟨a, b, d, m, m2⟩ := h
  refine ⟨fun v' hv' => ?_, fun c' q q1 q2 q3 q4 => ?_, fun c' q q1 => ?_, ?_, ?_⟩
  · rw [us_n (show v' ≠ c by omega), us_n (show 5 + v' ≠ c by omega), us_n (show 12 * v' ≠ c by omega)]
    exact ⟨(a v' hv').1.congr (fun c' _ _ => us_n (by omega)), (a v' hv').2⟩
  · rw [us_n (by omega), us_n (by omega)]; exact b c' q q1 q2 q3 q4
  · by_cases e : c' = c
    · subst e; rw [us_s, us_s]; exact hm
    · rw [us_n e, us_n e]; exact d c' q q1
  · rw [us_n (by omega), us_n (by omega)]; exact m
  · rw [us_n (show (11:Nat) ≠ c by omega), us_n (show (78:Nat) ≠ c by omega)]; exact m2
theorem Msk_uh {f g : Nat → Int32} {i j : Nat} {y : Int32} (h : Msk f g) (hi : i < nh f) (hj : j < 6) : Msk (uh f i j y) (upd g (15+6*i+j) y) := by
  obtain ⟨h1, h2, h3, h4⟩ := h
  have h8 := h1.2.1
  refine ⟨Can_uh h1 hi hj, fun k a => by rw [uh_lo a, upd_n (by omega)]; exact h2 k a, fun k a b => by rw [uh_hi a (by omega) hj, upd_n (by omega)]; exact h3 k a b, fun i' j' a b => ?_⟩
  rw [nh_uh] at a
  by_cases e : i' = i ∧ j' = j
  · obtain ⟨rfl, rfl⟩ := e; rw [upd_s, hf_uh_s]
  · rw [hf_uh_n e hj b, upd_n (by omega)]; exact h4 i' j' a b
theorem Msk_upd {f g : Nat → Int32} {k : Nat} {y : Int32} (h : Msk f g) (hk : k ≠ 1) (hk2 : k < 15 ∨ 63 ≤ k) (hk3 : k < 73) : Msk (upd f k y) (upd g k y) := by
  obtain ⟨h1, h2, h3, h4⟩ := h
  have h8 := h1.2.1
  refine ⟨Can_upd h1 hk hk2 hk3, fun k' a => ?_, fun k' a b => ?_, fun i' j' a b => ?_⟩
  · by_cases e : k' = k
    · subst e; rw [upd_s, upd_s]
    · rw [upd_n e, upd_n e]; exact h2 k' a
  · by_cases e : k' = k
    · subst e; rw [upd_s, upd_s]
    · rw [upd_n e, upd_n e]; exact h3 k' a b
  · rw [nh_upd hk] at a
    rw [hf_upd hk2 (by omega) b, upd_n (by omega)]; exact h4 i' j' a b
def PA (E : En) (σ : Sg) (s : State) (H : Heap) : Prop := ∃ ρ, ABS σ ρ ∧ PR E ρ s H
theorem PM_A {E : En} {σ : Sg} : PM (PA E σ) := fun _ _ _ hvm ⟨ρ, h1, h2⟩ => ⟨ρ, h1, h2.moved hvm⟩
abbrev AP (x : Cx) (E : En) (σ : Sg) : Heap → Prop := fun H => PA E σ (xs x) H
/-! reading and writing through the picture -/
theorem ardF {x : Cx} {E : En} {σ : Sg} {a j N : Nat} {Cn : String} {T : u_T} {v : Value} (h : ∀ ρ, ABS σ ρ → RdF (xs x) (RP x E ρ) a Cn T N j v) : RdF (xs x) (AP x E σ) a Cn T N j v := fun H ⟨ρ, h1, h2⟩ => h ρ h1 H h2
theorem ardA {x : Cx} {E : En} {σ : Sg} {a nn q : Nat} {v : Int32} (h : ∀ ρ, ABS σ ρ → RdA (xs x) (RP x E ρ) a nn q v) : RdA (xs x) (AP x E σ) a nn q v := fun H ⟨ρ, h1, h2⟩ => h ρ h1 H h2
theorem ardL {x : Cx} {E : En} {σ : Sg} {a nn : Nat} (h : ∀ ρ, ABS σ ρ → RdL (xs x) (RP x E ρ) a nn) : RdL (xs x) (AP x E σ) a nn := fun H ⟨ρ, h1, h2⟩ => h ρ h1 H h2
theorem ardQ {x : Cx} {E : En} {σ : Sg} {a nn : Nat} {Cn : String} {f : Nat → Option Nat} (h : ∀ ρ, ABS σ ρ → RdQ (xs x) (RP x E ρ) a nn Cn f) : RdQ (xs x) (AP x E σ) a nn Cn f := fun H ⟨ρ, h1, h2⟩ => h ρ h1 H h2
theorem aisO {x : Cx} {E : En} {σ : Sg} {a : Nat} {Cn : String} (h : ∀ ρ, ABS σ ρ → IsO (xs x) (RP x E ρ) a Cn) : IsO (xs x) (AP x E σ) a Cn := fun H ⟨ρ, h1, h2⟩ => h ρ h1 H h2
theorem awrF {x : Cx} {E : En} {σ σ' : Sg} {A : Nat → Prop} {a j N : Nat} {Cn : String} {T : u_T} {v : Value} (h : ∀ ρ, ABS σ ρ → ∃ ρ', ABS σ' ρ' ∧ WrF (xs x) A (RP x E ρ) a Cn T N j v (RP x E ρ')) : WrF (xs x) A (AP x E σ) a Cn T N j v (AP x E σ') := by
  rintro H ⟨ρ, h1, h2⟩
  obtain ⟨ρ', g1, g2⟩ := h ρ h1
  obtain ⟨D, cl, tys, ws, q0, ci, fs, a1, a2, a3, a4, a5, a6, a7⟩ := g2 H h2
  exact ⟨D, cl, tys, ws, q0, ci, fs, a1, a2, a3, a4, a5, a6, fun H1 hH => ⟨ρ', g1, a7 H1 hH⟩⟩
theorem awrA {x : Cx} {E : En} {σ σ' : Sg} {A : Nat → Prop} {a nn i : Nat} {v : Int32} (h : ∀ ρ, ABS σ ρ → ∃ ρ', ABS σ' ρ' ∧ WrA (xs x) A (RP x E ρ) a nn i v (RP x E ρ')) : WrA (xs x) A (AP x E σ) a nn i v (AP x E σ') := by
  rintro H ⟨ρ, h1, h2⟩
  obtain ⟨ρ', g1, g2⟩ := h ρ h1
  obtain ⟨D, cl, tys, ws, q0, cA, t0, f, a1, a2, a3, a4, a5, a7⟩ := g2 H h2
  exact ⟨D, cl, tys, ws, q0, cA, t0, f, a1, a2, a3, a4, a5, fun H1 hH => ⟨ρ', g1, a7 H1 hH⟩⟩
theorem eN_ge (E : En) : 85 ≤ eN E := by unfold eN; split <;> omega
theorem eN_w {E : En} (h : eW E ≠ 0) : eN E = 86 := by unfold eN; rw [if_neg h]
theorem cel_vil {E : En} {v : Nat} {f : Nat → Int32} (hv : v < 5) : celf E (12*v) f = .inr (5, [.ref (ad E (12*v+1)), .ref (ad E (12*v+2)), .ref (ad E (12*v+3)), .int (f 3), .int (f 4), .int (f 5), .int (f 6), .int (f 7), .int (f 8), .int (f 9), .int (f 10), .int (f 11), .int (f 12)]) := by
  unfold celf
  rw [if_pos (by omega), show 12 * v % 12 = 0 by omega]
  try rfl
theorem cel_lane {E : En} {v : Nat} {f : Nat → Int32} (hv : v < 5) : celf E (12*v+1) f = .inl (eH E, 8, .inr (.inr (.inr (.inr (fun i => if i < 8 then some (ad E (12*v+1+3+i)) else none))))) := by
  unfold celf
  rw [if_pos (by omega), show (12 * v + 1) % 12 = 1 by omega]
  try rfl
theorem cel_st {E : En} {v : Nat} {f : Nat → Int32} (hv : v < 5) : celf E (12*v+2) f = arI E 7 f := by
  unfold celf
  rw [if_pos (by omega), show (12 * v + 2) % 12 = 2 by omega]
  try rfl
theorem cel_sp {E : En} {v : Nat} {f : Nat → Int32} (hv : v < 5) : celf E (12*v+3) f = arI E 10 f := by
  unfold celf
  rw [if_pos (by omega), show (12 * v + 3) % 12 = 3 by omega]
  try rfl
theorem cel_house {E : En} {v i : Nat} {f : Nat → Int32} (hv : v < 5) (hi : i < 8) : celf E (12*v+4+i) f = .inr (1, [.int (f 0), .int (f 1), .int (f 2), .int (f 3), .int (f 4), .int (f 5)]) := by
  unfold celf
  rw [if_pos (by omega), show (12 * v + 4 + i) % 12 = i + 4 by omega]
  try rfl
/-- the cells of village v: itself, its lane, its steeps, its spots, its house i -/
def vb (v : Nat) : Nat := 12*v
def lc (v : Nat) : Nat := 12*v+1
def tc (v : Nat) : Nat := 12*v+2
def qc (v : Nat) : Nat := 12*v+3
def hc (v i : Nat) : Nat := 12*v+4+i
/-- the cells of sheet s: itself, its numbers -/
def shc (s : Nat) : Nat := 65+s
def nmc (s : Nat) : Nat := 69+s
section RDWR
variable {x : Cx} {E : En} {σ : Sg} {v i q c : Nat} {y : Int32}
theorem isoV (hv : v < 5) : IsO (xs x) (AP x E σ) (ad E (vb v)) RX5 := aisO fun ρ _ => isO (c := 12*v) (by have := eN_ge E; omega) (cel_vil hv) rfl
theorem isoH (hv : v < 5) (hi : i < 8) : IsO (xs x) (AP x E σ) (ad E (hc v i)) RX1 := aisO fun ρ _ => isO (c := 12*v+4+i) (by have := eN_ge E; omega) (cel_house hv hi) rfl
theorem rdLane (hv : v < 5) : RdF (xs x) (AP x E σ) (ad E (vb v)) RX5 TX5 13 0 (.ref (ad E (lc v))) := ardF fun ρ _ => rdF (c := 12*v) (by have := eN_ge E; omega) (cel_vil hv) rfl rfl
theorem rdSteeps (hv : v < 5) : RdF (xs x) (AP x E σ) (ad E (vb v)) RX5 TX5 13 1 (.ref (ad E (tc v))) := ardF fun ρ _ => rdF (c := 12*v) (by have := eN_ge E; omega) (cel_vil hv) rfl rfl
theorem rdSpots (hv : v < 5) : RdF (xs x) (AP x E σ) (ad E (vb v)) RX5 TX5 13 2 (.ref (ad E (qc v))) := ardF fun ρ _ => rdF (c := 12*v) (by have := eN_ge E; omega) (cel_vil hv) rfl rfl
theorem rdV (hv : v < 5) (j : Nat) (k : Nat) (h3 : Nat.ble 3 j = true) (h10 : Nat.ble j 10 = true) (hk : vsl j = k) : RdF (xs x) (AP x E σ) (ad E (vb v)) RX5 TX5 13 j (.int (σ v k)) := by
  have h3 := Nat.le_of_ble_eq_true h3
  have h10 := Nat.le_of_ble_eq_true h10
  subst hk
  exact ardF fun ρ h => rdF (c := 12*v) (by have := eN_ge E; omega) (cel_vil hv) rfl (by
    rw [← (h.1 v hv).1.2.1 j h3 h10]
    rcases (show j = 3 ∨ j = 4 ∨ j = 5 ∨ j = 6 ∨ j = 7 ∨ j = 8 ∨ j = 9 ∨ j = 10 by omega) with rfl | rfl | rfl | rfl | rfl | rfl | rfl | rfl <;> rfl)
theorem rdLeast (hv : v < 5) : RdF (xs x) (AP x E σ) (ad E (vb v)) RX5 TX5 13 11 (.int (σ (5+v) 0)) := ardF fun ρ h => rdF (c := 12*v) (by have := eN_ge E; omega) (cel_vil hv) rfl (by rw [← (h.1 v hv).2.1]; rfl)
theorem rdChill (hv : v < 5) : RdF (xs x) (AP x E σ) (ad E (vb v)) RX5 TX5 13 12 (.int (σ (5+v) 1)) := ardF fun ρ h => rdF (c := 12*v) (by have := eN_ge E; omega) (cel_vil hv) rfl (by rw [← (h.1 v hv).2.2.1]; rfl)
theorem wrV (hv : v < 5) (j : Nat) (k : Nat) (h3 : Nat.ble 4 j = true) (h10 : Nat.ble j 10 = true) (hk : vsl j = k) : WrF (xs x) (eA E) (AP x E σ) (ad E (vb v)) RX5 TX5 13 j (.int y) (AP x E (us σ v (upd (σ v) k y))) := by
  have h3 := Nat.le_of_ble_eq_true h3
  have h10 := Nat.le_of_ble_eq_true h10
  subst hk
  exact awrF fun ρ h => ⟨_, abs_scal h hv h3 h10, wrF (c := 12*v) (by have := eN_ge E; omega) (cel_vil hv) rfl (by show j < 13; omega) (by
    rw [cel_vil hv]
    rcases (show j = 4 ∨ j = 5 ∨ j = 6 ∨ j = 7 ∨ j = 8 ∨ j = 9 ∨ j = 10 by omega) with rfl | rfl | rfl | rfl | rfl | rfl | rfl <;> simp [upd])⟩
theorem wrLeast (hv : v < 5) : WrF (xs x) (eA E) (AP x E σ) (ad E (vb v)) RX5 TX5 13 11 (.int y) (AP x E (us σ (5+v) (upd (σ (5+v)) 0 y))) :=
  awrF fun ρ h => ⟨_, abs_least (j := 0) h hv (by omega) (by omega), wrF (c := 12*v) (by have := eN_ge E; omega) (cel_vil hv) rfl (by simp) (by rw [cel_vil hv]; simp [upd])⟩
theorem wrChill (hv : v < 5) (hy : y = 0 ∨ y = 1) : WrF (xs x) (eA E) (AP x E σ) (ad E (vb v)) RX5 TX5 13 12 (.int y) (AP x E (us σ (5+v) (upd (σ (5+v)) 1 y))) :=
  awrF fun ρ h => ⟨_, abs_least (j := 1) h hv (by omega) (fun _ => hy), wrF (c := 12*v) (by have := eN_ge E; omega) (cel_vil hv) rfl (by simp) (by rw [cel_vil hv]; simp [upd])⟩
theorem rdH (hv : v < 5) (hi : i < nh (σ v)) (j : Nat) (hj : Nat.ble j 5 = true) : RdF (xs x) (AP x E σ) (ad E (hc v i)) RX1 TX1 6 j (.int (hf (σ v) i j)) := by
  have hj := Nat.le_of_ble_eq_true hj
  exact ardF fun ρ h => by
    have h8 := (h.1 v hv).1.1.2.1
    exact rdF (c := 12*v+4+i) (by have := eN_ge E; omega) (cel_house hv (by omega)) rfl (by
      rw [← (h.1 v hv).1.2.2.2.2 i j hi (by omega)]
      rcases (show j = 0 ∨ j = 1 ∨ j = 2 ∨ j = 3 ∨ j = 4 ∨ j = 5 by omega) with rfl | rfl | rfl | rfl | rfl | rfl <;> rfl)
theorem wrH (hv : v < 5) (hi : i < nh (σ v)) (j : Nat) (hj : Nat.ble j 5 = true) : WrF (xs x) (eA E) (AP x E σ) (ad E (hc v i)) RX1 TX1 6 j (.int y) (AP x E (us σ v (uh (σ v) i j y))) := by
  have hj := Nat.le_of_ble_eq_true hj
  exact awrF fun ρ h => by
    have h8 := (h.1 v hv).1.1.2.1
    exact ⟨_, abs_house h hv hi (by omega), wrF (c := 12*v+4+i) (by have := eN_ge E; omega) (cel_house hv (by omega)) rfl (by show j < 6; omega) (by
      rw [cel_house hv (by omega)]
      rcases (show j = 0 ∨ j = 1 ∨ j = 2 ∨ j = 3 ∨ j = 4 ∨ j = 5 by omega) with rfl | rfl | rfl | rfl | rfl | rfl <;> simp [upd])⟩
theorem rdSt (hv : v < 5) (hi : i < 7) : RdA (xs x) (AP x E σ) (ad E (tc v)) 7 i (σ v (8+i)) := ardA fun ρ h => by rw [← (h.1 v hv).1.2.2.1 i hi]; exact rdA (c := 12*v+2) (by have := eN_ge E; omega) (cel_st hv)
theorem rdStL (hv : v < 5) : RdL (xs x) (AP x E σ) (ad E (tc v)) 7 := ardL fun ρ h => rdL (c := 12*v+2) (by have := eN_ge E; omega) (cel_st hv)
theorem wrSt (hv : v < 5) (hi : i < 7) : WrA (xs x) (eA E) (AP x E σ) (ad E (tc v)) 7 i y (AP x E (us σ v (upd (σ v) (8+i) y))) := awrA fun ρ h => ⟨_, abs_steep h hv hi, wrA (c := 12*v+2) (by have := eN_ge E; omega) (fun f => cel_st hv)⟩
theorem rdSp (hv : v < 5) (hi : i < 10) : RdA (xs x) (AP x E σ) (ad E (qc v)) 10 i (σ v (63+i)) := ardA fun ρ h => by rw [← (h.1 v hv).1.2.2.2.1 i hi]; exact rdA (c := 12*v+3) (by have := eN_ge E; omega) (cel_sp hv)
theorem rdSpL (hv : v < 5) : RdL (xs x) (AP x E σ) (ad E (qc v)) 10 := ardL fun ρ h => rdL (c := 12*v+3) (by have := eN_ge E; omega) (cel_sp hv)
theorem wrSp (hv : v < 5) (hi : i < 10) : WrA (xs x) (eA E) (AP x E σ) (ad E (qc v)) 10 i y (AP x E (us σ v (upd (σ v) (63+i) y))) := awrA fun ρ h => ⟨_, abs_spot h hv hi, wrA (c := 12*v+3) (by have := eN_ge E; omega) (fun f => cel_sp hv)⟩
theorem rdLq (hv : v < 5) : RdQ (xs x) (AP x E σ) (ad E (lc v)) 8 RX1 (fun i => if i < 8 then some (ad E (hc v i)) else none) := ardQ fun ρ h => rdQ (c := 12*v+1) (t0 := 1) (by have := eN_ge E; omega) (cel_lane hv) rfl
/-- the other cells hold what the picture says -/
theorem rdO {fs : List Value} {ci j N : Nat} {Cn : String} {T : u_T} {w : Value} (c : Nat) (hc : okc c = true) (h85 : Nat.ble c 84 = true) (he : celf E c (σ c) = .inr (ci, fs)) (hcl : classes[ci]? = some (Cn, T, N)) (hv : fs[j]? = some w) : RdF (xs x) (AP x E σ) (ad E c) Cn T N j w := by
  have h85 := Nat.le_of_ble_eq_true h85
  obtain ⟨c1, c2, c3, c4, c5⟩ := okc_of hc
  exact ardF fun ρ h => rdF (by have := eN_ge E; omega) (by rw [← h.2.1 c c1 c2 c3 c4 c5]; exact he) hcl hv
theorem isoO {fs : List Value} {ci N : Nat} {Cn : String} {T : u_T} (c : Nat) (hc : okc c = true) (h85 : Nat.ble c 84 = true) (he : celf E c (σ c) = .inr (ci, fs)) (hcl : classes[ci]? = some (Cn, T, N)) : IsO (xs x) (AP x E σ) (ad E c) Cn := by
  have h85 := Nat.le_of_ble_eq_true h85
  obtain ⟨c1, c2, c3, c4, c5⟩ := okc_of hc
  exact aisO fun ρ h => isO (by have := eN_ge E; omega) (by rw [← h.2.1 c c1 c2 c3 c4 c5]; exact he) hcl
theorem wrO {fs : List Value} {ci j N : Nat} {Cn : String} {T : u_T} (c : Nat) (hc : okc c = true) (h85 : Nat.ble c 84 = true) (he : celf E c (σ c) = .inr (ci, fs)) (hcl : classes[ci]? = some (Cn, T, N)) (hj : Nat.ble (j+1) fs.length = true) (hg : celf E c (upd (σ c) j y) = .inr (ci, fs.set j (.int y))) : WrF (xs x) (eA E) (AP x E σ) (ad E c) Cn T N j (.int y) (AP x E (us σ c (upd (σ c) j y))) := by
  have h85 := Nat.le_of_ble_eq_true h85
  obtain ⟨c1, c2, c3, c4, c5⟩ := okc_of hc
  exact awrF fun ρ h => ⟨_, abs_other h hc, wrF (by have := eN_ge E; omega) (by rw [← h.2.1 c c1 c2 c3 c4 c5]; exact he) hcl (Nat.le_of_ble_eq_true hj) hg⟩
theorem rdOA {nn : Nat} (c : Nat) (hc : okc c = true) (h85 : Nat.ble c 84 = true) (he : celf E c (σ c) = arI E nn (σ c)) : RdA (xs x) (AP x E σ) (ad E c) nn q (σ c q) := by
  have h85 := Nat.le_of_ble_eq_true h85
  obtain ⟨c1, c2, c3, c4, c5⟩ := okc_of hc
  exact ardA fun ρ h => by rw [h.2.1 c c1 c2 c3 c4 c5] at he ⊢; exact rdA (by have := eN_ge E; omega) he
theorem rdOL {nn : Nat} (c : Nat) (hc : okc c = true) (h85 : Nat.ble c 84 = true) (he : celf E c (σ c) = arI E nn (σ c)) : RdL (xs x) (AP x E σ) (ad E c) nn := by
  have h85 := Nat.le_of_ble_eq_true h85
  obtain ⟨c1, c2, c3, c4, c5⟩ := okc_of hc
  exact ardL fun ρ h => by rw [h.2.1 c c1 c2 c3 c4 c5] at he; exact rdL (by have := eN_ge E; omega) he
theorem wrOA {nn : Nat} (c : Nat) (hc : okc c = true) (h85 : Nat.ble c 84 = true) (he : ∀ f, celf E c f = arI E nn f) : WrA (xs x) (eA E) (AP x E σ) (ad E c) nn q y (AP x E (us σ c (upd (σ c) q y))) := by
  have h85 := Nat.le_of_ble_eq_true h85
  obtain ⟨c1, c2, c3, c4, c5⟩ := okc_of hc
  exact awrA fun ρ h => ⟨us ρ c (upd (ρ c) q y), by rw [← h.2.1 c c1 c2 c3 c4 c5]; exact abs_other h hc, wrA (by have := eN_ge E; omega) he⟩
theorem rdSheetsQ : RdQ (xs x) (AP x E σ) (ad E 61) 4 RX3 (fun i => if i < 4 then some (ad E (shc i)) else none) := ardQ fun ρ h => rdQ (c := 61) (t0 := 2) (by have := eN_ge E; omega) rfl rfl
/-- the reference's rows -/
def sc (k : Nat) : Bool := Nat.blt k 15 || (Nat.ble 63 k && Nat.blt k 73)
theorem cel_m {c : Nat} (f : Nat → Int32) (h1 : 74 ≤ c) (h2 : c ≤ 76) : celf E c f = arI E 73 f := by
  rcases (show c = 74 ∨ c = 75 ∨ c = 76 by omega) with rfl | rfl | rfl <;> rfl
theorem rdM (c q : Nat) (h1 : Nat.ble 74 c = true) (h2 : Nat.ble c 76 = true) (hq : sc q = true) : RdA (xs x) (AP x E σ) (ad E c) 73 q (σ c q) := by
  have h1 := Nat.le_of_ble_eq_true h1
  have h2 := Nat.le_of_ble_eq_true h2
  exact ardA fun ρ h => by
    obtain ⟨m1, m2, m3, m4⟩ := h.2.2.1 c h1 h2
    have e : ρ c q = σ c q := by
      simp only [sc, Bool.or_eq_true, Bool.and_eq_true, Nat.ble_eq, Nat.blt] at hq
      rcases hq with g | g
      · exact m2 q (by omega)
      · exact m3 q g.1 (by omega)
    rw [← e]; exact rdA (by have := eN_ge E; omega) (cel_m _ h1 h2)
theorem rdMh (c : Nat) (h1 : Nat.ble 74 c = true) (h2 : Nat.ble c 76 = true) (hi : i < nh (σ c)) (j : Nat) (hj : j < 6) : RdA (xs x) (AP x E σ) (ad E c) 73 (15+6*i+j) (hf (σ c) i j) := by
  have h1 := Nat.le_of_ble_eq_true h1
  have h2 := Nat.le_of_ble_eq_true h2
  exact ardA fun ρ h => by
    obtain ⟨m1, m2, m3, m4⟩ := h.2.2.1 c h1 h2
    rw [← m4 i j hi hj]; exact rdA (by have := eN_ge E; omega) (cel_m _ h1 h2)
theorem wrM (c q : Nat) (h1 : Nat.ble 74 c = true) (h2 : Nat.ble c 76 = true) (hq : sc q = true) (hq1 : (q == 1) = false) : WrA (xs x) (eA E) (AP x E σ) (ad E c) 73 q y (AP x E (us σ c (upd (σ c) q y))) := by
  have h1 := Nat.le_of_ble_eq_true h1
  have h2 := Nat.le_of_ble_eq_true h2
  simp only [sc, Bool.or_eq_true, Bool.and_eq_true, Nat.ble_eq, Nat.blt] at hq
  have hq1 : q ≠ 1 := by simpa using hq1
  exact awrA fun ρ h => ⟨_, h.msk h1 h2 (Msk_upd (h.2.2.1 c h1 h2) hq1 (by omega) (by omega)), wrA (by have := eN_ge E; omega) (fun f => cel_m f h1 h2)⟩
theorem wrMh (c : Nat) (h1 : Nat.ble 74 c = true) (h2 : Nat.ble c 76 = true) (hi : i < nh (σ c)) (j : Nat) (hj : j < 6) : WrA (xs x) (eA E) (AP x E σ) (ad E c) 73 (15+6*i+j) y (AP x E (us σ c (uh (σ c) i j y))) := by
  have h1 := Nat.le_of_ble_eq_true h1
  have h2 := Nat.le_of_ble_eq_true h2
  exact awrA fun ρ h => ⟨_, h.msk h1 h2 (Msk_uh (h.2.2.1 c h1 h2) hi hj), wrA (by have := eN_ge E; omega) (fun f => cel_m f h1 h2)⟩
theorem okc_sh {s : Nat} (hs : s < 4) : okc (65+s) = true := by
  rcases (show s = 0 ∨ s = 1 ∨ s = 2 ∨ s = 3 by omega) with rfl | rfl | rfl | rfl <;> rfl
theorem okc_nm {s : Nat} (hs : s < 4) : okc (69+s) = true := by
  rcases (show s = 0 ∨ s = 1 ∨ s = 2 ∨ s = 3 by omega) with rfl | rfl | rfl | rfl <;> rfl
theorem cel_sh {s : Nat} {f : Nat → Int32} (hs : s < 4) : celf E (65+s) f = .inr (3, [.ref (ad E (nmc s)), .int (f 1), .int (f 2)]) := by
  rcases (show s = 0 ∨ s = 1 ∨ s = 2 ∨ s = 3 by omega) with rfl | rfl | rfl | rfl <;> rfl
theorem cel_nm {s : Nat} {f : Nat → Int32} (hs : s < 4) : celf E (69+s) f = arI E 40 f := by
  rcases (show s = 0 ∨ s = 1 ∨ s = 2 ∨ s = 3 by omega) with rfl | rfl | rfl | rfl <;> rfl
theorem isoSh {s : Nat} (hs : s < 4) : IsO (xs x) (AP x E σ) (ad E (shc s)) RX3 := isoO (65+s) (okc_sh hs) (Nat.ble_eq_true_of_le (by omega)) (cel_sh hs) rfl
theorem rdShN {s : Nat} (hs : s < 4) : RdF (xs x) (AP x E σ) (ad E (shc s)) RX3 TX3 3 0 (.ref (ad E (nmc s))) := rdO (65+s) (okc_sh hs) (Nat.ble_eq_true_of_le (by omega)) (cel_sh hs) rfl rfl
theorem rdShB {s : Nat} (hs : s < 4) : RdF (xs x) (AP x E σ) (ad E (shc s)) RX3 TX3 3 1 (.int (σ (shc s) 1)) := rdO (65+s) (okc_sh hs) (Nat.ble_eq_true_of_le (by omega)) (cel_sh hs) rfl rfl
theorem rdShL {s : Nat} (hs : s < 4) : RdF (xs x) (AP x E σ) (ad E (shc s)) RX3 TX3 3 2 (.int (σ (shc s) 2)) := rdO (65+s) (okc_sh hs) (Nat.ble_eq_true_of_le (by omega)) (cel_sh hs) rfl rfl
theorem wrShB {s : Nat} (hs : s < 4) : WrF (xs x) (eA E) (AP x E σ) (ad E (shc s)) RX3 TX3 3 1 (.int y) (AP x E (us σ (shc s) (upd (σ (shc s)) 1 y))) := wrO (65+s) (okc_sh hs) (Nat.ble_eq_true_of_le (by omega)) (cel_sh hs) rfl rfl (by rw [cel_sh hs]; simp [upd, shc])
theorem wrShL {s : Nat} (hs : s < 4) : WrF (xs x) (eA E) (AP x E σ) (ad E (shc s)) RX3 TX3 3 2 (.int y) (AP x E (us σ (shc s) (upd (σ (shc s)) 2 y))) := wrO (65+s) (okc_sh hs) (Nat.ble_eq_true_of_le (by omega)) (cel_sh hs) rfl rfl (by rw [cel_sh hs]; simp [upd, shc])
theorem rdNm {s : Nat} (hs : s < 4) : RdA (xs x) (AP x E σ) (ad E (nmc s)) 40 q (σ (nmc s) q) := rdOA (69+s) (okc_nm hs) (Nat.ble_eq_true_of_le (by omega)) (cel_nm hs)
theorem rdNmL {s : Nat} (hs : s < 4) : RdL (xs x) (AP x E σ) (ad E (nmc s)) 40 := rdOL (69+s) (okc_nm hs) (Nat.ble_eq_true_of_le (by omega)) (cel_nm hs)
theorem wrNm {s : Nat} (hs : s < 4) : WrA (xs x) (eA E) (AP x E σ) (ad E (nmc s)) 40 q y (AP x E (us σ (nmc s) (upd (σ (nmc s)) q y))) := wrOA (69+s) (okc_nm hs) (Nat.ble_eq_true_of_le (by omega)) (fun f => cel_nm hs)
theorem rdX8_live : RdF (xs x) (AP x E σ) (ad E 60) RX8 TX8 11 0 (.ref (ad E (vb 0))) := rdO 60 rfl rfl rfl rfl rfl
theorem rdX8_kept : RdF (xs x) (AP x E σ) (ad E 60) RX8 TX8 11 1 (.ref (ad E (vb 1))) := rdO 60 rfl rfl rfl rfl rfl
theorem rdX8_first : RdF (xs x) (AP x E σ) (ad E 60) RX8 TX8 11 2 (.ref (ad E (vb 2))) := rdO 60 rfl rfl rfl rfl rfl
theorem rdX8_second : RdF (xs x) (AP x E σ) (ad E 60) RX8 TX8 11 3 (.ref (ad E (vb 3))) := rdO 60 rfl rfl rfl rfl rfl
theorem rdX8_third : RdF (xs x) (AP x E σ) (ad E 60) RX8 TX8 11 4 (.ref (ad E (vb 4))) := rdO 60 rfl rfl rfl rfl rfl
theorem rdX2_village : RdF (xs x) (AP x E σ) (ad E 64) RX2 TX2 7 1 (.ref (ad E (vb 2))) := rdO 64 rfl rfl rfl rfl rfl
/-- what every picture's village has -/
theorem canV {s : State} {H : Heap} (h : PA E σ s H) (hv : v < 5) : Can (σ v) := by
  obtain ⟨ρ, h1, -⟩ := h
  exact (h1.1 v hv).1.1
theorem chill01 {s : State} {H : Heap} (h : PA E σ s H) (hv : v < 5) : σ (5+v) 1 = 0 ∨ σ (5+v) 1 = 1 := by
  obtain ⟨ρ, h1, -⟩ := h
  exact (h1.1 v hv).2.2.2
theorem canM {s : State} {H : Heap} (h : PA E σ s H) (h1 : 74 ≤ c) (h2 : c ≤ 76) : Can (σ c) := by
  obtain ⟨ρ, g1, -⟩ := h
  exact (g1.2.2.1 c h1 h2).1
end RDWR
