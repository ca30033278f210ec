/-! the numbers of a sheet beyond its 40 places are nobody's: so both sides' sheets may be taken as equal outright -/
theorem arrV_congr {cA : ClassId} {n : Nat} {f g : Nat → Value} (h : ∀ i, i < n → f i = g i) : arrV cA n f = arrV cA n g := by
  have hs : (arrV cA n f).slots = (arrV cA n g).slots := by
    apply Array.ext_getElem?
    intro i
    by_cases hi : i < n
    · rw [arrV_read _ _ hi, arrV_read _ _ hi, h i hi]
    · rw [Array.getElem?_eq_none (by rw [arrV_size]; omega), Array.getElem?_eq_none (by rw [arrV_size]; omega)]
  have e : ∀ a b : Cell, a.cls = b.cls → a.slots = b.slots → a.monitor = b.monitor → a.hash = b.hash → a.vm = b.vm → a = b := by
    intro a b h1 h2 h3 h4 h5
    cases a
    cases b
    cases h1
    cases h2
    cases h3
    cases h4
    cases h5
    rfl
  exact e _ _ rfl hs rfl rfl rfl
def nmz (σ : Sg) : Sg := fun c => if 69 ≤ c ∧ c < 73 then (fun i => σ 83 (40 * (c - 69) + i)) else σ c
theorem nmz_n {σ : Sg} {c : Nat} (h : c < 69 ∨ 73 ≤ c) : nmz σ c = σ c := if_neg (by omega)
theorem nmz_s {σ : Sg} {s : Nat} (h : s < 4) : nmz σ (nmc s) = fun i => σ 83 (40 * s + i) := by
  show (if 69 ≤ 69 + s ∧ 69 + s < 73 then (fun i => σ 83 (40 * (69 + s - 69) + i)) else σ (69 + s)) = _
  rw [if_pos ⟨by omega, by omega⟩, show 69 + s - 69 = s by omega]
theorem PA_arr {E : En} {σ : Sg} {u : State} {H : Heap} {c : Nat} {f : Nat → Int32} (hP : PA E σ u H) (hc : 69 ≤ c) (hc2 : c < 73) (hf : ∀ i, i < 40 → f i = σ c i) : PA E (us σ c f) u H := by
  obtain ⟨ρ, hA, hK, hP, hD⟩ := hP
  have hρ : ρ c = σ c := (hA.2.1 c (by omega) (by omega) (by omega) (by omega) (by omega)).symm
  refine ⟨us ρ c f, abs_other hA (by rcases (show c = 69 ∨ c = 70 ∨ c = 71 ∨ c = 72 by omega) with rfl | rfl | rfl | rfl <;> rfl), hK, ?_, ?_⟩
  · intro k q hk
    by_cases hkc : k = c
    · subst hkc
      have hl : k < eN E := by unfold eN; split <;> omega
      rw [wld_get hl] at hk
      cases hk
      have h0 := hP k _ (wld_get hl)
      rw [us_s]
      have ce : ∀ g, celf E k g = arI E 40 g := by
        intro g
        rcases (show k = 69 ∨ k = 70 ∨ k = 71 ∨ k = 72 by omega) with rfl | rfl | rfl | rfl <;> rfl
      rw [ce] at h0 ⊢
      show H[ad E k]? = some (arrV (eI E) 40 (fun j => .int (f j)))
      have h1 : H[ad E k]? = some (arrV (eI E) 40 (fun j => .int (ρ k j))) := h0
      rw [h1, arrV_congr (g := fun j => .int (f j)) (fun i hi => by show Value.int (ρ k i) = Value.int (f i); rw [hf i hi, hρ])]
    · have e := wld_set (E := E) (ρ := ρ) (c := c) (f := f) (by unfold eN; split <;> omega)
      have hk2 : (wld E ρ)[k]? = some q := by
        rw [← e, List.getElem?_set_ne (Ne.symm hkc)] at hk
        exact hk
      exact hP k q hk2
  · have e := wld_set (E := E) (ρ := ρ) (c := c) (f := f) (by unfold eN; split <;> omega)
    rw [← e]
    exact hD.set (wld_get (by unfold eN; split <;> omega))
theorem Rel.sh {σ : Sg} (h : Rel σ) : ∀ s, s < 4 → ShR σ s := h.2.2.2.2.2.2.2.2
theorem PA_nmz {E : En} {σ : Sg} {u : State} {H : Heap} (hR : Rel σ) (hP : PA E σ u H) : PA E (nmz σ) u H := by
  have h0 := PA_arr (c := 69) (f := fun i => σ 83 (40 * 0 + i)) hP (by omega) (by omega) (fun i hi => ((hR.sh 0 (by omega)).2.2.2.2 i hi).1.symm)
  have h1 := PA_arr (c := 70) (f := fun i => σ 83 (40 * 1 + i)) h0 (by omega) (by omega) (fun i hi => by rw [us_n (by omega)]; exact ((hR.sh 1 (by omega)).2.2.2.2 i hi).1.symm)
  have h2 := PA_arr (c := 71) (f := fun i => σ 83 (40 * 2 + i)) h1 (by omega) (by omega) (fun i hi => by rw [us_n (by omega), us_n (by omega)]; exact ((hR.sh 2 (by omega)).2.2.2.2 i hi).1.symm)
  have h3 := PA_arr (c := 72) (f := fun i => σ 83 (40 * 3 + i)) h2 (by omega) (by omega) (fun i hi => by rw [us_n (by omega), us_n (by omega), us_n (by omega)]; exact ((hR.sh 3 (by omega)).2.2.2.2 i hi).1.symm)
  have e : nmz σ = us (us (us (us σ 69 (fun i => σ 83 (40 * 0 + i))) 70 (fun i => σ 83 (40 * 1 + i))) 71 (fun i => σ 83 (40 * 2 + i))) 72 (fun i => σ 83 (40 * 3 + i)) := by
    funext c
    by_cases h69 : c = 69
    · subst h69; rw [us_n (by omega), us_n (by omega), us_n (by omega), us_s]; exact nmz_s (s := 0) (by omega)
    · by_cases h70 : c = 70
      · subst h70; rw [us_n (by omega), us_n (by omega), us_s]; exact nmz_s (s := 1) (by omega)
      · by_cases h71 : c = 71
        · subst h71; rw [us_n (by omega), us_s]; exact nmz_s (s := 2) (by omega)
        · by_cases h72 : c = 72
          · subst h72; rw [us_s]; exact nmz_s (s := 3) (by omega)
          · rw [us_n h72, us_n h71, us_n h70, us_n h69, nmz_n (by omega)]
  rw [e]
  exact h3
/-- the two sides, sheets outright -/
def RelN (σ : Sg) : Prop := Rel σ ∧ ∀ s, s < 4 → σ (nmc s) = fun i => σ 83 (40 * s + i)
/-- what Rel speaks of -/
def RelE (Z u : Sg) : Prop := (∀ c, ¬ TR c → ¬ TY c → u c = Z c) ∧ ∀ j, ¬ SY j → u 73 j = Z 73 j
theorem Rel_eq {Z u : Sg} (h : RelE Z u) (hZ : Rel Z) : Rel u := by
  obtain ⟨hc, hj⟩ := h
  obtain ⟨z0, z1, z2, z3, z4, z5, z6, z7, z8⟩ := hZ
  have e0 : u 0 = Z 0 := hc 0 (by omega) (by omega)
  have e1 : u 1 = Z 1 := hc 1 (by omega) (by omega)
  have e60 : u 60 = Z 60 := hc 60 (by omega) (by omega)
  have e62 : u 62 = Z 62 := hc 62 (by omega) (by omega)
  have e63 : u 63 = Z 63 := hc 63 (by omega) (by omega)
  have e74 : u 74 = Z 74 := hc 74 (by omega) (by omega)
  have e75 : u 75 = Z 75 := hc 75 (by omega) (by omega)
  have e77 : u 77 = Z 77 := hc 77 (by omega) (by omega)
  have e80 : u 80 = Z 80 := hc 80 (by omega) (by omega)
  have e81 : u 81 = Z 81 := hc 81 (by omega) (by omega)
  have e82 : u 82 = Z 82 := hc 82 (by omega) (by omega)
  have e83 : u 83 = Z 83 := hc 83 (by omega) (by omega)
  have j4 : u 73 4 = Z 73 4 := hj 4 (by omega)
  have j5 : u 73 5 = Z 73 5 := hj 5 (by omega)
  have j8 : u 73 8 = Z 73 8 := hj 8 (by omega)
  have j9 : u 73 9 = Z 73 9 := hj 9 (by omega)
  have j17 : u 73 17 = Z 73 17 := hj 17 (by omega)
  refine ⟨by rw [e0, e74]; exact z0, by rw [e0]; exact z1, ⟨by rw [j5]; exact z2.1, by rw [j8]; exact z2.2.1, by rw [j9]; exact z2.2.2⟩, by rw [e60, j4]; exact z3, by rw [j4, e1, e75]; exact z4, by rw [e62, e77]; exact z5, by rw [e63, e80]; exact z6, by rw [e60, j17]; exact z7, fun s hs => ?_⟩
  have es : u (shc s) = Z (shc s) := hc _ (by unfold shc; omega) (by unfold shc; omega)
  have en : u (nmc s) = Z (nmc s) := hc _ (by unfold nmc; omega) (by unfold nmc; omega)
  unfold ShR
  rw [es, en, e81, e82, e83]
  exact z8 s hs
theorem RelN_nmz {σ : Sg} (h : Rel σ) : RelN (nmz σ) := by
  have k : ∀ c, (c < 69 ∨ 73 ≤ c) → nmz σ c = σ c := fun c hc => nmz_n hc
  obtain ⟨z0, z1, z2, z3, z4, z5, z6, z7, z8⟩ := h
  refine ⟨⟨by rw [k 0 (by omega), k 74 (by omega)]; exact z0, by rw [k 0 (by omega)]; exact z1, by unfold MZ; rw [k 73 (by omega)]; exact z2, by rw [k 60 (by omega), k 73 (by omega)]; exact z3, by rw [k 73 (by omega), k 1 (by omega), k 75 (by omega)]; exact z4, by rw [k 62 (by omega), k 77 (by omega)]; exact z5, by rw [k 63 (by omega), k 80 (by omega)]; exact z6, by rw [k 60 (by omega), k 73 (by omega)]; exact z7, fun s hs => ?_⟩, fun s hs => ?_⟩
  · unfold ShR
    rw [k (shc s) (by unfold shc; omega), nmz_s hs, k 81 (by omega), k 82 (by omega), k 83 (by omega)]
    exact ⟨(z8 s hs).1, (z8 s hs).2.1, (z8 s hs).2.2.1, (z8 s hs).2.2.2.1, fun i hi => ⟨rfl, ((z8 s hs).2.2.2.2 i hi).2⟩⟩
  · rw [nmz_s hs, k 83 (by omega)]
/-- a row and a finding anew on both sides -/
theorem Rel_row {σ : Sg} {f t : Nat → Int32} (h : Rel σ) (hf : RowOK f) : Rel (us (us (us (us σ 0 f) 62 t) 74 f) 77 t) := by
  obtain ⟨z0, z1, z2, z3, z4, z5, z6, z7, z8⟩ := h
  have k : ∀ c, c ≠ 0 → c ≠ 62 → c ≠ 74 → c ≠ 77 → us (us (us (us σ 0 f) 62 t) 74 f) 77 t c = σ c := fun c a b d e => by rw [us_n e, us_n d, us_n b, us_n a]
  have k0 : us (us (us (us σ 0 f) 62 t) 74 f) 77 t 0 = f := by rw [us_n (by omega), us_n (by omega), us_n (by omega), us_s]
  have k62 : us (us (us (us σ 0 f) 62 t) 74 f) 77 t 62 = t := by rw [us_n (by omega), us_n (by omega), us_s]
  have k74 : us (us (us (us σ 0 f) 62 t) 74 f) 77 t 74 = f := by rw [us_n (by omega), us_s]
  have k77 : us (us (us (us σ 0 f) 62 t) 74 f) 77 t 77 = t := us_s _ _ _
  generalize us (us (us (us σ 0 f) 62 t) 74 f) 77 t = Z at k k0 k62 k74 k77 ⊢
  refine ⟨by rw [k0, k74], by rw [k0]; exact hf, by unfold MZ; rw [k 73 (by omega) (by omega) (by omega) (by omega)]; exact z2, by rw [k 60 (by omega) (by omega) (by omega) (by omega), k 73 (by omega) (by omega) (by omega) (by omega)]; exact z3, by rw [k 73 (by omega) (by omega) (by omega) (by omega), k 1 (by omega) (by omega) (by omega) (by omega), k 75 (by omega) (by omega) (by omega) (by omega)]; exact z4, by rw [k62, k77], by rw [k 63 (by omega) (by omega) (by omega) (by omega), k 80 (by omega) (by omega) (by omega) (by omega)]; exact z6, by rw [k 60 (by omega) (by omega) (by omega) (by omega), k 73 (by omega) (by omega) (by omega) (by omega)]; exact z7, fun s hs => ?_⟩
  unfold ShR
  rw [k (shc s) (by unfold shc; omega) (by unfold shc; omega) (by unfold shc; omega) (by unfold shc; omega), k (nmc s) (by unfold nmc; omega) (by unfold nmc; omega) (by unfold nmc; omega) (by unfold nmc; omega), k 81 (by omega) (by omega) (by omega) (by omega), k 82 (by omega) (by omega) (by omega) (by omega), k 83 (by omega) (by omega) (by omega) (by omega)]
  exact z8 s hs
/-- AN ACT ON THE ROW: both sides answer alike, and stay alike -/
theorem K_row {σ u1 u2 : Sg} {S S' : Rs} {g : Nat → Int32} {τ : Sg} {r1 r2 : Option Value} (hR : Rel σ) (h1 : PX σ S g r1 u1) (h2 : PQ u1 S' τ r2 u2) (hS : S' = S) (hτ : τ = us u1 74 g) (hg : ∀ z, S = .inr z → RowOK g) : r2 = r1 ∧ Rel u2 := by
  subst hS; subst hτ
  obtain ⟨e1, x1⟩ := h1
  obtain ⟨e2, y1, y2⟩ := h2
  refine ⟨e2.trans e1.symm, ?_⟩
  have q0 := hR.1
  have q62 := hR.2.2.2.2.2.1
  have h77 : u1 77 = σ 62 := by rw [x1 77 (by omega), us_n (by omega), us_n (by omega)]; exact q62.symm
  refine Rel_eq (Z := us (us (us (us σ 0 (nsF (σ 0) g S')) 62 (rsT (σ 62) S')) 74 (nsF (σ 0) g S')) 77 (rsT (σ 62) S')) ⟨fun c hr hy => ?_, fun j hj => ?_⟩ (Rel_row hR ?_)
  · rw [y1 c hy]
    have xc := x1 c hr
    by_cases e77 : c = 77
    · subst e77; rw [us_s, us_s, h77]
    · rw [us_n e77, us_n e77]
      by_cases e74 : c = 74
      · subst e74
        rw [us_s]
        cases S' with
        | inl j => show u1 74 = σ 0; rw [xc, us_n (by omega), us_n (by omega)]; exact q0.symm
        | inr z => show us u1 74 g 74 = g; exact us_s _ _ _
      · rw [us_n e74]
        cases S' with
        | inl j => exact xc
        | inr z => show us u1 74 g c = _; rw [us_n e74]; exact xc
  · rw [y2 j hj, us_n (show (73:Nat) ≠ 77 by omega), us_n (show (73:Nat) ≠ 77 by omega), us_n (show (73:Nat) ≠ 74 by omega), us_n (show (73:Nat) ≠ 62 by omega), us_n (show (73:Nat) ≠ 0 by omega)]
    have x73 : u1 73 = σ 73 := by rw [x1 73 (by omega), us_n (by omega), us_n (by omega)]
    cases S' with
    | inl j' => show u1 73 j = _; rw [x73]
    | inr z => show us u1 74 g 73 j = _; rw [us_n (by omega), x73]
  · cases S' with
    | inl j => exact hR.2.1
    | inr z => exact hg z rfl
theorem X_74 {σ u1 : Sg} {S : Rs} {g : Nat → Int32} {r : Option Value} (h : PX σ S g r u1) {c : Nat} (hc : 73 ≤ c) : u1 c = σ c := by
  rw [h.2 c (by omega), us_n (by omega), us_n (by omega)]
