/-! what the village's own methods want besides -/
theorem LH.forget {nL : Nat} {L : List (Option Value)} {ls : Array Slot} (i : Nat) (h : LH nL L ls) : LH nL (L.set i none) ls := by
  refine ⟨by rw [List.length_set]; exact h.1, h.2.1, h.2.2.1, fun q hq => h.2.2.2 q ?_⟩
  obtain ⟨j, w⟩ := q
  obtain ⟨k, hk, hw⟩ := (lvL_mem _ 0 j w).mp hq
  have hjk : k = j := by omega
  subst hjk
  by_cases hki : k = i
  · subst hki
    by_cases hlt : k < L.length
    · rw [List.getElem?_set_self hlt] at hw; cases hw
    · rw [List.getElem?_eq_none (by rw [List.length_set]; omega)] at hw; cases hw
  · rw [List.getElem?_set_ne (Ne.symm hki)] at hw
    exact (lvL_mem L 0 k w).mpr ⟨k, by omega, hw⟩
theorem V_forget {x : Cx} {A : Nat → Prop} {P : Heap → Prop} {k n pc : Nat} {L : List (Option Value)} {st : List Value} (i : Nat) (h : V x A P k n pc (L.set i none) st) : V x A P k n pc L st := by
  obtain ⟨p, l, e, R', s, m, args, below, meth, c, Q⟩ := x
  intro H locs ls hP hS hL
  exact h H locs ls hP hS (hL.forget i)
theorem mx_nI {a b : Nat} (ha : a < 2 ^ 31) (hb : b < 2 ^ 31) : (if nI a < nI b then nI b else nI a) = nI (max a b) := by
  by_cases h : a < b
  · rw [if_pos (nI_lt h hb), Nat.max_eq_right (by omega)]
  · rw [if_neg (nI_nlt (by omega) ha), Nat.max_eq_left (by omega)]
theorem mn_nI {a b : Nat} (ha : a < 2 ^ 31) (hb : b < 2 ^ 31) : (if nI b < nI a then nI b else nI a) = nI (min a b) := by
  by_cases h : b < a
  · rw [if_pos (nI_lt h ha), Nat.min_eq_right (by omega)]
  · rw [if_neg (nI_nlt (by omega) hb), Nat.min_eq_left (by omega)]
/-- another number of houses: what lay in the memory behind the last one is seen -/
def regrow (f : Nat → Int32) (m : Nat) (a : Nat → Int32) : Nat → Int32 := fun k => if k = 1 then nI m else if 15 ≤ k ∧ k < 63 then (if (k - 15) / 6 < m then a k else 0) else f k
theorem regrow_nh {f a : Nat → Int32} {m : Nat} (hm : m ≤ 8) : nh (regrow f m a) = m := by
  unfold nh regrow; rw [if_pos rfl, nI_clamp (by omega)]
theorem regrow_hf {f a : Nat → Int32} {m i j : Nat} (hi : i < 8) (hj : j < 6) : hf (regrow f m a) i j = if i < m then a (15+6*i+j) else 0 := by
  unfold hf regrow
  rw [if_neg (by omega), if_pos (by omega), show (15+6*i+j-15)/6 = i by omega]
theorem regrow_lo {f a : Nat → Int32} {m k : Nat} (h1 : k ≠ 1) (hk : k < 15 ∨ 63 ≤ k) : regrow f m a k = f k := by
  unfold regrow; rw [if_neg h1, if_neg (by omega)]
theorem Can_regrow {f a : Nat → Int32} {m : Nat} (h : Can f) (hm : m ≤ 8) : Can (regrow f m a) := by
  obtain ⟨h1, h2, h3, h4⟩ := h
  refine ⟨by rw [regrow_nh hm]; rfl, by rw [regrow_nh hm]; exact hm, fun k hk => by rw [regrow_lo (by omega) (by omega)]; exact h3 k hk, fun i j a b c => ?_⟩
  rw [regrow_nh hm] at a
  rw [regrow_hf b c, if_neg (by omega)]
theorem abs_houses {σ ρ : Sg} {v m : Nat} (h : ABS σ ρ) (hv : v < 5) (hm : m ≤ 8) : ∃ a : {a : Nat → Int32 // ∀ i j, i < nh (σ v) → j < 6 → a (15+6*i+j) = hf (σ v) i j}, ABS (us σ v (regrow (σ v) m a.1)) (us ρ (12*v) (upd (ρ (12*v)) 3 (nI m))) := by
  obtain ⟨h1, h2, h3, h4, h5⟩ := (h.1 v hv).1
  refine ⟨⟨fun k => ρ (12*v+4+(k-15)/6) ((k-15)%6), fun i j a b => ?_⟩, ?_⟩
  · show ρ (12*v+4+(15+6*i+j-15)/6) ((15+6*i+j-15)%6) = _
    rw [show (15+6*i+j-15)/6 = i by omega, show (15+6*i+j-15)%6 = j by omega]
    exact h5 i j a b
  · refine h.vil hv (by omega) (by omega) ⟨Can_regrow h1 hm, fun j' a b => ?_, fun i' a => ?_, fun i' a => ?_, fun i' j' a b => ?_⟩ (by rw [us_s, upd_n (by omega)]) (by rw [us_s, upd_n (by omega)])
    · rw [us_s]
      by_cases e : j' = 3
      · subst e; rw [upd_s]; rfl
      · rw [upd_n e, regrow_lo (vsl_1 j' b (by omega)) (by have := vsl_lt j'; omega)]; exact h2 j' a b
    · rw [us_n (by omega), h3 i' a, regrow_lo (by omega) (by omega)]
    · rw [us_n (by omega), h4 i' a, regrow_lo (by omega) (by omega)]
    · rw [regrow_nh hm] at a
      rw [us_n (by omega), regrow_hf (by omega) b, if_pos a]
      show _ = ρ (12*v+4+(15+6*i'+j'-15)/6) ((15+6*i'+j'-15)%6)
      rw [show (15+6*i'+j'-15)/6 = i' by omega, show (15+6*i'+j'-15)%6 = j' by omega]
theorem wrHouses {x : Cx} {E : En} {σ : Sg} {v m : Nat} (hv : v < 5) (hm : m ≤ 8) : WrF (xs x) (eA E) (AP x E σ) (ad E (vb v)) RX5 TX5 13 3 (.int (nI m)) (fun H => ∃ a : {a : Nat → Int32 // ∀ i j, i < nh (σ v) → j < 6 → a (15+6*i+j) = hf (σ v) i j}, AP x E (us σ v (regrow (σ v) m a.1)) H) := by
  rintro H ⟨ρ, h1, h2⟩
  obtain ⟨a, ha⟩ := abs_houses h1 hv hm
  obtain ⟨D, cl, tys, ws, q0, ci, fs, a1, a2, a3, a4, a5, a6, a7⟩ := wrF (x := x) (E := E) (ρ := ρ) (c := 12*v) (j := 3) (v := .int (nI m)) (by have := eN_ge E; omega) (cel_vil hv) rfl (by simp) (g := upd (ρ (12*v)) 3 (nI m)) (by rw [cel_vil hv]; simp [upd]) H h2
  exact ⟨D, cl, tys, ws, q0, ci, fs, a1, a2, a3, a4, a5, a6, fun H1 hH => ⟨a, _, ha, a7 H1 hH⟩⟩
/-- two int arrays of one memory -/
def CpA (s : State) (A : Nat → Prop) (P : Heap → Prop) (a0 n0 a1 n1 : Nat) (nn : Nat) (P' : Heap → Prop) : Prop := ∀ H, P H → ∃ (D : va_G) (cl : List vw_C) (tys : List (ClassId × FieldType)) (ws : va_W) (q0 q1 t0 : Nat) (cA : ClassId) (f g : Nat → Int32), va_K D cl tys s ∧ va_P D cl ws H ∧ va_D A ws ∧ ws[q0]? = some (a0, .inl (cA, n0, .inl f)) ∧ ws[q1]? = some (a1, .inl (cA, n1, .inl g)) ∧ tys[t0]? = some (cA, .int) ∧ ∀ H1 : Heap, va_P D cl (ws.set q1 (a1, .inl (cA, n1, .inl (va_cpy f g 0 0 nn)))) H1 → P' H1
theorem V_acopy {x : Cx} {cc : ByteArray} {own : String} {R : Room} {A : Nat → Prop} {P P' : Heap → Prop} {k n pc pc' : Nat} {L : List (Option Value)} {st : List Value} {a0 a1 n0 n1 idx : Nat} {m : Int32} (C : CX x cc own R) (q : Nat) (hm : m = nI q) (hq0 : q ≤ n0) (hq1 : q ≤ n1) (hn : n0 < 1000) (hd : D1 cc pc (.invokestatic idx) 3 pc') (hl : Cond.methodLink own idx arraycopyName ∈ lw_gd) (w1 : Cond.native arraycopyName ∈ lw_gd) (w2 : Cond.static arraycopyName ∈ lw_gd) (w3 : Cond.initialized "java/lang/System" ∈ lw_gd) (hr : CpA (xs x) A P a0 n0 a1 n1 q P') (hf : Nat.ble 1 R.frames = true) (hlo : Nat.ble ((st.map fun v => v.category).sum + (nativeFrameWords "java/lang/System" "arraycopy" 5 + 11)) R.locals = true)
    (h : V x A P' k n pc' L st) : V x A P k n pc L (.int m :: .int 0 :: .ref a1 :: .int 0 :: .ref a0 :: st) := by
  obtain ⟨p, l, e, R', s, mm, args, below, meth, c, Q⟩ := x
  obtain ⟨hx, hb, hR, hown, hts⟩ := C
  obtain ⟨hd, rfl⟩ := hd
  have hR : R' = R := hR
  subst hR
  subst hm
  intro H locs ls hP hS hL
  obtain ⟨D, cl, tys, ws, q0, q1, t0, cA, f, g, hK, hp, hD, ha0, ha1, ht, hH⟩ := hr H hP
  have e0 : (0 : Int32).toNatClampNeg = 0 := by decide
  have e1 : (nI q).toNatClampNeg = q := nI_clamp (by omega)
  refine va_copyi hx hb hL.2.1.symm hown (hts _ hl) (hts _ w1) (hts _ w2) (hts _ w3) hK hp hD hS q0 q1 t0 t0 ha0 ha1 ht ht rfl (by decide) (by decide) (nI_pos (by omega)) (by rw [e0, e1]; omega) (by rw [e0, e1]; omega) (fun i hi => rfl) (Nat.le_of_ble_eq_true hf) (Nat.le_of_ble_eq_true hlo) hd (fun H1 locs1 hp1 _ hS1 => h H1 locs1 ls (hH H1 ?_) hS1 hL)
  rw [e0, e1] at hp1
  exact hp1
def cpS (f g : Nat → Int32) : Nat → Int32 := fun k => if 8 ≤ k ∧ k < 15 then g k else f k
def cpP (f g : Nat → Int32) : Nat → Int32 := fun k => if 63 ≤ k ∧ k < 73 then g k else f k
theorem Can_cp {f g : Nat → Int32} (h : Can f) (e1 : g 1 = f 1) (e2 : ∀ k, 73 ≤ k → g k = f k) (e3 : ∀ i j, i < 8 → j < 6 → hf g i j = hf f i j) : Can g := by
  have en : nh g = nh f := by unfold nh; rw [e1]
  obtain ⟨h1, h2, h3, h4⟩ := h
  exact ⟨by rw [en, e1]; exact h1, by rw [en]; exact h2, fun k hk => by rw [e2 k hk]; exact h3 k hk, fun i j a b c => by rw [e3 i j b c]; exact h4 i j (by omega) b c⟩
theorem abs_cpS {σ ρ : Sg} {v w : Nat} (h : ABS σ ρ) (hv : v < 5) (hw : w < 5) : ABS (us σ v (cpS (σ v) (σ w))) (us ρ (12*v+2) (va_cpy (ρ (12*w+2)) (ρ (12*v+2)) 0 0 7)) := by
  obtain ⟨h1, h2, h3, h4, h5⟩ := (h.1 v hv).1
  have g3 := (h.1 w hw).1.2.2.1
  have h8 := h1.2.1
  refine h.vil hv (by omega) (by omega) ⟨Can_cp h1 (if_neg (by omega)) (fun k hk => if_neg (by omega)) (fun i j a b => if_neg (by omega)), fun j' a b => ?_, fun i' a => ?_, fun i' a => ?_, fun i' j' a b => ?_⟩ (by rw [us_n (by omega)]) (by rw [us_n (by omega)])
  · have := vsl_lt j'
    rw [us_n (by omega), h2 j' a b]; exact (if_neg (by omega)).symm
  · rw [us_s, pk_cpy_in (by omega) (by omega), show 0 + (i' - 0) = i' by omega, g3 i' a]; exact (if_pos (by omega)).symm
  · rw [us_n (by omega), h4 i' a]; exact (if_neg (by omega)).symm
  · have en : nh (cpS (σ v) (σ w)) = nh (σ v) := by unfold nh cpS; rw [if_neg (by omega)]
    rw [en] at a
    rw [us_n (by omega), h5 i' j' a b]; exact (if_neg (by omega)).symm
theorem abs_cpP {σ ρ : Sg} {v w : Nat} (h : ABS σ ρ) (hv : v < 5) (hw : w < 5) : ABS (us σ v (cpP (σ v) (σ w))) (us ρ (12*v+3) (va_cpy (ρ (12*w+3)) (ρ (12*v+3)) 0 0 10)) := by
  obtain ⟨h1, h2, h3, h4, h5⟩ := (h.1 v hv).1
  have g3 := (h.1 w hw).1.2.2.2.1
  have h8 := h1.2.1
  refine h.vil hv (by omega) (by omega) ⟨Can_cp h1 (if_neg (by omega)) (fun k hk => if_neg (by omega)) (fun i j a b => if_neg (by omega)), fun j' a b => ?_, fun i' a => ?_, fun i' a => ?_, fun i' j' a b => ?_⟩ (by rw [us_n (by omega)]) (by rw [us_n (by omega)])
  · have := vsl_lt j'
    rw [us_n (by omega), h2 j' a b]; exact (if_neg (by omega)).symm
  · rw [us_n (by omega), h3 i' a]; exact (if_neg (by omega)).symm
  · rw [us_s, pk_cpy_in (by omega) (by omega), show 0 + (i' - 0) = i' by omega, g3 i' a]; exact (if_pos (by omega)).symm
  · have en : nh (cpP (σ v) (σ w)) = nh (σ v) := by unfold nh cpP; rw [if_neg (by omega)]
    rw [en] at a
    rw [us_n (by omega), h5 i' j' a b]; exact (if_neg (by omega)).symm
theorem cpA_of {x : Cx} {E : En} {σ σ' : Sg} {c c' n0 n1 nn : Nat} (hc : c < 85) (hc' : c' < 85) (he : ∀ f, celf E c f = arI E n0 f) (he' : ∀ f, celf E c' f = arI E n1 f) (h : ∀ ρ, ABS σ ρ → ABS σ' (us ρ c' (va_cpy (ρ c) (ρ c') 0 0 nn))) : CpA (xs x) (eA E) (AP x E σ) (ad E c) n0 (ad E c') n1 nn (AP x E σ') := by
  rintro H ⟨ρ, h1, h2⟩
  have g1 : c < eN E := by have := eN_ge E; omega
  have g2 : c' < eN E := by have := eN_ge E; omega
  refine ⟨eD E, classes, tysE E, wld E ρ, c, c', 0, eI E, ρ c, ρ c', h2.1, h2.2.1, h2.2.2, by rw [wld_get g1, he]; rfl, by rw [wld_get g2, he']; rfl, rfl, fun H1 hH => ⟨_, h ρ h1, h2.1, ?_, ?_⟩⟩
  · rw [← wld_set g2, he']; exact hH
  · rw [← wld_set g2]; exact h2.2.2.set (wld_get g2)
theorem cpaS {x : Cx} {E : En} {σ : Sg} {v w : Nat} (hv : v < 5) (hw : w < 5) : CpA (xs x) (eA E) (AP x E σ) (ad E (tc w)) 7 (ad E (tc v)) 7 7 (AP x E (us σ v (cpS (σ v) (σ w)))) := cpA_of (c := 12*w+2) (c' := 12*v+2) (by omega) (by omega) (fun f => cel_st hw) (fun f => cel_st hv) (fun _ h => abs_cpS h hv hw)
theorem cpaP {x : Cx} {E : En} {σ : Sg} {v w : Nat} (hv : v < 5) (hw : w < 5) : CpA (xs x) (eA E) (AP x E σ) (ad E (qc w)) 10 (ad E (qc v)) 10 10 (AP x E (us σ v (cpP (σ v) (σ w)))) := cpA_of (c := 12*w+3) (c' := 12*v+3) (by omega) (by omega) (fun f => cel_sp hw) (fun f => cel_sp hv) (fun _ h => abs_cpP h hv hw)
theorem V_nx {x : Cx} {E : En} {A : Nat → Prop} {σ σ' : Sg} {k n pc : Nat} {L L' : List (Option Value)} {st : List Value} (hs : σ = σ') (hl : L = L') (h : V x A (AP x E σ') k n pc L' st) : V x A (AP x E σ) k n pc L st := by
  subst hs; subst hl; exact h
