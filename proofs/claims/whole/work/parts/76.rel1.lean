/-! what holds of the system's row all along -/
def BQ (f : Nat → Int32) : Prop := ∃ q x, f 0 = nI q ∧ q ≤ 9999 ∧ f 4 = nI x ∧ x ≤ 2 * q ∧ ∀ i, i < nh f → ∃ b, hf f i 5 = nI b ∧ b ≤ q
def RowOK (f : Nat → Int32) : Prop := GV f ∧ BQ f ∧ SpV f
theorem RowOK.hQ {f : Nat → Int32} (h : RowOK f) : inP (f 0) 0 9999 := by
  obtain ⟨q, x, e, hq, -⟩ := h.2.1
  rw [e]
  exact ⟨nI_pos' (by omega), nI_le (b := 9999) (by omega) (by decide)⟩
theorem RowOK.q4 {f : Nat → Int32} (h : RowOK f) : Q4 f 20000 := by
  obtain ⟨q, x, e, hq, e2, hx, -⟩ := h.2.1
  exact ⟨x, e2, by omega⟩
theorem RowOK.hB {f : Nat → Int32} (h : RowOK f) : ∀ i, i < nh f → inP (hf f i 5) 0 9999 := by
  obtain ⟨q, x, e, hq, e2, hx, hb⟩ := h.2.1
  intro i hi
  obtain ⟨b, eb, hbq⟩ := hb i hi
  rw [eb]
  exact ⟨nI_pos' (by omega), nI_le (b := 9999) (by omega) (by decide)⟩
theorem RowOK.h8 {f : Nat → Int32} (h : RowOK f) : nh f ≤ 8 := h.1.1.1.2.1
theorem BQ_upd {f : Nat → Int32} {k : Nat} {y : Int32} (h : BQ f) (h8 : nh f ≤ 8) (h0 : k ≠ 0) (h1 : k ≠ 1) (h4 : k ≠ 4) (hk : k < 15 ∨ 63 ≤ k) : BQ (upd f k y) := by
  obtain ⟨q, x, e, hq, e2, hx, hb⟩ := h
  refine ⟨q, x, by rw [upd_n (by omega)]; exact e, hq, by rw [upd_n (by omega)]; exact e2, hx, fun i hi => ?_⟩
  rw [nh_upd h1] at hi
  obtain ⟨b, eb, hbq⟩ := hb i hi
  exact ⟨b, by show upd f k y (15 + 6 * i + 5) = _; rw [upd_n (by omega)]; exact eb, hbq⟩
theorem RowOK_seed {f : Nat → Int32} {y : Int32} (h : RowOK f) : RowOK (upd f 7 y) := by
  refine ⟨⟨Inv_upd h.1.1 (by omega) (by omega) (by omega) (by omega) (by omega), ⟨fun i hi => ?_, ?_⟩, ?_, ?_⟩, BQ_upd h.2.1 h.h8 (by omega) (by omega) (by omega) (by omega), fun k hk => ?_⟩
  · rw [upd_n (by omega)]; exact h.1.2.1.1 i hi
  · rw [upd_n (by omega)]; exact h.1.2.1.2
  · rw [hx_upd (by omega), upd_n (by omega)]; exact h.1.2.2.1
  · rw [hx_upd (by omega)]; exact h.1.2.2.2
  · rw [upd_n (by omega)]; unfold isH; rw [upd_n (by omega)]; exact h.2.2 k hk
theorem RowOK_steep {f : Nat → Int32} {i : Nat} {y : Int32} (h : RowOK f) (hi : i < 7) (hy : inP y 0 9) : RowOK (upd f (8 + i) y) := by
  refine ⟨⟨Inv_upd h.1.1 (by omega) (by omega) (by omega) (by omega) (by omega), ⟨fun j hj => ?_, ?_⟩, ?_, ?_⟩, BQ_upd h.2.1 h.h8 (by omega) (by omega) (by omega) (by omega), fun k hk => ?_⟩
  · by_cases e : j = i
    · subst e; rw [upd_s]; exact hy
    · rw [upd_n (by omega)]; exact h.1.2.1.1 j hj
  · rw [upd_n (by omega)]; exact h.1.2.1.2
  · rw [hx_upd (by omega), upd_n (by omega)]; exact h.1.2.2.1
  · rw [hx_upd (by omega)]; exact h.1.2.2.2
  · rw [upd_n (by omega)]; unfold isH; rw [upd_n (by omega)]; exact h.2.2 k hk
theorem RowOK_hold {f : Nat → Int32} {s : Nat} {y : Int32} (h : RowOK f) (hs : s < 10) (hy : y = -1 ∨ isH f y) : RowOK (upd f (63 + s) y) := by
  refine ⟨⟨Inv_upd h.1.1 (by omega) (by omega) (by omega) (by omega) (by omega), ⟨fun j hj => ?_, ?_⟩, ?_, ?_⟩, BQ_upd h.2.1 h.h8 (by omega) (by omega) (by omega) (by omega), fun k hk => ?_⟩
  · rw [upd_n (by omega)]; exact h.1.2.1.1 j hj
  · rw [upd_n (by omega)]; exact h.1.2.1.2
  · rw [hx_upd (by omega), upd_n (by omega)]; exact h.1.2.2.1
  · rw [hx_upd (by omega)]; exact h.1.2.2.2
  · unfold isH
    by_cases e : k = s
    · subst e; rw [upd_s, upd_n (by omega)]; exact hy
    · rw [upd_n (by omega), upd_n (by omega)]; exact h.2.2 k hk
/-- the weather -/
theorem RowOK_out {f : Nat → Int32} {y : Int32} (h : RowOK f) (hy : inP y 0 100) : RowOK (upd f 6 y) := by
  refine ⟨⟨Inv_upd h.1.1 (by omega) (by omega) (by omega) (by omega) (fun _ => hy), ⟨fun j hj => ?_, ?_⟩, ?_, ?_⟩, BQ_upd h.2.1 h.h8 (by omega) (by omega) (by omega) (by omega), fun k hk => ?_⟩
  · rw [upd_n (by omega)]; exact h.1.2.1.1 j hj
  · rw [upd_n (by omega)]; exact h.1.2.1.2
  · rw [hx_upd (by omega), upd_n (by omega)]; exact h.1.2.2.1
  · rw [hx_upd (by omega)]; exact h.1.2.2.2
  · rw [upd_n (by omega)]; unfold isH; rw [upd_n (by omega)]; exact h.2.2 k hk
theorem RowOK_ice {f : Nat → Int32} {y : Int32} (h : RowOK f) (hy : inP y 0 1) : RowOK (upd f 5 y) := by
  refine ⟨⟨Inv_upd h.1.1 (by omega) (by omega) (by omega) (by omega) (by omega), ⟨fun j hj => ?_, ?_⟩, ?_, ?_⟩, BQ_upd h.2.1 h.h8 (by omega) (by omega) (by omega) (by omega), fun k hk => ?_⟩
  · rw [upd_n (by omega)]; exact h.1.2.1.1 j hj
  · rw [upd_s]; exact hy
  · rw [hx_upd (by omega), upd_n (by omega)]; exact h.1.2.2.1
  · rw [hx_upd (by omega)]; exact h.1.2.2.2
  · rw [upd_n (by omega)]; unfold isH; rw [upd_n (by omega)]; exact h.2.2 k hk
