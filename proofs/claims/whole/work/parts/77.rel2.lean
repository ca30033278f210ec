/-! a house's numbers changed -/
theorem Inv_uhG {f : Nat → Int32} {i j : Nat} {y : Int32} (h : Inv f) (hi : i < nh f) (hj : j < 6) (h1 : j = 1 → 0 ≤ y ∧ y ≤ 400) (h2 : j = 2 → 1 ≤ y ∧ y ≤ 40) (h3 : j = 3 → 0 ≤ y ∧ y ≤ 99) (h4 : j = 4 → 0 ≤ y ∧ y ≤ 400) : Inv (uh f i j y) := by
  obtain ⟨a, b, c, d, e⟩ := h
  refine ⟨Can_uh a hi (by omega), fun k hk => ?_, ?_, ?_, ?_⟩
  · rw [nh_uh] at hk
    obtain ⟨a1, a2, a3, a4⟩ := b k hk
    unfold InH
    by_cases e : k = i
    · subst e
      rcases (show j = 0 ∨ j = 1 ∨ j = 2 ∨ j = 3 ∨ j = 4 ∨ j = 5 by omega) with rfl | rfl | rfl | rfl | rfl | rfl
      · simp (disch := omega) only [hf_uh_s, hf_uh_n]; exact ⟨a1, a2, a3, a4⟩
      · simp (disch := omega) only [hf_uh_s, hf_uh_n]; exact ⟨h1 rfl, a2, a3, a4⟩
      · simp (disch := omega) only [hf_uh_s, hf_uh_n]; exact ⟨a1, h2 rfl, a3, a4⟩
      · simp (disch := omega) only [hf_uh_s, hf_uh_n]; exact ⟨a1, a2, h3 rfl, a4⟩
      · simp (disch := omega) only [hf_uh_s, hf_uh_n]; exact ⟨a1, a2, a3, h4 rfl⟩
      · simp (disch := omega) only [hf_uh_s, hf_uh_n]; exact ⟨a1, a2, a3, a4⟩
    · simp (disch := omega) only [hf_uh_n]
      exact ⟨a1, a2, a3, a4⟩
  · rw [uh_lo (by omega)]; exact c
  · rw [uh_lo (by omega)]; exact d
  · rw [uh_lo (by omega)]; exact e
theorem RowOK_uh {f : Nat → Int32} {i j : Nat} {y : Int32} (h : RowOK f) (hi : i < nh f) (hj : j < 5) (h1 : j = 1 → 0 ≤ y ∧ y ≤ 400) (h2 : j = 2 → 1 ≤ y ∧ y ≤ 40) (h3 : j = 3 → 0 ≤ y ∧ y ≤ 99) (h4 : j = 4 → 0 ≤ y ∧ y ≤ 400) : RowOK (uh f i j y) := by
  have h8 := h.h8
  refine ⟨⟨Inv_uhG h.1.1 hi (by omega) h1 h2 h3 h4, ⟨fun k hk => ?_, ?_⟩, ?_, ?_⟩, ?_, fun k hk => ?_⟩
  · rw [uh_lo (by omega)]; exact h.1.2.1.1 k hk
  · rw [uh_lo (by omega)]; exact h.1.2.1.2
  · unfold hx; rw [uh_lo (by omega)]; exact h.1.2.2.1
  · unfold hx; rw [uh_lo (by omega)]; exact h.1.2.2.2
  · obtain ⟨q, x, e, hq, e2, hx2, hb⟩ := h.2.1
    refine ⟨q, x, by rw [uh_lo (by omega)]; exact e, hq, by rw [uh_lo (by omega)]; exact e2, hx2, fun k hk => ?_⟩
    rw [nh_uh] at hk
    obtain ⟨b, eb, hbq⟩ := hb k hk
    exact ⟨b, by show upd f (15 + 6 * i + j) y (15 + 6 * k + 5) = _; rw [upd_n (by omega)]; exact eb, hbq⟩
  · have e1 : uh f i j y (63 + k) = f (63 + k) := upd_n (by omega)
    rw [e1]
    unfold isH
    rw [uh_lo (by omega)]
    exact h.2.2 k hk
theorem RowOK_change {f : Nat → Int32} {a w v z : Int32} (h : RowOK f) (hS : S_change f a w v = .inr z) : RowOK (uh f (hk a) (hk w) v) := by
  unfold S_change at hS
  by_cases c1 : isH f a
  · rw [if_pos c1] at hS
    by_cases c2 : inP w 0 4
    · rw [if_pos c2] at hS
      by_cases c3 : inP v (loV w) (hiV w)
      · obtain ⟨i, hi, rfl, hi8⟩ := isH_of h.1.1.1 c1
        obtain ⟨j, rfl, hj⟩ := i32_le (m := 4) (by omega) c2.1 c2.2
        rw [hk_n (by omega), hk_n (by omega)]
        refine RowOK_uh h hi (by omega) ?_ ?_ ?_ ?_ <;> (intro e; subst e; exact c3)
      · rw [if_neg c3] at hS; cases hS
    · rw [if_neg c2] at hS; cases hS
  · rw [if_neg c1] at hS; cases hS
theorem RowOK_steepS {f : Nat → Int32} {i v z : Int32} (h : RowOK f) (hS : S_steep f i v = .inr z) : RowOK (upd f (8 + hk i) v) := by
  unfold S_steep at hS
  by_cases c1 : inP i 0 6
  · rw [if_pos c1] at hS
    by_cases c2 : inP v 0 9
    · obtain ⟨j, rfl, hj⟩ := i32_le (m := 6) (by omega) c1.1 c1.2
      rw [hk_n (by omega)]
      exact RowOK_steep h (by omega) c2
    · rw [if_neg c2] at hS; cases hS
  · rw [if_neg c1] at hS; cases hS
