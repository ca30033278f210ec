/-! the row's invariants while quarters pass -/
theorem quarter_0 {f : Nat → Int32} : quarterF f 0 = f 0 + 1 := by
  have c0 : ∀ (g : Nat → Int32) n, coolN n g 0 = g 0 := fun g n => by
    induction n with
    | zero => rfl
    | succ n ih => show uh (coolN n g) n 1 _ 0 = _; rw [uh_lo (by omega), ih]
  have g0 : ∀ (g : Nat → Int32) j b, getF g j b 0 = g 0 := fun g j b => by
    unfold getF
    split
    · exact uh_lo (by omega)
    · rfl
  have b0 : burnF f (hx f) 0 = f 0 := by
    have base : ∀ y z w, uh (upd (uh f (hx f) 3 y) 4 z) (hx f) 1 w 0 = f 0 := fun y z w => by
      rw [uh_lo (by omega), upd_n (by omega), uh_lo (by omega)]
    unfold burnF
    by_cases c1 : 1 ≤ hx f
    · by_cases c2 : hx f + 1 < nh f
      · rw [if_pos c2, if_pos c1, g0, g0]; exact base _ _ _
      · rw [if_neg c2, if_pos c1, g0]; exact base _ _ _
    · by_cases c2 : hx f + 1 < nh f
      · rw [if_pos c2, if_neg c1, g0]; exact base _ _ _
      · rw [if_neg c2, if_neg c1]; exact base _ _ _
  have base : coolN (nh f) (if canB f then burnF f (hx f) else f) 0 = f 0 := by
    rw [c0]
    split
    · exact b0
    · rfl
  unfold quarterF qF
  generalize coolN (nh f) (if canB f then burnF f (hx f) else f) = g at base ⊢
  have e : brdF (canB f) g (hx f) 0 = f 0 := by
    unfold brdF
    split
    · exact (uh_lo (by omega)).trans base
    · exact base
  generalize brdF (canB f) g (hx f) = h at e ⊢
  unfold tickF
  rw [upd_s]
  congr 1
  split
  · exact (upd_n (by omega)).trans e
  · exact e
theorem RowOK_quarter {f : Nat → Int32} (h : RowOK f) (hq : f 0 < 9999) : RowOK (quarterF f) := by
  have h8 := h.h8
  have hh : hx f < 8 := by have := h.1.2.2.2; omega
  have hnh : nh (quarterF f) = nh f := nh_passN (f := f) 1
  obtain ⟨q, x, e, hq9, e4, hx2, hb⟩ := h.2.1
  have hlt : q < 9999 := (nI_ltI (a := q) (b := 9999) (by omega) (by omega)).mp (by rw [← e]; exact hq)
  obtain ⟨j, hj, e5⟩ := quarter_4 e4
  refine ⟨GV_passN h.1 1, ⟨q + 1, x + j, by rw [quarter_0, e, nI_1], by omega, e5, by omega, fun i hi => ?_⟩, fun k hk => ?_⟩
  · rw [hnh] at hi
    obtain ⟨b, eb, hbq⟩ := hb i hi
    rcases quarter_5 (i := i) hh h8 (by omega) with z | z
    · exact ⟨b, by rw [z, eb], by omega⟩
    · exact ⟨b + 1, by rw [z, eb, nI_1], by omega⟩
  · rw [quarter_o hh h8 (by omega)]
    unfold isH
    rw [show quarterF f 1 = f 1 from passN_lo (by omega) (by omega) (by omega) (by omega) 1]
    exact h.2.2 k hk
theorem RowOK_passN {f : Nat → Int32} {q : Nat} (h : RowOK f) (e : f 0 = nI q) : ∀ n, q + n ≤ 9999 → RowOK (passN n f) ∧ passN n f 0 = nI (q + n) := by
  intro n
  induction n with
  | zero => intro _; exact ⟨h, e⟩
  | succ n ih =>
    intro hn
    obtain ⟨h1, h2⟩ := ih (by omega)
    refine ⟨RowOK_quarter h1 (by rw [h2]; exact nI_lt (b := 9999) (by omega) (by omega)), ?_⟩
    show quarterF (passN n f) 0 = _
    rw [quarter_0, h2, nI_1]
    rfl
