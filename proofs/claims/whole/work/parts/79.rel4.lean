/-! quarters pass -/
theorem uh_o {f : Nat → Int32} {j s q : Nat} {y : Int32} (hj : j < 8) (hs : s = 1 ∨ s = 3) (hq : (q % 6 = 2 ∧ 15 ≤ q) ∨ 63 ≤ q) : uh f j s y q = f q := upd_n (by omega)
theorem getF_o {f : Nat → Int32} {j q : Nat} {b : Int32} (hj : j < 8) (hq : (q % 6 = 2 ∧ 15 ≤ q) ∨ 63 ≤ q) : getF f j b q = f q := by
  unfold getF
  first
    | exact uh_o hj (Or.inl rfl) hq
    | (split
       · exact uh_o hj (Or.inl rfl) hq
       · rfl)
theorem burnF_o {f : Nat → Int32} {h q : Nat} (hh : h < 8) (h8 : nh f ≤ 8) (hq : (q % 6 = 2 ∧ 15 ≤ q) ∨ 63 ≤ q) : burnF f h q = f q := by
  have base : ∀ y z w, uh (upd (uh f h 3 y) 4 z) h 1 w q = f q := fun y z w => by
    rw [uh_o hh (Or.inl rfl) hq, upd_n (by omega), uh_o hh (Or.inr rfl) hq]
  unfold burnF
  by_cases c1 : 1 ≤ h
  · by_cases c2 : h + 1 < nh f
    · rw [if_pos c2, if_pos c1, getF_o (by omega) hq, getF_o (by omega) hq]; exact base _ _ _
    · rw [if_neg c2, if_pos c1, getF_o (by omega) hq]; exact base _ _ _
  · by_cases c2 : h + 1 < nh f
    · rw [if_pos c2, if_neg c1, getF_o (by omega) hq]; exact base _ _ _
    · rw [if_neg c2, if_neg c1]; exact base _ _ _
theorem coolN_o {f : Nat → Int32} {q : Nat} (hq : (q % 6 = 2 ∧ 15 ≤ q) ∨ 63 ≤ q) : ∀ n, n ≤ 8 → coolN n f q = f q := by
  intro n
  induction n with
  | zero => intro _; rfl
  | succ n ih =>
    intro hn
    show uh (coolN n f) n 1 _ q = _
    rw [uh_o (by omega) (Or.inl rfl) hq, ih (by omega)]
theorem tickF_o {f : Nat → Int32} {q : Nat} (hq : 4 ≤ q) : tickF f q = f q := by
  unfold tickF
  rw [upd_n (by omega)]
  split
  · exact upd_n (by omega)
  · rfl
theorem cool_o {f : Nat → Int32} {q : Nat} (hh : hx f < 8) (h8 : nh f ≤ 8) (hq : (q % 6 = 2 ∧ 15 ≤ q) ∨ 63 ≤ q) : coolN (nh f) (if canB f then burnF f (hx f) else f) q = f q := by
  rw [coolN_o hq _ h8]
  split
  · exact burnF_o hh h8 hq
  · rfl
theorem quarter_o {f : Nat → Int32} {q : Nat} (hh : hx f < 8) (h8 : nh f ≤ 8) (hq : 63 ≤ q) : quarterF f q = f q := by
  have base := cool_o hh h8 (Or.inr hq)
  unfold quarterF qF
  rw [tickF_o (by omega)]
  generalize coolN (nh f) (if canB f then burnF f (hx f) else f) = g at base ⊢
  unfold brdF
  split
  · exact (upd_n (by omega)).trans base
  · exact base
theorem quarter_5 {f : Nat → Int32} {i : Nat} (hh : hx f < 8) (h8 : nh f ≤ 8) (hi : i < 8) : hf (quarterF f) i 5 = hf f i 5 ∨ hf (quarterF f) i 5 = hf f i 5 + 1 := by
  have base := fun i (hi : i < 8) => cool_o (q := 15 + 6 * i + 5) hh h8 (Or.inl ⟨by omega, by omega⟩)
  show quarterF f (15 + 6 * i + 5) = f (15 + 6 * i + 5) ∨ quarterF f (15 + 6 * i + 5) = f (15 + 6 * i + 5) + 1
  unfold quarterF qF
  rw [tickF_o (by omega)]
  generalize coolN (nh f) (if canB f then burnF f (hx f) else f) = g at base ⊢
  unfold brdF
  split
  · by_cases e : i = hx f
    · right
      have e2 : uh g (hx f) 5 (hf g (hx f) 5 + 1) (15 + 6 * i + 5) = hf g (hx f) 5 + 1 := by rw [e]; exact upd_s _ _ _
      rw [e2, ← e]
      show g (15 + 6 * i + 5) + 1 = _
      rw [base i hi]
    · left
      exact (upd_n (by omega)).trans (base i hi)
  · left; exact base i hi
