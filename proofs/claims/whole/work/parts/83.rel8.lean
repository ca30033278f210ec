/-! calls and sends keep the row's invariants -/
theorem RowOK_draw {f : Nat → Int32} (h : RowOK f) : RowOK (drawF f) := RowOK_seed h
theorem RowOK_callF {g : Nat → Int32} {q : Nat} (h : RowOK g) (h1 : ¬ g 1 = 0) (e : g 0 = nI q) (hq : q + 72 ≤ 9999) : RowOK (callF g) ∧ ∃ m, m ≤ 72 ∧ callF g 0 = nI (q + m) := by
  have b := drw_b h.1.1.1 h1
  have h8 := h.h8
  have hD := RowOK_draw h
  have hb : drwB g ≤ 7 := by omega
  have w := way2 hD.1 hb
  have e0 : goF (drawF g) (drwB g) 0 = nI q := by rw [goF_n (by omega) (by omega), drawF_n (by omega)]; exact e
  have r := RowOK_passN (RowOK_goF hD hb) e0 (hk (wayF (drawF g) (hx (drawF g)) (drwB g) + 2)) (by omega)
  rw [callF_eq]
  exact ⟨r.1, _, w.2, r.2⟩
theorem RowOK_callN {g : Nat → Int32} {q : Nat} (h : RowOK g) (h1 : ¬ g 1 = 0) (e : g 0 = nI q) : ∀ n, q + 72 * n ≤ 9999 → RowOK (callN n g) ∧ ∃ m, m ≤ 72 * n ∧ callN n g 0 = nI (q + m) := by
  intro n
  induction n with
  | zero => intro _; exact ⟨h, 0, by omega, e⟩
  | succ n ih =>
    intro hn
    obtain ⟨r, m, hm, em⟩ := ih (by omega)
    obtain ⟨r2, m2, hm2, em2⟩ := RowOK_callF r (by rw [(callN_GV h.1 h1 n).2]; exact h1) em (by omega)
    exact ⟨r2, m + m2, by omega, by show callF (callN n g) 0 = _; rw [em2]; congr 1; omega⟩
theorem RowOK_calls {f : Nat → Int32} {p z : Int32} (h : RowOK f) (hS : S_calls f p = .inr z) : RowOK (callN (hk p) f) := by
  unfold S_calls at hS
  by_cases c1 : inP p 1 12
  · rw [if_pos c1] at hS
    by_cases c2 : 0 < f 3 ∨ f 1 = 0 ∨ 8500 < f 0
    · rw [if_pos c2] at hS; cases hS
    · obtain ⟨m, rfl, hm⟩ := i32_le (m := 12) (by omega) (Int32.le_trans (by decide) c1.1) c1.2
      rw [hk_n (by omega)]
      obtain ⟨q, x, e, hq, -⟩ := h.2.1
      have c3 : ¬ (8500 : Int32) < f 0 := fun y => c2 (Or.inr (Or.inr y))
      rw [e] at c3
      have hz : ¬ 8500 < q := fun y => c3 ((nI_ltI (a := 8500) (b := q) (by omega) (by omega)).mpr y)
      exact (RowOK_callN h (fun y => c2 (Or.inr (Or.inl y))) e m (by omega)).1
  · rw [if_neg c1] at hS; cases hS
theorem RowOK_send {f : Nat → Int32} {p z : Int32} (h : RowOK f) (hS : S_send f p = .inr z) : RowOK (goF f (hk p)) := by
  unfold S_send at hS
  by_cases c1 : isH f p
  · obtain ⟨i, hi, rfl, hi8⟩ := isH_of h.1.1.1 c1
    rw [hk_n (by omega)]
    exact RowOK_goF h (by omega)
  · rw [if_neg c1] at hS; cases hS
