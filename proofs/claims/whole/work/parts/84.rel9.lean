/-! a sheet loaded keeps the row's invariants -/
theorem fst_fal {p : Nat → Bool} : ∀ (m a : Nat), (match fstN p m a with | some i => a ≤ i ∧ i < a + m ∧ ∀ j, a ≤ j → j < i → p j = false | none => ∀ j, a ≤ j → j < a + m → p j = false) := by
  intro m
  induction m with
  | zero => intro a; exact fun j h1 h2 => by omega
  | succ m ih =>
    intro a
    unfold fstN
    by_cases c : p a = true
    · rw [if_pos c]
      exact ⟨Nat.le_refl _, by omega, fun j h1 h2 => by omega⟩
    · rw [if_neg c]
      have h := ih (a + 1)
      have ca : p a = false := by simpa using c
      generalize fstN p m (a + 1) = o at h ⊢
      cases o with
      | none =>
        intro j h1 h2
        by_cases e : j = a
        · subst e; exact ca
        · exact h j (by omega) (by omega)
      | some i =>
        refine ⟨by have := h.1; omega, by have := h.2.1; omega, fun j h1 h2 => ?_⟩
        by_cases e : j = a
        · subst e; exact ca
        · exact h.2.2 j (by omega) h2
theorem ldK_fal {f g : Nat → Int32} {n : Nat} : ∀ j, j < ldK f g n → ldP f g j = false := by
  have h := fst_fal (p := ldP f g) n 0
  unfold ldK
  generalize fstN (ldP f g) n 0 = o at h ⊢
  cases o with
  | none => exact fun j hj => h j (by omega) (by have hj2 : j < n := hj; omega)
  | some i => exact fun j hj => h.2.2 j (by omega) hj
theorem RowOK_ld {f g : Nat → Int32} (h : RowOK f) : ∀ n, (∀ j, j < n → ldP f g j = false) → RowOK (ldF f g n) ∧ nh (ldF f g n) = nh f := by
  intro n
  induction n with
  | zero => intro _; exact ⟨h, rfl⟩
  | succ n ih =>
    intro hp
    obtain ⟨h1, h2⟩ := ih (fun j hj => hp j (by omega))
    have hn := hp n (by omega)
    unfold ldP at hn
    simp only [Bool.not_eq_false', Bool.and_eq_true, decide_eq_true_eq] at hn
    exact ⟨RowOK_uh h1 (by rw [h2]; exact hn.1) (by omega) (by omega) (by omega) (fun _ => hn.2) (by omega), by show nh (uh (ldF f g n) n 3 (g n)) = _; rw [nh_uh, h2]⟩
theorem RowOK_load {σ : Sg} {s : Nat} (h : RowOK (σ 0)) : RowOK (N_load σ s) := (RowOK_ld h _ ldK_fal).1
