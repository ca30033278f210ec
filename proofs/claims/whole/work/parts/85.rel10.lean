/-! what holds of the two sides together, all along (to be kept by every act) -/
def ShR (σ : Sg) (s : Nat) : Prop := σ (shc s) 1 = σ 81 s ∧ σ (shc s) 2 = σ 82 s ∧ (σ 81 s = 0 ∨ σ 81 s = 8 ∨ σ 81 s = 16 ∨ σ 81 s = 32) ∧ (∃ n, n ≤ 40 ∧ σ 82 s = nI n) ∧ ∀ i, i < 40 → σ (nmc s) i = σ 83 (40 * s + i) ∧ cutV (σ 81 s) (σ 83 (40 * s + i)) = σ 83 (40 * s + i)
def Rel (σ : Sg) : Prop := σ 0 = σ 74 ∧ RowOK (σ 0) ∧ MZ σ ∧ σ 60 10 = σ 73 4 ∧ (σ 73 4 ≠ 0 → σ 1 = σ 75 ∧ RowOK (σ 1)) ∧ σ 62 = σ 77 ∧ σ 63 = σ 80 ∧ (∃ n, n ≤ 120 ∧ σ 60 9 = nI n ∧ σ 73 17 = nI n) ∧ ∀ s, s < 4 → ShR σ s
theorem Rel.row74 {σ : Sg} (h : Rel σ) : RowOK (σ 74) := by rw [← h.1]; exact h.2.1
theorem Rel.ln {σ : Sg} (h : Rel σ) : ∀ s, s < 4 → ∃ n, n ≤ 40 ∧ σ 82 s = nI n := fun s hs => (h.2.2.2.2.2.2.2.2 s hs).2.2.2.1
theorem Rel.ln8 {σ : Sg} (h : Rel σ) : ∀ s, s < 4 → ∃ n, n ≤ 40 ∧ σ (shc s) 2 = nI n := fun s hs => by
  obtain ⟨n, hn, e⟩ := h.ln s hs
  exact ⟨n, hn, by rw [(h.2.2.2.2.2.2.2.2 s hs).2.1]; exact e⟩
