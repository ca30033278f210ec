/-- the steps of a copy from s to t: i, j the first places, n the length -/
def cpyO (i j n k : Nat) : Nat := if i < j then n - 1 - k else k
def cpyS (σ : Sg) (s t i j n : Nat) : Nat → Sg
  | 0 => σ
  | k + 1 => us (cpyS σ s t i j n k) (nmc t) (upd (cpyS σ s t i j n k (nmc t)) (j + cpyO i j n k) (cutV (cpyS σ s t i j n k (shc t) 1) (cpyS σ s t i j n k (nmc s) (i + cpyO i j n k))))
theorem cpyS_o {σ : Sg} {s t i j n : Nat} {c : Nat} (h : c ≠ nmc t) : ∀ k, cpyS σ s t i j n k c = σ c := by
  intro k
  induction k with
  | zero => rfl
  | succ k ih => exact (us_n h).trans ih
theorem cpyO_l {i j n k : Nat} (h : k < n) : cpyO i j n k < n := by unfold cpyO; split <;> omega
def S_copy (σ : Sg) (s i t j n : Int32) : Rs := if inP s 0 3 then (if inP t 0 3 then (if σ (shc (hk s)) 1 = 0 then .inl 5 else if σ (shc (hk t)) 1 = 0 then .inl 5 else if σ (shc (hk s)) 1 = σ (shc (hk t)) 1 then (if hasP i n (σ (shc (hk s)) 2) then (if hasP j n (σ (shc (hk t)) 2) then .inr n else .inl 0) else .inl 0) else .inl 2) else .inl 0) else .inl 0
def N_copy (σ : Sg) (s i t j n : Int32) : Sg := cpyS σ (hk s) (hk t) (hk i) (hk j) (hk n) (hk n)
theorem has_n {i n l : Int32} {m : Nat} (hm : m ≤ 40) (hl : l = nI m) (h : hasP i n l) : ∃ a b, i = nI a ∧ n = nI b ∧ a + b ≤ m := by
  obtain ⟨h1, h2, h3, h4⟩ := h
  subst hl
  obtain ⟨b, rfl, hb⟩ := i32_le (m := m) (by omega) h2 h3
  have e : nI m - nI b = nI (m - b) := by
    simp [nI, Int32.ofNat_sub _ _ hb]
  rw [e] at h4
  obtain ⟨a, rfl, ha⟩ := i32_le (m := m - b) (by omega) h1 h4
  exact ⟨a, b, rfl, rfl, by omega⟩

