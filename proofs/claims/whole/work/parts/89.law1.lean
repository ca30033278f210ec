/-! the uniform acts -/
theorem K_rd {σ u1 u2 : Sg} {S S' : Rs} {r1 r2 : Option Value} (hR : Rel σ) (h1 : PX σ S (σ 0) r1 u1) (h2 : PQ u1 S' u1 r2 u2) (hS : S' = S) : r2 = r1 ∧ Rel u2 := by
  have e : u1 74 = σ 0 := (X_74 h1 (by omega)).trans hR.1.symm
  exact K_row hR h1 h2 hS (by rw [← e, us_id]) (fun _ _ => hR.2.1)
theorem Z_74 {σ u1 : Sg} {S : Rs} {σ1 : Sg} {r : Option Value} (h : PZ σ S σ1 r u1) (h1 : ∀ z, S = .inr z → ∀ c, 73 ≤ c → σ1 c = σ c) : ∀ c, 73 ≤ c → u1 c = σ c := by
  intro c hc
  rw [h.2 c (by omega), us_n (by omega)]
  cases S with
  | inl j => rfl
  | inr z => exact h1 z rfl c hc
theorem Z_feed {σ u1 : Sg} {p0 p1 : Int32} {r : Option Value} (h : PZ σ (S_feed (σ 60 9) p1) (N_feed σ p0 p1) r u1) : ∀ c, 73 ≤ c → u1 c = σ c :=
  Z_74 h (fun _ _ c hc => by unfold N_feed fdS; rw [us_n (by omega), us_n (by omega)])
theorem Z_text {σ u1 : Sg} {S : Rs} {n : Nat} {r : Option Value} (h : PZ σ S (N_text σ n) r u1) : ∀ c, 73 ≤ c → u1 c = σ c :=
  Z_74 h (fun _ _ c hc => by unfold N_text; rw [us_n (by omega), us_n (by omega)])
theorem Z_undo {σ u1 : Sg} {S : Rs} {f : Nat → Int32} {r : Option Value} (h : PZ σ S (us σ 0 f) r u1) : ∀ c, 73 ≤ c → u1 c = σ c :=
  Z_74 h (fun _ _ c hc => us_n (by omega))
theorem Z_sheet {σ u1 : Sg} {p0 p1 p2 : Int32} {r : Option Value} (h : PZ σ (S_sheet p0 p1 p2) (N_sheet σ (hk p0) p1 p2) r u1) : ∀ c, 73 ≤ c → u1 c = σ c :=
  Z_74 h (fun z hz c hc => by
    have hq : inP p0 0 3 := by
      by_cases hq : inP p0 0 3
      · exact hq
      · unfold S_sheet at hz; rw [if_neg hq] at hz; cases hz
    have hs := hk_lt4 hq
    unfold N_sheet; rw [us_n (by unfold nmc; omega), us_n (by unfold shc; omega)])
theorem Z_write {σ u1 : Sg} {p0 p1 p2 : Int32} {r : Option Value} (h : PZ σ (S_write σ p0 p1) (N_write σ (hk p0) (hk p1) p2) r u1) : ∀ c, 73 ≤ c → u1 c = σ c :=
  Z_74 h (fun z hz c hc => by
    have hq : inP p0 0 3 := by
      by_cases hq : inP p0 0 3
      · exact hq
      · unfold S_write at hz; rw [if_neg hq] at hz; cases hz
    have hs := hk_lt4 hq
    unfold N_write; rw [us_n (by unfold nmc; omega)])
theorem Z_copy {σ u1 : Sg} {p0 p1 p2 p3 p4 : Int32} {r : Option Value} (h : PZ σ (S_copy σ p0 p1 p2 p3 p4) (N_copy σ p0 p1 p2 p3 p4) r u1) : ∀ c, 73 ≤ c → u1 c = σ c :=
  Z_74 h (fun z hz c hc => by
    have hq : inP p2 0 3 := by
      by_cases hq : inP p2 0 3
      · exact hq
      · exfalso
        unfold S_copy at hz
        by_cases h0 : inP p0 0 3
        · rw [if_pos h0, if_neg hq] at hz; cases hz
        · rw [if_neg h0] at hz; cases hz
    have hs := hk_lt4 hq
    unfold N_copy; exact cpyS_o (by unfold nmc; omega) _)
/-- what the reference's acts ask, after the system's act -/
theorem MB {σ u1 : Sg} (hR : Rel σ) (hu : ∀ c, 73 ≤ c → u1 c = σ c) : RowOK (u1 74) ∧ MZ u1 ∧ (∀ s, s < 4 → ∃ n, n ≤ 40 ∧ u1 82 s = nI n) ∧ ∃ n, n ≤ 120 ∧ u1 73 17 = nI n := by
  refine ⟨by rw [hu 74 (by omega)]; exact hR.row74, by unfold MZ; rw [hu 73 (by omega)]; exact hR.2.2.1, by rw [hu 82 (by omega)]; exact hR.ln, ?_⟩
  obtain ⟨n, hn, -, e⟩ := hR.len
  exact ⟨n, hn, by rw [hu 73 (by omega)]; exact e⟩
theorem ln_le {σ : Sg} (hR : Rel σ) : ∀ s, s < 4 → 0 ≤ σ (shc s) 2 ∧ σ (shc s) 2 ≤ 40 := fun s hs => by
  obtain ⟨n, hn, e⟩ := hR.ln8 s hs
  rw [e]
  exact ⟨(nI_leI (a := 0) (b := n) (by omega) (by omega)).mpr (by omega), (nI_leI (a := n) (b := 40) (by omega) (by omega)).mpr hn⟩
theorem RowOK_holdS {f : Nat → Int32} {a b z : Int32} (h : RowOK f) (hS : S_hold f a b = .inr z) : RowOK (upd f (63 + hk a) b) := by
  unfold S_hold at hS
  by_cases hq : inP a 0 9
  · rw [if_pos hq] at hS
    have hs : hk a < 10 := by
      obtain ⟨k, rfl, hk3⟩ := i32_le (m := 9) (by omega) hq.1 hq.2
      rw [hk_n (by omega)]; omega
    by_cases hm : b = -1
    · exact RowOK_hold h hs (Or.inl hm)
    · rw [if_neg hm] at hS
      by_cases hh : isH f b
      · exact RowOK_hold h hs (Or.inr hh)
      · rw [if_neg hh] at hS; cases hS
  · rw [if_neg hq] at hS; cases hS
theorem K_house {σ u1 u2 : Sg} {r1 r2 : Option Value} {p0 : Int32} (hR : Rel σ) (h1 : PX σ (S_house (σ 0) p0) (newF (σ 0) p0) r1 u1) (h2 : PQ u1 (S_house (u1 74) p0) (us u1 74 (newF (u1 74) p0)) r2 u2) : r2 = r1 ∧ Rel u2 := by
  have e : u1 74 = σ 0 := (X_74 h1 (by omega)).trans hR.1.symm
  rw [e] at h2
  exact K_row hR h1 h2 rfl rfl (fun z hz => RowOK_house hR.2.1 hz)
theorem K_change {σ u1 u2 : Sg} {r1 r2 : Option Value} {p0 p1 p2 : Int32} (hR : Rel σ) (h1 : PX σ (S_change (σ 0) p0 p1 p2) (uh (σ 0) (hk p0) (hk p1) p2) r1 u1) (h2 : PQ u1 (S_change (u1 74) p0 p1 p2) (us u1 74 (uh (u1 74) (hk p0) (hk p1) p2)) r2 u2) : r2 = r1 ∧ Rel u2 := by
  have e : u1 74 = σ 0 := (X_74 h1 (by omega)).trans hR.1.symm
  rw [e] at h2
  exact K_row hR h1 h2 rfl rfl (fun z hz => RowOK_change hR.2.1 hz)
theorem K_steep {σ u1 u2 : Sg} {r1 r2 : Option Value} {p0 p1 : Int32} (hR : Rel σ) (h1 : PX σ (S_steep (σ 0) p0 p1) (upd (σ 0) (8 + hk p0) p1) r1 u1) (h2 : PQ u1 (S_steep (u1 74) p0 p1) (us u1 74 (upd (u1 74) (8 + hk p0) p1)) r2 u2) : r2 = r1 ∧ Rel u2 := by
  have e : u1 74 = σ 0 := (X_74 h1 (by omega)).trans hR.1.symm
  rw [e] at h2
  exact K_row hR h1 h2 rfl rfl (fun z hz => RowOK_steepS hR.2.1 hz)
theorem K_weather {σ u1 u2 : Sg} {r1 r2 : Option Value} {p0 p1 : Int32} (hR : Rel σ) (h1 : PX σ (S_weather (σ 0) p0 p1) (N_weather (σ 0) p0 p1) r1 u1) (h2 : PQ u1 (S_weather (u1 74) p0 p1) (us u1 74 (N_weather (u1 74) p0 p1)) r2 u2) : r2 = r1 ∧ Rel u2 := by
  have e : u1 74 = σ 0 := (X_74 h1 (by omega)).trans hR.1.symm
  rw [e] at h2
  exact K_row hR h1 h2 rfl rfl (fun z hz => RowOK_weather hR.2.1 hz)
theorem K_lend {σ u1 u2 : Sg} {r1 r2 : Option Value} {p0 p1 p2 : Int32} (hR : Rel σ) (h1 : PX σ (S_lend (σ 0) p0 p1 p2) (N_lend (σ 0) (hk p0) (hk p1) p2) r1 u1) (h2 : PQ u1 (S_lend (u1 74) p0 p1 p2) (us u1 74 (N_lend (u1 74) (hk p0) (hk p1) p2)) r2 u2) : r2 = r1 ∧ Rel u2 := by
  have e : u1 74 = σ 0 := (X_74 h1 (by omega)).trans hR.1.symm
  rw [e] at h2
  exact K_row hR h1 h2 rfl rfl (fun z hz => RowOK_lend hR.2.1 hz)
theorem K_send {σ u1 u2 : Sg} {r1 r2 : Option Value} {p0 : Int32} (hR : Rel σ) (h1 : PX σ (S_send (σ 0) p0) (goF (σ 0) (hk p0)) r1 u1) (h2 : PQ u1 (S_send (u1 74) p0) (us u1 74 (goF (u1 74) (hk p0))) r2 u2) : r2 = r1 ∧ Rel u2 := by
  have e : u1 74 = σ 0 := (X_74 h1 (by omega)).trans hR.1.symm
  rw [e] at h2
  exact K_row hR h1 h2 rfl rfl (fun z hz => RowOK_send hR.2.1 hz)
theorem K_quarters {σ u1 u2 : Sg} {r1 r2 : Option Value} {p0 : Int32} (hR : Rel σ) (h1 : PX σ (S_quarters (σ 0) p0) (passN (hk p0) (σ 0)) r1 u1) (h2 : PQ u1 (S_quarters (u1 74) p0) (us u1 74 (passN (hk p0) (u1 74))) r2 u2) : r2 = r1 ∧ Rel u2 := by
  have e : u1 74 = σ 0 := (X_74 h1 (by omega)).trans hR.1.symm
  rw [e] at h2
  exact K_row hR h1 h2 rfl rfl (fun z hz => RowOK_quarters hR.2.1 hz)
theorem K_calls {σ u1 u2 : Sg} {r1 r2 : Option Value} {p0 : Int32} (hR : Rel σ) (h1 : PX σ (S_calls (σ 0) p0) (callN (hk p0) (σ 0)) r1 u1) (h2 : PQ u1 (S_calls (u1 74) p0) (us u1 74 (callN (hk p0) (u1 74))) r2 u2) : r2 = r1 ∧ Rel u2 := by
  have e : u1 74 = σ 0 := (X_74 h1 (by omega)).trans hR.1.symm
  rw [e] at h2
  exact K_row hR h1 h2 rfl rfl (fun z hz => RowOK_calls hR.2.1 hz)
theorem K_hold {σ u1 u2 : Sg} {r1 r2 : Option Value} {p0 p1 : Int32} (hR : Rel σ) (h1 : PX σ (S_hold (σ 0) p0 p1) (upd (σ 0) (63 + hk p0) p1) r1 u1) (h2 : PQ u1 (S_hold (u1 74) p0 p1) (us u1 74 (upd (u1 74) (63 + hk p0) p1)) r2 u2) : r2 = r1 ∧ Rel u2 := by
  have e : u1 74 = σ 0 := (X_74 h1 (by omega)).trans hR.1.symm
  rw [e] at h2
  exact K_row hR h1 h2 rfl rfl (fun z hz => RowOK_holdS hR.2.1 hz)
theorem K_of {σ u1 u2 : Sg} {r1 r2 : Option Value} {p0 p1 : Int32} (hR : Rel σ) (h1 : PX σ (S_of (σ 0) p0 p1) (σ 0) r1 u1) (h2 : PQ u1 (S_of (u1 74) p0 p1) u1 r2 u2) : r2 = r1 ∧ Rel u2 := by
  have e : u1 74 = σ 0 := (X_74 h1 (by omega)).trans hR.1.symm
  exact K_rd hR h1 h2 (by rw [e])
theorem K_way {σ u1 u2 : Sg} {r1 r2 : Option Value} {p0 p1 : Int32} (hR : Rel σ) (h1 : PX σ (S_way (σ 0) p0 p1) (σ 0) r1 u1) (h2 : PQ u1 (S_way (u1 74) p0 p1) u1 r2 u2) : r2 = r1 ∧ Rel u2 := by
  have e : u1 74 = σ 0 := (X_74 h1 (by omega)).trans hR.1.symm
  exact K_rd hR h1 h2 (by rw [e])
theorem K_now {σ u1 u2 : Sg} {r1 r2 : Option Value} {p0 : Int32} (hR : Rel σ) (h1 : PX σ (S_now (σ 0) p0) (σ 0) r1 u1) (h2 : PQ u1 (S_now (u1 74) p0) u1 r2 u2) : r2 = r1 ∧ Rel u2 := by
  have e : u1 74 = σ 0 := (X_74 h1 (by omega)).trans hR.1.symm
  exact K_rd hR h1 h2 (by rw [e])
theorem K_ahead {σ u1 u2 : Sg} {r1 r2 : Option Value} {p0 p1 : Int32} (hR : Rel σ) (h1 : PX σ (S_ahead (σ 0) p0 p1) (σ 0) r1 u1) (h2 : PQ u1 (S_ahead (u1 74) p0 p1) u1 r2 u2) : r2 = r1 ∧ Rel u2 := by
  have e : u1 74 = σ 0 := (X_74 h1 (by omega)).trans hR.1.symm
  exact K_rd hR h1 h2 (by rw [e])
theorem K_cold {σ u1 u2 : Sg} {r1 r2 : Option Value} {p0 : Int32} (hR : Rel σ) (h1 : PX σ (S_cold (σ 0) p0) (σ 0) r1 u1) (h2 : PQ u1 (S_cold (u1 74) p0) u1 r2 u2) : r2 = r1 ∧ Rel u2 := by
  have e : u1 74 = σ 0 := (X_74 h1 (by omega)).trans hR.1.symm
  exact K_rd hR h1 h2 (by rw [e])
theorem K_bake {σ u1 u2 : Sg} {r1 r2 : Option Value} {p0 : Int32} (hR : Rel σ) (h1 : PX σ (S_bake (σ 0) p0) (σ 0) r1 u1) (h2 : PQ u1 (S_bake (u1 74) p0) u1 r2 u2) : r2 = r1 ∧ Rel u2 := by
  have e : u1 74 = σ 0 := (X_74 h1 (by omega)).trans hR.1.symm
  exact K_rd hR h1 h2 (by rw [e])
theorem K_best {σ u1 u2 : Sg} {r1 r2 : Option Value} {p0 : Int32} (hR : Rel σ) (h1 : PX σ (S_best (σ 0) p0) (σ 0) r1 u1) (h2 : PQ u1 (S_best (u1 74) p0) u1 r2 u2) : r2 = r1 ∧ Rel u2 := by
  have e : u1 74 = σ 0 := (X_74 h1 (by omega)).trans hR.1.symm
  exact K_rd hR h1 h2 (by rw [e])
theorem K_lost {σ u1 u2 : Sg} {r1 r2 : Option Value} {p0 : Int32} (hR : Rel σ) (h1 : PX σ (S_lost (σ 0) p0) (σ 0) r1 u1) (h2 : PQ u1 (S_lost (u1 74) p0) u1 r2 u2) : r2 = r1 ∧ Rel u2 := by
  have e : u1 74 = σ 0 := (X_74 h1 (by omega)).trans hR.1.symm
  exact K_rd hR h1 h2 (by rw [e])
theorem K_stay {σ u1 u2 : Sg} {r1 r2 : Option Value} {p0 p1 : Int32} (hR : Rel σ) (h1 : PX σ (S_stay (σ 0) p0 p1) (σ 0) r1 u1) (h2 : PQ u1 (S_stay (u1 74) p0 p1) u1 r2 u2) : r2 = r1 ∧ Rel u2 := by
  have e : u1 74 = σ 0 := (X_74 h1 (by omega)).trans hR.1.symm
  exact K_rd hR h1 h2 (by rw [e])
theorem K_logs {σ u1 u2 : Sg} {r1 r2 : Option Value} {p0 p1 : Int32} (hR : Rel σ) (h1 : PX σ (S_logs (σ 0) p0 p1) (σ 0) r1 u1) (h2 : PQ u1 (S_logs (u1 74) p0 p1) u1 r2 u2) : r2 = r1 ∧ Rel u2 := by
  have e : u1 74 = σ 0 := (X_74 h1 (by omega)).trans hR.1.symm
  exact K_rd hR h1 h2 (by rw [e])
theorem K_wall {σ u1 u2 : Sg} {r1 r2 : Option Value} {p0 p1 : Int32} (hR : Rel σ) (h1 : PX σ (S_wall (σ 0) p0 p1) (σ 0) r1 u1) (h2 : PQ u1 (S_wall (u1 74) p0 p1) u1 r2 u2) : r2 = r1 ∧ Rel u2 := by
  have e : u1 74 = σ 0 := (X_74 h1 (by omega)).trans hR.1.symm
  exact K_rd hR h1 h2 (by rw [e])
theorem K_straw {σ u1 u2 : Sg} {r1 r2 : Option Value} {p0 : Int32} (hR : Rel σ) (h1 : PX σ (S_straw (σ 0) p0) (σ 0) r1 u1) (h2 : PQ u1 (S_straw (u1 74) p0) u1 r2 u2) : r2 = r1 ∧ Rel u2 := by
  have e : u1 74 = σ 0 := (X_74 h1 (by omega)).trans hR.1.symm
  exact K_rd hR h1 h2 (by rw [e])
theorem K_kindFor {σ u1 u2 : Sg} {r1 r2 : Option Value} {p0 p1 : Int32} (hR : Rel σ) (h1 : PX σ (S_kindFor (σ 0) p0 p1) (σ 0) r1 u1) (h2 : PQ u1 (S_kindFor (u1 74) p0 p1) u1 r2 u2) : r2 = r1 ∧ Rel u2 := by
  have e : u1 74 = σ 0 := (X_74 h1 (by omega)).trans hR.1.symm
  exact K_rd hR h1 h2 (by rw [e])
theorem K_round {σ u1 u2 : Sg} {r1 r2 : Option Value} {p0 : Int32} (hR : Rel σ) (h1 : PX σ (S_round (σ 0) p0) (σ 0) r1 u1) (h2 : PQ u1 (S_round (u1 74) p0) u1 r2 u2) : r2 = r1 ∧ Rel u2 := by
  have e : u1 74 = σ 0 := (X_74 h1 (by omega)).trans hR.1.symm
  exact K_rd hR h1 h2 (by rw [e])
theorem K_takes {σ u1 u2 : Sg} {r1 r2 : Option Value} {p0 : Int32} (hR : Rel σ) (h1 : PX σ (S_takes (σ 0) p0) (σ 0) r1 u1) (h2 : PQ u1 (S_takes (u1 74) p0) u1 r2 u2) : r2 = r1 ∧ Rel u2 := by
  have e : u1 74 = σ 0 := (X_74 h1 (by omega)).trans hR.1.symm
  exact K_rd hR h1 h2 (by rw [e])
theorem K_three {σ u1 u2 : Sg} {r1 r2 : Option Value} {p0 : Int32} (hR : Rel σ) (h1 : PX σ (S_three (σ 0) p0) (σ 0) r1 u1) (h2 : PQ u1 (S_three (u1 74) p0) u1 r2 u2) : r2 = r1 ∧ Rel u2 := by
  have e : u1 74 = σ 0 := (X_74 h1 (by omega)).trans hR.1.symm
  exact K_rd hR h1 h2 (by rw [e])
theorem K_least {σ u1 u2 : Sg} {r1 r2 : Option Value} {p0 : Int32} (hR : Rel σ) (h1 : PX σ (S_least (σ 0) p0) (σ 0) r1 u1) (h2 : PQ u1 (S_least (u1 74) p0) u1 r2 u2) : r2 = r1 ∧ Rel u2 := by
  have e : u1 74 = σ 0 := (X_74 h1 (by omega)).trans hR.1.symm
  exact K_rd hR h1 h2 (by rw [e])
theorem K_pace {σ u1 u2 : Sg} {r1 r2 : Option Value} (hR : Rel σ) (h1 : PX σ (S_pace (σ 0)) (σ 0) r1 u1) (h2 : PQ u1 (S_pace (u1 74)) u1 r2 u2) : r2 = r1 ∧ Rel u2 := by
  have e : u1 74 = σ 0 := (X_74 h1 (by omega)).trans hR.1.symm
  exact K_rd hR h1 h2 (by rw [e])
theorem K_thrift {σ u1 u2 : Sg} {r1 r2 : Option Value} {p0 : Int32} (hR : Rel σ) (h1 : PX σ (S_thrift (σ 0) p0) (σ 0) r1 u1) (h2 : PQ u1 (S_thrift (u1 74) p0) u1 r2 u2) : r2 = r1 ∧ Rel u2 := by
  have e : u1 74 = σ 0 := (X_74 h1 (by omega)).trans hR.1.symm
  exact K_rd hR h1 h2 (by rw [e])
theorem K_middle {σ u1 u2 : Sg} {r1 r2 : Option Value} (hR : Rel σ) (h1 : PX σ (S_middle (σ 0)) (σ 0) r1 u1) (h2 : PQ u1 (S_middle (u1 74)) u1 r2 u2) : r2 = r1 ∧ Rel u2 := by
  have e : u1 74 = σ 0 := (X_74 h1 (by omega)).trans hR.1.symm
  exact K_rd hR h1 h2 (by rw [e])
theorem K_as {σ u1 u2 : Sg} {r1 r2 : Option Value} {p0 p1 : Int32} (hR : Rel σ) (h1 : PX σ (S_as (σ 0) p0 p1) (σ 0) r1 u1) (h2 : PQ u1 (S_as (u1 74) p0 p1) u1 r2 u2) : r2 = r1 ∧ Rel u2 := by
  have e : u1 74 = σ 0 := (X_74 h1 (by omega)).trans hR.1.symm
  exact K_rd hR h1 h2 (by rw [e])
theorem K_count {σ u1 u2 : Sg} {r1 r2 : Option Value} {p0 : Int32} (hR : Rel σ) (h1 : PX σ (S_count (σ 0) (σ 60 9) p0) (σ 0) r1 u1) (h2 : PQ u1 (S_count (u1 74) (u1 73 17) p0) u1 r2 u2) : r2 = r1 ∧ Rel u2 := by
  have e : u1 74 = σ 0 := (X_74 h1 (by omega)).trans hR.1.symm
  have e2 : u1 73 = σ 73 := X_74 h1 (by omega)
  obtain ⟨n, -, e3, e4⟩ := hR.len
  exact K_rd hR h1 h2 (by rw [e, e2, e3, e4])
theorem K_status {σ u1 u2 : Sg} {r1 r2 : Option Value} {p0 : Int32} (hR : Rel σ) (h1 : PX σ (S_status (σ 62) p0) (σ 0) r1 u1) (h2 : PQ u1 (S_status (u1 77) p0) u1 r2 u2) : r2 = r1 ∧ Rel u2 := by
  have e : u1 77 = σ 62 := (X_74 h1 (by omega)).trans hR.2.2.2.2.2.1.symm
  exact K_rd hR h1 h2 (by rw [e])
theorem K_rounds {σ u1 u2 : Sg} {r1 r2 : Option Value} {p0 p1 : Int32} (hN : RelN σ) (h1 : PX σ (S_rounds σ p0 p1) (σ 0) r1 u1) (h2 : PQ u1 (S_rounds (tM u1) p0 p1) u1 r2 u2) : r2 = r1 ∧ Rel u2 :=
  K_rd hN.1 h1 h2 (t_rounds hN (fun c hc => X_74 h1 hc) p0 p1)
theorem K_diary {σ u1 u2 : Sg} {r1 r2 : Option Value} {p0 p1 : Int32} (hN : RelN σ) (h1 : PX σ (S_diary σ p0 p1) (σ 0) r1 u1) (h2 : PQ u1 (S_diary (tM u1) p0 p1) u1 r2 u2) : r2 = r1 ∧ Rel u2 :=
  K_rd hN.1 h1 h2 (t_diary hN (fun c hc => X_74 h1 hc) p0 p1)
theorem K_judge {σ u1 u2 : Sg} {r1 r2 : Option Value} {p0 p1 : Int32} (hN : RelN σ) (h1 : PX σ (S_judge σ p0 p1) (σ 0) r1 u1) (h2 : PQ u1 (S_judge (tM u1) p0 p1) u1 r2 u2) : r2 = r1 ∧ Rel u2 :=
  K_rd hN.1 h1 h2 (t_judge hN (fun c hc => X_74 h1 hc) p0 p1)
