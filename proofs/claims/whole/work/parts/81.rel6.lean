/-! the text and the quarters keep what holds -/
theorem pt_in {t : Nat → Int32} {n i lo hi s : Nat} {d : Int32} {a : Nat × Int32} (hlo : lo ≤ 999) (hhi : hi ≤ 999) (hd : inP d (nI lo) (nI hi)) (h : ptT t n i lo hi d s = .inr a) : inP a.2 (nI lo) (nI hi) := by
  by_cases w : wdT t n i s
  · have q := pt_nm2 h w
    rw [pt_y w q] at h
    cases h
    obtain ⟨h1, h2, h3⟩ := nmT_i.mp q
    exact ⟨nI_le h2 (by omega), nI_le h3 (by omega)⟩
  · rw [pt_n w] at h
    cases h
    exact hd
theorem RowOK_hs {t : Nat → Int32} {n s : Nat} {k : Int32} {r : Nat → Int32} {a : Nat × (Nat → Int32)} (hr : RowOK r) (h : hsT t n k s r = .inr a) : RowOK a.2 := by
  unfold hsT at h
  by_cases h8 : nh r < 8
  · rw [if_pos h8] at h
    rcases e1 : ptT t n 7 0 400 100 (nxT t n s) with p | a1
    · rw [e1] at h; cases h
    · rw [e1, bd_r] at h
      rcases e2 : ptT t n 8 1 40 10 a1.1 with p | a2
      · rw [e2] at h; cases h
      · rw [e2, bd_r] at h
        rcases e3 : ptT t n 9 0 99 8 a2.1 with p | a3
        · rw [e3] at h; cases h
        · rw [e3, bd_r] at h
          rcases e4 : ptT t n 10 0 400 60 a3.1 with p | a4
          · rw [e4] at h; cases h
          · rw [e4, bd_r] at h
            cases h
            exact RowOK_nwF hr h8 (pt_in (lo := 0) (hi := 400) (by omega) (by omega) (by decide) e1) (pt_in (lo := 1) (hi := 40) (by omega) (by omega) (by decide) e2) (pt_in (lo := 0) (hi := 99) (by omega) (by omega) (by decide) e3) (pt_in (lo := 0) (hi := 400) (by omega) (by omega) (by decide) e4)
  · rw [if_neg h8] at h; cases h
theorem RowOK_it {t : Nat → Int32} {n s : Nat} {r : Nat → Int32} {a : Nat × (Nat → Int32)} (hr : RowOK r) (h : itT t n s r = .inr a) : RowOK a.2 := by
  unfold itT at h
  by_cases c : 0 ≤ kdT t n s
  · rw [if_pos c] at h; exact RowOK_hs hr h
  · rw [if_neg c] at h
    by_cases c1 : wdT t n 11 s
    · rw [if_pos c1] at h
      unfold spT at h
      by_cases d1 : nmT t n 0 6 (nxT t n s)
      · rw [if_pos d1] at h
        by_cases d2 : nmT t n 0 9 (nxT t n (nxT t n s))
        · rw [if_pos d2] at h
          cases h
          have q1 := (nmT_i.mp d1).2.2
          have q2 := (nmT_i.mp d2).2.2
          exact RowOK_steep hr (by omega) ⟨nI_pos' (by omega), nI_le (b := 9) q2 (by omega)⟩
        · rw [if_neg d2] at h; cases h
      · rw [if_neg d1] at h; cases h
    · rw [if_neg c1] at h
      by_cases c2 : wdT t n 12 s
      · rw [if_pos c2] at h
        unfold ouT at h
        by_cases d1 : nmT t n 0 100 (nxT t n s)
        · rw [if_pos d1] at h
          cases h
          have q1 := (nmT_i.mp d1).2.2
          exact RowOK_out hr ⟨nI_pos' (by omega), nI_le (b := 100) q1 (by omega)⟩
        · rw [if_neg d1] at h; cases h
      · rw [if_neg c2] at h
        by_cases c3 : wdT t n 13 s
        · rw [if_pos c3] at h; cases h; exact RowOK_ice hr (by decide)
        · rw [if_neg c3] at h
          by_cases c4 : wdT t n 14 s
          · rw [if_pos c4] at h; cases h; exact RowOK_ice hr (by decide)
          · rw [if_neg c4] at h; cases h
theorem RowOK_tx {t : Nat → Int32} {n : Nat} : ∀ (F c s : Nat) (r : Nat → Int32) (a : Nat × (Nat → Int32)), RowOK r → txT t n F c s r = .inr a → RowOK a.2 := by
  intro F
  induction F with
  | zero => intro c s r a _ h; cases h
  | succ F ih =>
    intro c s r a hr h
    unfold txT at h
    rcases e : itT t n s r with p | b
    · rw [e] at h; cases h
    · rw [e, bd_r] at h
      by_cases c1 : b.1 < n
      · rw [if_pos c1] at h
        by_cases c2 : t b.1 = 59
        · rw [if_pos c2] at h; exact ih _ _ _ _ (RowOK_it hr e) h
        · rw [if_neg c2] at h; cases h
      · rw [if_neg c1] at h
        have hb := RowOK_it hr e
        cases h
        exact hb
theorem RowOK_quarters {f : Nat → Int32} {p z : Int32} (h : RowOK f) (hS : S_quarters f p = .inr z) : RowOK (passN (hk p) f) := by
  unfold S_quarters at hS
  by_cases c1 : inP p 1 96
  · rw [if_pos c1] at hS
    by_cases c2 : 9999 - p < f 0
    · rw [if_pos c2] at hS; cases hS
    · obtain ⟨m, rfl, hm⟩ := i32_le (m := 96) (by omega) (Int32.le_trans (by decide) c1.1) c1.2
      rw [hk_n (by omega)]
      obtain ⟨q, x, e, hq, -⟩ := h.2.1
      refine (RowOK_passN h e m ?_).1
      rw [e, show (9999 : Int32) = nI 9999 from rfl, nI_msub (by omega)] at c2
      have hz : ¬ 9999 - m < q := fun z => c2 ((nI_ltI (a := 9999 - m) (b := q) (by omega) (by omega)).mpr z)
      omega
  · rw [if_neg c1] at hS; cases hS
