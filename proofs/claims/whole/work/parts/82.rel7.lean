/-! weather and logs lent -/
theorem RowOK_weather {f : Nat → Int32} {w v z : Int32} (h : RowOK f) (hS : S_weather f w v = .inr z) : RowOK (N_weather f w v) := by
  unfold S_weather at hS
  unfold N_weather
  by_cases c1 : w = 0
  · rw [if_pos c1] at hS
    rw [if_pos c1]
    by_cases c2 : inP v 0 1
    · exact RowOK_ice h c2
    · rw [if_neg c2] at hS; cases hS
  · rw [if_neg c1] at hS
    rw [if_neg c1]
    by_cases c2 : w = 1
    · rw [if_pos c2] at hS
      by_cases c3 : inP v 0 100
      · exact RowOK_out h c3
      · rw [if_neg c3] at hS; cases hS
    · rw [if_neg c2] at hS; cases hS
theorem RowOK_lend {f : Nat → Int32} {a b v z : Int32} (h : RowOK f) (hS : S_lend f a b v = .inr z) : RowOK (N_lend f (hk a) (hk b) v) := by
  unfold S_lend at hS
  by_cases c1 : isH f a
  · rw [if_pos c1] at hS
    by_cases c2 : isH f b
    · rw [if_pos c2] at hS
      by_cases c3 : a = b
      · rw [if_pos c3] at hS; cases hS
      · rw [if_neg c3] at hS
        by_cases c4 : inP v 1 99
        · rw [if_pos c4] at hS
          by_cases c5 : hf f (hk a) 3 < v
          · rw [if_pos c5] at hS; cases hS
          · rw [if_neg c5] at hS
            by_cases c6 : hf f (hk b) 3 + v ≤ 99
            · obtain ⟨i, hi, rfl, hi8⟩ := isH_of h.1.1.1 c1
              obtain ⟨j, hj, rfl, hj8⟩ := isH_of h.1.1.1 c2
              rw [hk_n (show i < 2 ^ 31 by omega)] at c5 ⊢
              rw [hk_n (show j < 2 ^ 31 by omega)] at c6 ⊢
              have hij : i ≠ j := fun e => c3 (by rw [e])
              have bi := (h.1.1.2.1 i hi).2.2.1
              have bj := (h.1.1.2.1 j hj).2.2.1
              obtain ⟨x, ex, hx⟩ := i32_le (m := 99) (by omega) bi.1 bi.2
              obtain ⟨y, ey, hy⟩ := i32_le (m := 99) (by omega) bj.1 bj.2
              obtain ⟨w, rfl, hw⟩ := i32_le (m := 99) (by omega) (Int32.le_trans (by decide) c4.1) c4.2
              rw [ex] at c5
              rw [ey, nI_add] at c6
              have hwx : ¬ x < w := fun q => c5 ((nI_ltI (by omega) (by omega)).mpr q)
              unfold N_lend
              refine RowOK_uh (RowOK_uh h hi (by omega) (by omega) (by omega) (fun _ => ?_) (by omega)) (by rw [nh_uh]; exact hj) (by omega) (by omega) (by omega) (fun _ => ?_) (by omega)
              · rw [ex, nI_msub (by omega)]
                exact ⟨nI_pos' (by omega), nI_le (b := 99) (by omega) (by omega)⟩
              · rw [ey, nI_add]
                exact ⟨nI_pos' (by omega), c6⟩
            · rw [if_neg c6] at hS; cases hS
        · rw [if_neg c4] at hS; cases hS
    · rw [if_neg c2] at hS; cases hS
  · rw [if_neg c1] at hS; cases hS
