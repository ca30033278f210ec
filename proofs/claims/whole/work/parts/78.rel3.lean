/-! a new house; the stove sent -/
theorem RowOK_nwF {f : Nat → Int32} {k a b c d : Int32} (h : RowOK f) (h8 : nh f < 8) (ha : inP a 0 400) (hb : inP b 1 40) (hc : inP c 0 99) (hd : inP d 0 400) : RowOK (nwF f k a b c d) := by
  have hnh : nh (nwF f k a b c d) = nh f + 1 := nwF_nh h8
  have lo : ∀ q, q < 15 → q ≠ 1 → nwF f k a b c d q = f q := fun q hq h1 => by rw [nwF_off (by omega), upd_n h1]
  have hi : ∀ q, 63 ≤ q → nwF f k a b c d q = f q := fun q hq => by rw [nwF_off (by omega), upd_n (by omega)]
  have e1 : nwF f k a b c d 1 = nI (nh f + 1) := by rw [nwF_off (by omega), upd_s]
  obtain ⟨⟨⟨hC, hI, h3, h6, h6'⟩, hW, hA⟩, ⟨q, x, eq, hq, ex, hx2, hbr⟩, hS⟩ := h
  have hxe : hx (nwF f k a b c d) = hx f := by unfold hx; rw [lo 2 (by omega) (by omega)]
  refine ⟨⟨⟨⟨by rw [e1, hnh], by omega, fun z hz => by rw [hi z (by omega)]; exact hC.2.2.1 z hz, fun i j h1 h2 h4 => ?_⟩, fun i hi' => ?_, ?_, ?_, ?_⟩, ⟨fun i hi' => ?_, ?_⟩, ?_, ?_⟩, ⟨q, x, ?_, hq, ?_, hx2, fun i hi' => ?_⟩, fun z hz => ?_⟩
  · rw [hnh] at h1
    rw [nwF_hf (by omega) h2 h4]
    exact hC.2.2.2 i j (by omega) h2 h4
  · rw [hnh] at hi'
    unfold InH
    by_cases e : i = nh f
    · subst e
      rw [nwF_at (by omega), nwF_at (by omega), nwF_at (by omega), nwF_at (by omega)]
      exact ⟨ha, hb, hc, hd⟩
    · rw [nwF_hf e (by omega) (by omega), nwF_hf e (by omega) (by omega), nwF_hf e (by omega) (by omega), nwF_hf e (by omega) (by omega)]
      exact hI i (by omega)
  · rw [lo 3 (by omega) (by omega)]; exact h3
  · rw [lo 6 (by omega) (by omega)]; exact h6
  · rw [lo 6 (by omega) (by omega)]; exact h6'
  · rw [lo (8 + i) (by omega) (by omega)]; exact hW.1 i hi'
  · rw [lo 5 (by omega) (by omega)]; exact hW.2
  · rw [hxe, lo 2 (by omega) (by omega)]; exact hA.1
  · rw [hxe]; exact hA.2
  · rw [lo 0 (by omega) (by omega)]; exact eq
  · rw [lo 4 (by omega) (by omega)]; exact ex
  · rw [hnh] at hi'
    by_cases e : i = nh f
    · subst e
      exact ⟨0, by rw [nwF_at (by omega)]; rfl, by omega⟩
    · obtain ⟨b', eb, hbq⟩ := hbr i (by omega)
      exact ⟨b', by rw [nwF_hf e (by omega) (by omega)]; exact eb, hbq⟩
  · rw [hi (63 + z) (by omega)]
    rcases hS z hz with g | g
    · exact Or.inl g
    · refine Or.inr ⟨g.1, ?_⟩
      rw [e1]
      obtain ⟨i, hi', ei, hi8⟩ := isH_of hC g
      rw [ei]
      exact nI_lt (by omega) (by omega)
theorem RowOK_house {f : Nat → Int32} {k z : Int32} (h : RowOK f) (hS : S_house f k = .inr z) : RowOK (newF f k) := by
  unfold S_house at hS
  by_cases c1 : inP k 0 6
  · rw [if_pos c1] at hS
    by_cases c2 : nh f < 8
    · rw [← nwF_new]
      exact RowOK_nwF h c2 (by decide) (by decide) (by decide) (by decide)
    · rw [if_neg c2] at hS; cases hS
  · rw [if_neg c1] at hS; cases hS
theorem RowOK_goF {f : Nat → Int32} {b : Nat} (h : RowOK f) (hb : b ≤ 7) : RowOK (goF f b) := by
  have h8 := h.h8
  refine ⟨GV_goF h.1 hb, ?_, fun k hk => ?_⟩
  · obtain ⟨q, x, e, hq, e2, hx2, hb'⟩ := h.2.1
    refine ⟨q, x, by rw [goF_n (by omega) (by omega)]; exact e, hq, by rw [goF_n (by omega) (by omega)]; exact e2, hx2, fun i hi => ?_⟩
    rw [nh_goF] at hi
    obtain ⟨y, ey, hy⟩ := hb' i hi
    exact ⟨y, by rw [goF_hf (by omega) (by omega)]; exact ey, hy⟩
  · unfold isH
    rw [goF_n (by omega) (by omega), goF_n (by omega) (by omega)]
    exact h.2.2 k hk
