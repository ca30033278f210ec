/-! tape, sheets, what is kept: act by act -/
theorem Rel.len {σ : Sg} (h : Rel σ) : ∃ n, n ≤ 120 ∧ σ 60 9 = nI n ∧ σ 73 17 = nI n := h.2.2.2.2.2.2.2.1
theorem K_seed {σ u1 u2 : Sg} {r1 r2 : Option Value} {p0 : Int32} (hR : Rel σ) (h1 : r1 = some (.int (σ 0 7)) ∧ u1 = us σ 0 (upd (σ 0) 7 p0)) (h2 : r2 = some (.int (u1 74 7)) ∧ u2 = us u1 74 (upd (u1 74) 7 p0)) : r2 = r1 ∧ Rel u2 := by
  obtain ⟨rfl, rfl⟩ := h1
  obtain ⟨rfl, rfl⟩ := h2
  have e : us σ 0 (upd (σ 0) 7 p0) 74 = σ 0 := (us_n (by omega)).trans hR.1.symm
  rw [e]
  refine ⟨rfl, ?_⟩
  refine Rel_eq (Z := us (us (us (us σ 0 (upd (σ 0) 7 p0)) 62 (σ 62)) 74 (upd (σ 0) 7 p0)) 77 (σ 62)) ⟨fun c _ _ => ?_, fun i _ => ?_⟩ (Rel_row hR (RowOK_seed hR.2.1))
  · by_cases e77 : c = 77
    · subst e77; rw [us_s, us_n (by omega), us_n (by omega)]; exact hR.2.2.2.2.2.1.symm
    · rw [us_n e77]
      by_cases e74 : c = 74
      · subst e74; rw [us_s, us_s]
      · rw [us_n e74, us_n e74]
        by_cases e62 : c = 62
        · subst e62; rw [us_s, us_n (by omega)]
        · rw [us_n e62]
  · rw [us_n (show (73:Nat) ≠ 74 by omega), us_n (show (73:Nat) ≠ 77 by omega), us_n (show (73:Nat) ≠ 74 by omega), us_n (show (73:Nat) ≠ 62 by omega)]
theorem fd_in {σ : Sg} {t p z : Int32} {n : Nat} (hn : n ≤ 120) (ht : t = nI n) (h : S_feed t p = .inr z) : ∃ w, p = nI w ∧ n + w ≤ 120 := by
  unfold S_feed at h
  by_cases hp : inP p 1 4
  · rw [if_pos hp] at h
    by_cases h2 : t + p ≤ 120
    · obtain ⟨w, rfl, hw⟩ := i32_le (m := 4) (x := p) (by omega) (Int32.le_trans (by decide) hp.1) hp.2
      subst ht
      rw [nI_add] at h2
      exact ⟨w, rfl, (nI_leI (a := n + w) (b := 120) (by omega) (by omega)).mp h2⟩
    · rw [if_neg h2] at h; cases h
  · rw [if_neg hp] at h; cases h
theorem K_feed {σ u1 u2 : Sg} {r1 r2 : Option Value} {p0 p1 : Int32} (hR : Rel σ) (h1 : PZ σ (S_feed (σ 60 9) p1) (N_feed σ p0 p1) r1 u1) (h2 : PQ u1 (S_feed (u1 73 17) p1) (N_feedM u1 p0 p1) r2 u2) (hu : ∀ c, 73 ≤ c → u1 c = σ c) : r2 = r1 ∧ Rel u2 := by
  obtain ⟨n, hn, e9, e17⟩ := hR.len
  refine K_Z hR h1 h2 (by rw [hu 73 (by omega), e9, e17]) (fun z hz => ?_)
  obtain ⟨w, rfl, hw⟩ := fd_in (σ := σ) hn e9 hz
  have hw2 : hk (nI w) = w := hk_n (by omega)
  have hn2 : hk (nI n) = n := hk_n (by omega)
  unfold N_feed N_feedM fdS fdM
  rw [hu 73 (by omega), hu 80 (by omega), e9, e17, hw2, hn2, hu 77 (by omega)]
  refine ⟨by rw [us_n (by omega), us_n (by omega)], fun hx => ⟨by rw [us_n (by omega), us_n (by omega)]; exact hu 77 (by omega), tpZ σ (fdT (σ 63) (p0) n w w) (nI (n + w)), Rel_tape hR hw, fun c hr hy => ?_, fun i hi => ?_⟩⟩
  · have e80 : σ 80 = σ 63 := hR.2.2.2.2.2.2.1.symm
    rw [e80]
    unfold tpZ
    have h73 : c ≠ 73 := by omega
    rw [us_n h73, us_n h73]
    by_cases e : c = 80
    · subst e; rw [us_s, us_s]
    · rw [us_n e, us_n e, hx c hr]
  · rw [us_s, tpZ_73]
theorem K_wipe {σ u1 u2 : Sg} {r1 r2 : Option Value} (hR : Rel σ) (h1 : r1 = some (.int (σ 60 9)) ∧ u1 = us σ 60 (upd (σ 60) 9 0)) (h2 : r2 = some (.int (u1 73 17)) ∧ u2 = us u1 73 (upd (u1 73) 17 0)) : r2 = r1 ∧ Rel u2 := by
  obtain ⟨rfl, rfl⟩ := h1
  obtain ⟨rfl, rfl⟩ := h2
  obtain ⟨n, hn, e9, e17⟩ := hR.len
  have e73 : us σ 60 (upd (σ 60) 9 0) 73 = σ 73 := us_n (by omega)
  rw [e73]
  refine ⟨by rw [e9, e17], ?_⟩
  refine Rel_eq (Z := tpZ σ (σ 63) (nI 0)) ⟨fun c _ hy => ?_, fun i _ => ?_⟩ (Rel_tape hR (by omega))
  · have e80 : σ 80 = σ 63 := hR.2.2.2.2.2.2.1.symm
    have h73 : c ≠ 73 := by omega
    unfold tpZ
    rw [us_n h73, us_n h73, us_id]
    by_cases e : c = 80
    · subst e; rw [us_s, us_n (by omega)]; exact e80
    · rw [us_n e]; rfl
  · rw [us_s, tpZ_73]; rfl
theorem K_text {σ u1 u2 : Sg} {r1 r2 : Option Value} {n : Nat} (hR : Rel σ) (e17 : σ 73 17 = nI n) (h1 : PZ σ (.inr (rtT (S_text (σ 63) n (σ 0)))) (N_text σ n) r1 u1) (h2 : PQ u1 (.inr (rtT (S_text (u1 80) n (u1 74)))) (N_textM u1 n) r2 u2) (hu : ∀ c, 73 ≤ c → u1 c = σ c) : r2 = r1 ∧ Rel u2 := by
  have e80 : u1 80 = σ 63 := (hu 80 (by omega)).trans hR.2.2.2.2.2.2.1.symm
  have e74 : u1 74 = σ 0 := (hu 74 (by omega)).trans hR.1.symm
  refine K_Z hR h1 h2 (by rw [e80, e74]) (fun z _ => ?_)
  obtain ⟨f, hf, hf1, hf2⟩ : ∃ f, RowOK f ∧ N_text σ n = us (us σ 60 (upd (σ 60) 9 0)) 0 f ∧ N_textM u1 n = us (us u1 73 (upd (u1 73) 17 0)) 74 f := by
    unfold N_text N_textM
    rw [e80, e74]
    cases hS : S_text (σ 63) n (σ 0) with
    | inl _ => exact ⟨σ 0, hR.2.1, rfl, rfl⟩
    | inr a => exact ⟨a.2, RowOK_tx _ _ _ _ _ hR.2.1 hS, rfl, rfl⟩
  rw [hf1, hf2, hu 73 (by omega), hu 77 (by omega)]
  refine ⟨by rw [us_n (by omega), us_n (by omega)], fun hx => ⟨by rw [us_n (by omega), us_n (by omega)]; exact hu 77 (by omega), _, Rel_row (t := σ 62) (Rel_tape (T := σ 63) hR (show 0 ≤ 120 by omega)) hf, fun c hr hy => ?_, fun i hi => ?_⟩⟩
  · have h73 : c ≠ 73 := by omega
    by_cases e : c = 77
    · subst e
      rw [us_s, us_n (by omega), us_n (by omega), hu 77 (by omega)]; exact hR.2.2.2.2.2.1.symm
    · rw [us_n e]
      by_cases e7 : c = 74
      · subst e7; rw [us_s, us_s]
      · rw [us_n e7, us_n e7, us_n h73, hx c hr]
        by_cases e62 : c = 62
        · subst e62; rw [us_s, us_n (by omega), us_n (by omega)]
        · rw [us_n e62]
          by_cases e0 : c = 0
          · subst e0; rw [us_s, us_s]
          · rw [us_n e0, us_n e0]
            unfold tpZ
            rw [us_n h73, us_id]
            by_cases e8 : c = 80
            · subst e8; rw [us_s, us_n (by omega)]; exact hR.2.2.2.2.2.2.1.symm
            · rw [us_n e8]; rfl
  · rw [us_n (show (73:Nat) ≠ 74 by omega), us_s, us_n (show (73:Nat) ≠ 77 by omega), us_n (show (73:Nat) ≠ 74 by omega), us_n (show (73:Nat) ≠ 62 by omega), us_n (show (73:Nat) ≠ 0 by omega), tpZ_73]; rfl
theorem K_image {σ u1 u2 : Sg} {r1 r2 : Option Value} (hR : Rel σ) (h1 : r1 = some (.int 1) ∧ EqX (us (us σ 1 (σ 0)) 60 (upd (σ 60) 10 1)) u1) (h2 : r2 = some (.int 1) ∧ u2 = us (us u1 75 (u1 74)) 73 (upd (u1 73) 4 1)) : r2 = r1 ∧ Rel u2 := by
  obtain ⟨rfl, x1⟩ := h1
  obtain ⟨rfl, rfl⟩ := h2
  have hu : ∀ c, 73 ≤ c → u1 c = σ c := fun c hc => by rw [x1 c (by omega), us_n (by omega), us_n (by omega)]
  refine ⟨rfl, Rel_eq (Z := kpZ σ (σ 0) 1) ⟨fun c hr hy => ?_, fun i _ => ?_⟩ (Rel_kept hR (fun _ => hR.2.1))⟩
  · have h73 : c ≠ 73 := by omega
    unfold kpZ
    rw [us_n h73, us_n h73]
    by_cases e : c = 75
    · subst e; rw [us_s, us_s, hu 74 (by omega)]; exact hR.1.symm
    · rw [us_n e, us_n e, x1 c hr]
  · rw [us_s, kpZ_73, hu 73 (by omega)]
theorem K_tear {σ u1 u2 : Sg} {r1 r2 : Option Value} (hR : Rel σ) (h1 : r1 = some (.int (if σ 60 10 = 0 then 0 else 1)) ∧ EqX (us σ 60 (upd (σ 60) 10 0)) u1) (h2 : r2 = some (.int (if u1 73 4 = 0 then 0 else 1)) ∧ u2 = us u1 73 (upd (u1 73) 4 0)) : r2 = r1 ∧ Rel u2 := by
  obtain ⟨rfl, x1⟩ := h1
  obtain ⟨rfl, rfl⟩ := h2
  have hu : ∀ c, 73 ≤ c → u1 c = σ c := fun c hc => by rw [x1 c (by omega), us_n (by omega)]
  refine ⟨by rw [hu 73 (by omega), hR.2.2.2.1], ?_⟩
  have hk := Rel_kept (f := σ 1) (v := 0) hR (fun q => absurd rfl q)
  obtain ⟨z0, z1, z2, z3, z4, z5, z6, z7, z8⟩ := hR
  have k : ∀ c, ¬ TR c → c ≠ 60 → c ≠ 73 → us u1 73 (upd (u1 73) 4 0) c = σ c := fun c hr h6 h7 => by rw [us_n h7, x1 c hr, us_n h6]
  have k60 : us u1 73 (upd (u1 73) 4 0) 60 = upd (σ 60) 10 0 := by rw [us_n (by omega), x1 60 (by omega), us_s]
  have k73 : us u1 73 (upd (u1 73) 4 0) 73 = upd (σ 73) 4 0 := by rw [us_s, hu 73 (by omega)]
  generalize us u1 73 (upd (u1 73) 4 0) = Z at k k60 k73 ⊢
  refine ⟨by rw [k 0 (by omega) (by omega) (by omega), k 74 (by omega) (by omega) (by omega)]; exact z0, by rw [k 0 (by omega) (by omega) (by omega)]; exact z1, by unfold MZ; rw [k73]; exact ⟨(upd_n (by omega)).trans z2.1, (upd_n (by omega)).trans z2.2.1, (upd_n (by omega)).trans z2.2.2⟩, by rw [k60, k73, upd_s, upd_s], by rw [k73, upd_s]; exact fun q => absurd rfl q, by rw [k 62 (by omega) (by omega) (by omega), k 77 (by omega) (by omega) (by omega)]; exact z5, by rw [k 63 (by omega) (by omega) (by omega), k 80 (by omega) (by omega) (by omega)]; exact z6, by rw [k60, k73, upd_n (by omega), upd_n (by omega)]; exact z7, fun s hs => ?_⟩
  unfold ShR
  rw [k (shc s) (by unfold shc; omega) (by unfold shc; omega) (by unfold shc; omega), k (nmc s) (by unfold nmc; omega) (by unfold nmc; omega) (by unfold nmc; omega), k 81 (by omega) (by omega) (by omega), k 82 (by omega) (by omega) (by omega), k 83 (by omega) (by omega) (by omega)]
  exact z8 s hs
theorem K_undo {σ u1 u2 : Sg} {r1 r2 : Option Value} (hR : Rel σ) (h1 : PZ σ (S_undo σ) (us σ 0 (σ 1)) r1 u1) (h2 : PQ u1 (S_undo2 u1) (us u1 74 (u1 75)) r2 u2) (hu : ∀ c, 73 ≤ c → u1 c = σ c) : r2 = r1 ∧ Rel u2 := by
  by_cases h0 : σ 73 4 = 0
  · have e6 : σ 60 10 = 0 := hR.2.2.2.1.trans h0
    refine K_Z hR h1 h2 (by unfold S_undo S_undo2; rw [hu 73 (by omega), if_pos h0, if_pos e6]) (fun z hz => ?_)
    unfold S_undo at hz
    rw [if_pos e6] at hz
    cases hz
  · have e6 : ¬ σ 60 10 = 0 := by rw [hR.2.2.2.1]; exact h0
    obtain ⟨ek, hok⟩ := hR.2.2.2.2.1 h0
    refine K_Z hR h1 h2 (by unfold S_undo S_undo2; rw [hu 73 (by omega), if_neg h0, if_neg e6, hu 75 (by omega), ek]) (fun z hz => ⟨us_n (by omega), fun hx => ⟨us_n (by omega), _, Rel_row (t := σ 62) hR hok, fun c hr hy => ?_, fun i hi => ?_⟩⟩)
    · by_cases e : c = 77
      · subst e
        rw [us_s, us_n (by omega), hu 77 (by omega)]; exact hR.2.2.2.2.2.1.symm
      · rw [us_n e]
        by_cases e7 : c = 74
        · subst e7; rw [us_s, us_s, hu 75 (by omega), ek]
        · rw [us_n e7, us_n e7, hx c hr]
          by_cases e62 : c = 62
          · subst e62; rw [us_s, us_n (by omega)]
          · rw [us_n e62]
    · rw [us_n (show (73:Nat) ≠ 74 by omega), us_n (show (73:Nat) ≠ 77 by omega), us_n (show (73:Nat) ≠ 74 by omega), us_n (show (73:Nat) ≠ 62 by omega), us_n (show (73:Nat) ≠ 0 by omega), hu 73 (by omega)]
theorem K_sheet {σ u1 u2 : Sg} {r1 r2 : Option Value} {p0 p1 p2 : Int32} (hR : Rel σ) (h1 : PZ σ (S_sheet p0 p1 p2) (N_sheet σ (hk p0) p1 p2) r1 u1) (h2 : PQ u1 (S_sheet p0 p1 p2) (us (us (us u1 81 (upd (u1 81) (hk p0) p1)) 82 (upd (u1 82) (hk p0) (if p1 = 0 then 0 else p2))) 83 (zO (u1 83) (hk p0) 40)) r2 u2) (hu : ∀ c, 73 ≤ c → u1 c = σ c) : r2 = r1 ∧ Rel u2 := by
  refine K_Z hR h1 h2 rfl (fun z hz => ?_)
  unfold S_sheet at hz
  by_cases hq : inP p0 0 3
  · rw [if_pos hq] at hz
    have hs := hk_lt4 hq
    by_cases hb : p1 = 0 ∨ p1 = 8 ∨ p1 = 16 ∨ p1 = 32
    · rw [if_pos hb] at hz
      by_cases hneg : p2 < 0
      · rw [if_pos hneg] at hz; cases hz
      · rw [if_neg hneg] at hz
        by_cases h40 : p2 ≤ 40
        · generalize hk p0 = s at hs ⊢
          obtain ⟨l, hl⟩ : ∃ l : Int32, l = if p1 = 0 then 0 else p2 := ⟨_, rfl⟩
          have hl40 : ∃ n, n ≤ 40 ∧ l = nI n := by
            rw [hl]
            by_cases h0 : p1 = 0
            · rw [if_pos h0]; exact ⟨0, by omega, rfl⟩
            · rw [if_neg h0]
              obtain ⟨n, hn, hn2⟩ := i32_le (m := 40) (x := p2) (by omega) (Int32.not_lt.mp hneg) h40
              exact ⟨n, hn2, hn⟩
          unfold N_sheet
          rw [← hl]
          have hsn : shc s ≠ nmc s := by unfold shc nmc; omega
          refine ⟨by rw [us_n (by unfold nmc; omega), us_n (by unfold shc; omega)], fun hx => ⟨by rw [us_n (by omega), us_n (by omega), us_n (by omega)], us (us (us u1 81 (upd (u1 81) s p1)) 82 (upd (u1 82) s l)) 83 (zO (u1 83) s 40), ?_, fun _ _ _ => rfl, fun _ _ => rfl⟩⟩
          have hx2 := hx
          generalize hZ : us (us (us u1 81 (upd (u1 81) s p1)) 82 (upd (u1 82) s l)) 83 (zO (u1 83) s 40) = Z
          have z81 : Z 81 = upd (σ 81) s p1 := by rw [← hZ, us_n (by omega), us_n (by omega), us_s, hu 81 (by omega)]
          have z82 : Z 82 = upd (σ 82) s l := by rw [← hZ, us_n (by omega), us_s, hu 82 (by omega)]
          have z83 : Z 83 = zO (σ 83) s 40 := by rw [← hZ, us_s, hu 83 (by omega)]
          have zc : ∀ c, c ≠ 81 → c ≠ 82 → c ≠ 83 → ¬ TR c → Z c = us (us σ (shc s) (upd (upd (σ (shc s)) 1 p1) 2 l)) (nmc s) (zeroN (σ (nmc s)) 40) c := fun c a b d e => by rw [← hZ, us_n d, us_n b, us_n a, hx c e]
          have zs : Z (shc s) = upd (upd (σ (shc s)) 1 p1) 2 l := by rw [zc _ (by unfold shc; omega) (by unfold shc; omega) (by unfold shc; omega) (by unfold shc; omega), us_n hsn, us_s]
          have zn : Z (nmc s) = zeroN (σ (nmc s)) 40 := by rw [zc _ (by unfold nmc; omega) (by unfold nmc; omega) (by unfold nmc; omega) (by unfold nmc; omega), us_s]
          refine Rel_eq (Z := fun c => if TR c then σ c else Z c) ⟨fun c hr hy => (if_neg hr).symm, fun i hi => congrFun (if_neg (show ¬ TR 73 by omega)).symm i⟩ ?_
          have w : ∀ c, ¬ TR c → (fun c => if TR c then σ c else Z c) c = Z c := fun c hc => if_neg hc
          generalize hW : (fun c => if TR c then σ c else Z c) = W at w
          refine Rel_sh hR hs (b := p1) (l := l) (fun c a b d e f => ?_) (by rw [w 81 (by omega), z81]) (by rw [w 82 (by omega), z82]) (by rw [w _ (by unfold shc; omega), zs, upd_n (by omega), upd_s]) (by rw [w _ (by unfold shc; omega), zs, upd_s]) hb hl40 (fun i hi => ?_) (fun s' hs' hne i hi => ?_)
          · by_cases hc : TR c
            · rw [← hW]; exact if_pos hc
            · rw [w c hc, zc c d e f hc, us_n b, us_n a]
          · rw [w _ (by unfold nmc; omega), w 83 (by omega), zn, z83, zeroN_z _ _ _ hi, zO_z _ _ _ _ hi]
            exact ⟨rfl, cutV_0 _⟩
          · rw [w 83 (by omega), z83]
            exact zO_n _ _ _ _ (by omega) (by omega)
        · rw [if_neg h40] at hz; cases hz
    · rw [if_neg hb] at hz; cases hz
  · rw [if_neg hq] at hz; cases hz
/-- the reference's cells read as the system's, after an act of the system -/
theorem tMs {σ u1 : Sg} (hR : RelN σ) (hu : ∀ c, 73 ≤ c → u1 c = σ c) {s : Nat} (hs : s < 4) : tM u1 (shc s) 1 = σ (shc s) 1 ∧ tM u1 (shc s) 2 = σ (shc s) 2 ∧ tM u1 (nmc s) = σ (nmc s) := by
  obtain ⟨a1, a2, a3, a4, a5⟩ := hR.1.sh s hs
  exact ⟨by rw [tM_b hs, hu 81 (by omega)]; exact a1.symm, by rw [tM_l hs, hu 82 (by omega)]; exact a2.symm, by rw [tM_n hs, hR.2 s hs, hu 83 (by omega)]⟩
theorem tM0 {σ u1 : Sg} (hR : RelN σ) (hu : ∀ c, 73 ≤ c → u1 c = σ c) : tM u1 0 = σ 0 := by rw [tM_0, hu 74 (by omega)]; exact hR.1.1.symm
theorem hk_idx {p l : Int32} {n : Nat} (hn : n ≤ 40) (hl : l = nI n) (h : inP p 0 (l - 1)) : hk p < n := by
  subst hl
  by_cases h0 : n = 0
  · subst h0
    exact absurd (Int32.le_trans h.1 h.2) (by decide)
  · rw [nI_m1 (by omega)] at h
    obtain ⟨k, rfl, hk3⟩ := i32_le (m := n - 1) (by omega) h.1 h.2
    rw [hk_n (by omega)]; omega
theorem K_write {σ u1 u2 : Sg} {r1 r2 : Option Value} {p0 p1 p2 : Int32} (hN : RelN σ) (h1 : PZ σ (S_write σ p0 p1) (N_write σ (hk p0) (hk p1) p2) r1 u1) (h2 : PQ u1 (S_write (tM u1) p0 p1) (us u1 83 (upd (u1 83) (40 * hk p0 + hk p1) (cutV (u1 81 (hk p0)) p2))) r2 u2) (hu : ∀ c, 73 ≤ c → u1 c = σ c) : r2 = r1 ∧ Rel u2 := by
  have hR := hN.1
  refine K_Z hR h1 h2 ?_ (fun z hz => ?_)
  · unfold S_write
    by_cases hq : inP p0 0 3
    · obtain ⟨b1, b2, b3⟩ := tMs hN hu (hk_lt4 hq)
      rw [b1, b2]
    · rw [if_neg hq, if_neg hq]
  · unfold S_write at hz
    by_cases hq : inP p0 0 3
    · rw [if_pos hq] at hz
      have hs := hk_lt4 hq
      by_cases hb0 : σ (shc (hk p0)) 1 = 0
      · rw [if_pos hb0] at hz; cases hz
      · rw [if_neg hb0] at hz
        by_cases hi : inP p1 0 (σ (shc (hk p0)) 2 - 1)
        · generalize hk p0 = s at hs hb0 hi ⊢
          obtain ⟨a1, a2, a3, ⟨n, hn, hl⟩, a5⟩ := hR.sh s hs
          have hin : hk p1 < n := hk_idx hn (a2.trans hl) hi
          generalize hk p1 = i at hin ⊢
          unfold N_write
          rw [hu 81 (by omega), hu 83 (by omega), a1]
          have hsn : shc s ≠ nmc s := by unfold shc nmc; omega
          refine ⟨us_n (by unfold nmc; omega), fun hx => ⟨us_n (by omega), fun c => if TR c then σ c else us u1 83 (upd (σ 83) (40 * s + i) (cutV (σ 81 s) p2)) c, ?_, fun c hr _ => (if_neg hr).symm, fun i hi => congrFun (if_neg (show ¬ TR 73 by omega)).symm i⟩⟩
          have w : ∀ c, ¬ TR c → (fun c => if TR c then σ c else us u1 83 (upd (σ 83) (40 * s + i) (cutV (σ 81 s) p2)) c) c = us u1 83 (upd (σ 83) (40 * s + i) (cutV (σ 81 s) p2)) c := fun c hc => if_neg hc
          have w2 : ∀ c, TR c → (fun c => if TR c then σ c else us u1 83 (upd (σ 83) (40 * s + i) (cutV (σ 81 s) p2)) c) c = σ c := fun c hc => if_pos hc
          generalize (fun c => if TR c then σ c else us u1 83 (upd (σ 83) (40 * s + i) (cutV (σ 81 s) p2)) c) = W at w w2 ⊢
          have wn : ∀ c, c ≠ 83 → c ≠ nmc s → W c = σ c := fun c h83 hn => by
            by_cases hc : TR c
            · exact w2 c hc
            · rw [w c hc, us_n h83, hx c hc, us_n hn]
          have w83 : W 83 = upd (σ 83) (40 * s + i) (cutV (σ 81 s) p2) := by rw [w 83 (by omega), us_s]
          have wnm : W (nmc s) = upd (σ (nmc s)) i (cutV (σ 81 s) p2) := by rw [w _ (by unfold nmc; omega), us_n (by unfold nmc; omega), hx _ (by unfold nmc; omega), us_s]
          refine Rel_sh hR hs (b := σ 81 s) (l := σ 82 s) (fun c a b d e f => wn c f b) (by rw [wn 81 (by omega) (by unfold nmc; omega), upd_id]) (by rw [wn 82 (by omega) (by unfold nmc; omega), upd_id]) (by rw [wn _ (by unfold shc; omega) hsn]; exact a1) (by rw [wn _ (by unfold shc; omega) hsn]; exact a2) a3 ⟨n, hn, hl⟩ (fun x hx2 => ?_) (fun s' hs' hne x hx2 => ?_)
          · rw [wnm, w83]
            by_cases e : x = i
            · subst e
              rw [upd_s, upd_s]
              exact ⟨rfl, cutV_idem _ _⟩
            · rw [upd_n e, upd_n (by omega)]
              exact a5 x hx2
          · rw [w83, upd_n (by omega)]
        · rw [if_neg hi] at hz; cases hz
    · rw [if_neg hq] at hz; cases hz
theorem K_copy {σ u1 u2 : Sg} {r1 r2 : Option Value} {p0 p1 p2 p3 p4 : Int32} (hN : RelN σ) (h1 : PZ σ (S_copy σ p0 p1 p2 p3 p4) (N_copy σ p0 p1 p2 p3 p4) r1 u1) (h2 : PQ u1 (S_copy (tM u1) p0 p1 p2 p3 p4) (us u1 83 (cpO (u1 83) (u1 83) (40 * hk p2 + hk p3) (40 * hk p0 + hk p1) (hk p4))) r2 u2) (hu : ∀ c, 73 ≤ c → u1 c = σ c) : r2 = r1 ∧ Rel u2 := by
  have hR := hN.1
  refine K_Z hR h1 h2 ?_ (fun z hz => ?_)
  · unfold S_copy
    by_cases hq : inP p0 0 3
    · by_cases hq2 : inP p2 0 3
      · obtain ⟨b1, b2, b3⟩ := tMs hN hu (hk_lt4 hq)
        obtain ⟨c1, c2, c3⟩ := tMs hN hu (hk_lt4 hq2)
        rw [b1, b2, c1, c2]
      · rw [if_neg hq2, if_neg hq2]
    · rw [if_neg hq, if_neg hq]
  · unfold S_copy at hz
    by_cases hq : inP p0 0 3
    · rw [if_pos hq] at hz
      have hs := hk_lt4 hq
      by_cases hq2 : inP p2 0 3
      · rw [if_pos hq2] at hz
        have ht := hk_lt4 hq2
        by_cases hb0 : σ (shc (hk p0)) 1 = 0
        · rw [if_pos hb0] at hz; cases hz
        · rw [if_neg hb0] at hz
          by_cases hb1 : σ (shc (hk p2)) 1 = 0
          · rw [if_pos hb1] at hz; cases hz
          · rw [if_neg hb1] at hz
            by_cases hbb : σ (shc (hk p0)) 1 = σ (shc (hk p2)) 1
            · rw [if_pos hbb] at hz
              by_cases hp1 : hasP p1 p4 (σ (shc (hk p0)) 2)
              · rw [if_pos hp1] at hz
                by_cases hp3 : hasP p3 p4 (σ (shc (hk p2)) 2)
                · obtain ⟨a1, a2, a3, ⟨ns, hns, hls⟩, a5⟩ := hR.sh (hk p0) hs
                  obtain ⟨d1, d2, d3, ⟨nt, hnt, hlt⟩, d5⟩ := hR.sh (hk p2) ht
                  obtain ⟨i, n, rfl, rfl, hin⟩ := has_n hns (a2.trans hls) hp1
                  obtain ⟨j, rfl, hjn⟩ := has_m (n := n) (by omega) hnt (d2.trans hlt) hp3
                  unfold N_copy
                  rw [hk_n (show i < 2 ^ 31 by omega), hk_n (show j < 2 ^ 31 by omega), hk_n (show n < 2 ^ 31 by omega), hu 83 (by omega)]
                  generalize hk p0 = s at *
                  generalize hk p2 = t at *
                  have htn : shc t ≠ nmc t := by unfold shc nmc; omega
                  have hcut : ∀ x, x < n → cutV (σ (shc t) 1) (σ (nmc s) (i + x)) = σ (nmc s) (i + x) := fun x hx => by
                    rw [← hbb, a1, (a5 (i + x) (by omega)).1]
                    exact (a5 (i + x) (by omega)).2
                  refine ⟨cpyS_o (by unfold nmc; omega) n, fun hx => ⟨us_n (by omega), fun c => if TR c then σ c else us u1 83 (cpO (σ 83) (σ 83) (40 * t + j) (40 * s + i) n) c, ?_, fun c hr _ => (if_neg hr).symm, fun i hi => congrFun (if_neg (show ¬ TR 73 by omega)).symm i⟩⟩
                  have w : ∀ c, ¬ TR c → (fun c => if TR c then σ c else us u1 83 (cpO (σ 83) (σ 83) (40 * t + j) (40 * s + i) n) c) c = us u1 83 (cpO (σ 83) (σ 83) (40 * t + j) (40 * s + i) n) c := fun c hc => if_neg hc
                  have w2 : ∀ c, TR c → (fun c => if TR c then σ c else us u1 83 (cpO (σ 83) (σ 83) (40 * t + j) (40 * s + i) n) c) c = σ c := fun c hc => if_pos hc
                  generalize (fun c => if TR c then σ c else us u1 83 (cpO (σ 83) (σ 83) (40 * t + j) (40 * s + i) n) c) = W at w w2 ⊢
                  have wn : ∀ c, c ≠ 83 → c ≠ nmc t → W c = σ c := fun c h83 hn => by
                    by_cases hc : TR c
                    · exact w2 c hc
                    · rw [w c hc, us_n h83, hx c hc]; exact cpyS_o hn n
                  have w83 : W 83 = cpO (σ 83) (σ 83) (40 * t + j) (40 * s + i) n := by rw [w 83 (by omega), us_s]
                  have wnm : W (nmc t) = cpyS σ s t i j n n (nmc t) := by rw [w _ (by unfold nmc; omega), us_n (by unfold nmc; omega), hx _ (by unfold nmc; omega)]
                  refine Rel_sh hR ht (b := σ 81 t) (l := σ 82 t) (fun c a b d e f => wn c f b) (by rw [wn 81 (by omega) (by unfold nmc; omega), upd_id]) (by rw [wn 82 (by omega) (by unfold nmc; omega), upd_id]) (by rw [wn _ (by unfold shc; omega) htn]; exact d1) (by rw [wn _ (by unfold shc; omega) htn]; exact d2) d3 ⟨nt, hnt, hlt⟩ (fun x hx2 => ?_) (fun s' hs' hne x hx2 => ?_)
                  · rw [wnm, w83, cpyS_v hcut htn n (Nat.le_refl n) x]
                    unfold cpO
                    by_cases hc : j ≤ x ∧ x < j + n
                    · rw [if_pos (cpyO_all.mpr hc), if_pos (show 40 * t + j ≤ 40 * t + x ∧ 40 * t + x < 40 * t + j + n by omega), show 40 * s + i + (40 * t + x - (40 * t + j)) = 40 * s + (i + (x - j)) by omega, (a5 (i + (x - j)) (by omega)).1]
                      refine ⟨rfl, ?_⟩
                      rw [← d1, ← hbb, a1]
                      exact (a5 (i + (x - j)) (by omega)).2
                    · rw [if_neg (fun q => hc (cpyO_all.mp q)), if_neg (show ¬ (40 * t + j ≤ 40 * t + x ∧ 40 * t + x < 40 * t + j + n) by omega)]
                      exact d5 x hx2
                  · rw [w83]
                    unfold cpO
                    rw [if_neg (show ¬ (40 * t + j ≤ 40 * s' + x ∧ 40 * s' + x < 40 * t + j + n) by omega)]
                · rw [if_neg hp3] at hz; cases hz
              · rw [if_neg hp1] at hz; cases hz
            · rw [if_neg hbb] at hz; cases hz
      · rw [if_neg hq2] at hz; cases hz
    · rw [if_neg hq] at hz; cases hz
theorem t_load {σ u1 : Sg} (hN : RelN σ) (hu : ∀ c, 73 ≤ c → u1 c = σ c) (p : Int32) : S_load (tM u1) p = S_load σ p := by
  unfold S_load
  by_cases hq : inP p 0 3
  · obtain ⟨b1, b2, b3⟩ := tMs hN hu (hk_lt4 hq)
    rw [b1, b2, b3, tM0 hN hu]
  · rw [if_neg hq, if_neg hq]
theorem n_load {σ u1 : Sg} (hN : RelN σ) (hu : ∀ c, 73 ≤ c → u1 c = σ c) {s : Nat} (hs : s < 4) : N_load (tM u1) s = N_load σ s := by
  obtain ⟨b1, b2, b3⟩ := tMs hN hu hs
  unfold N_load
  rw [b2, b3, tM0 hN hu]
theorem t_rounds {σ u1 : Sg} (hN : RelN σ) (hu : ∀ c, 73 ≤ c → u1 c = σ c) (p q : Int32) : S_rounds (tM u1) p q = S_rounds σ p q := by
  unfold S_rounds
  by_cases hq : inP p 0 3
  · obtain ⟨b1, b2, b3⟩ := tMs hN hu (hk_lt4 hq)
    rw [b1, b2, b3, tM0 hN hu]
  · rw [if_neg hq, if_neg hq]
theorem t_diary {σ u1 : Sg} (hN : RelN σ) (hu : ∀ c, 73 ≤ c → u1 c = σ c) (p q : Int32) : S_diary (tM u1) p q = S_diary σ p q := by
  unfold S_diary
  by_cases hq : inP p 0 3
  · obtain ⟨b1, b2, b3⟩ := tMs hN hu (hk_lt4 hq)
    rw [b1, b2, b3, tM0 hN hu]
  · rw [if_neg hq, if_neg hq]
theorem t_judge {σ u1 : Sg} (hN : RelN σ) (hu : ∀ c, 73 ≤ c → u1 c = σ c) (p q : Int32) : S_judge (tM u1) p q = S_judge σ p q := by
  unfold S_judge
  by_cases hq : inP p 0 3
  · obtain ⟨b1, b2, b3⟩ := tMs hN hu (hk_lt4 hq)
    rw [b1, b2, b3, tM0 hN hu]
  · rw [if_neg hq, if_neg hq]
theorem PQ_inl {σ τ τ' u : Sg} {j : Nat} {r : Option Value} (h : PQ σ (.inl j) τ r u) : PQ σ (.inl j) τ' r u := ⟨h.1, h.2⟩
/-- load: a finding leaves the row -/
theorem K_load {σ u1 u2 : Sg} {r1 r2 : Option Value} {p0 : Int32} (hN : RelN σ) (h1 : PX σ (S_load σ p0) (N_load σ (hk p0)) r1 u1) (h2 : PQ u1 (S_load (tM u1) p0) (us u1 74 (N_load (tM u1) (hk p0))) r2 u2) : r2 = r1 ∧ Rel u2 := by
  have hu : ∀ c, 73 ≤ c → u1 c = σ c := fun c hc => X_74 h1 hc
  rw [t_load hN hu] at h2
  by_cases hq : inP p0 0 3
  · rw [n_load hN hu (hk_lt4 hq)] at h2
    exact K_row hN.1 h1 h2 rfl rfl (fun z _ => RowOK_load hN.1.2.1)
  · have eS : S_load σ p0 = .inl 0 := by unfold S_load; rw [if_neg hq]
    have h2' : PQ u1 (S_load σ p0) (us u1 74 (N_load σ (hk p0))) r2 u2 := by
      rw [eS] at h2 ⊢
      exact PQ_inl h2
    exact K_row hN.1 h1 h2' rfl rfl (fun z _ => RowOK_load hN.1.2.1)
