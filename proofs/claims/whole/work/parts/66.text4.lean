theorem kd_lt {t : Nat → Int32} {n s : Nat} (h : 0 ≤ kdT t n s) : s < n := Classical.byContradiction fun q => by
  have w : ∀ i, ¬ wdT t n i s := fun i hw => q (wdT_i.mp hw).1.1
  unfold kdT at h
  rw [if_neg (w 0), if_neg (w 1), if_neg (w 2), if_neg (w 3), if_neg (w 4), if_neg (w 5), if_neg (w 6)] at h
  exact absurd h (by decide)
theorem pt_ge2 {t : Nat → Int32} {n i lo hi s : Nat} {d : Int32} {a : Nat × Int32} (hs : s ≤ n) (h : ptT t n i lo hi d s = .inr a) : s ≤ a.1 ∧ a.1 ≤ n := by
  have := pt_le (t := t) (i := i) (lo := lo) (hi := hi) (d := d) hs
  rw [h] at this; exact ⟨this.2, this.1⟩
theorem hs_gt {t : Nat → Int32} {n s : Nat} {k : Int32} {r : Nat → Int32} {a : Nat × (Nat → Int32)} (hs : s < n) (h : hsT t n k s r = .inr a) : s < a.1 ∧ a.1 ≤ n := by
  have h0 := nxT_gt (t := t) hs
  have h1 := nxT_le (t := t) (Nat.le_of_lt hs)
  unfold hsT at h
  by_cases h8 : nh r < 8
  · rw [if_pos h8] at h
    rcases e1 : ptT t n 7 0 400 100 (nxT t n s) with p | a1
    · rw [e1] at h; cases h
    · have g1 := pt_ge2 h1 e1
      rw [e1, bd_r] at h
      rcases e2 : ptT t n 8 1 40 10 a1.1 with p | a2
      · rw [e2] at h; cases h
      · have g2 := pt_ge2 g1.2 e2
        rw [e2, bd_r] at h
        rcases e3 : ptT t n 9 0 99 8 a2.1 with p | a3
        · rw [e3] at h; cases h
        · have g3 := pt_ge2 g2.2 e3
          rw [e3, bd_r] at h
          rcases e4 : ptT t n 10 0 400 60 a3.1 with p | a4
          · rw [e4] at h; cases h
          · have g4 := pt_ge2 g3.2 e4
            rw [e4, bd_r] at h
            cases h
            exact ⟨by show s < a4.1; omega, g4.2⟩
  · rw [if_neg h8] at h; cases h
theorem it_gt {t : Nat → Int32} {n s : Nat} {r : Nat → Int32} {a : Nat × (Nat → Int32)} (hs : s ≤ n) (h : itT t n s r = .inr a) : s < a.1 ∧ a.1 ≤ n := by
  have hx : ∀ s, s ≤ n → s ≤ nxT t n s ∧ nxT t n s ≤ n := fun s h => ⟨Nat.le_trans enT_ge skT_ge, nxT_le h⟩
  unfold itT at h
  by_cases c : 0 ≤ kdT t n s
  · rw [if_pos c] at h; exact hs_gt (kd_lt c) h
  · rw [if_neg c] at h
    by_cases c1 : wdT t n 11 s
    · have hl := (wdT_i.mp c1).1.1
      have h0 := nxT_gt (t := t) hl
      have x1 := hx s hs
      have x2 := hx _ x1.2
      have x3 := hx _ x2.2
      rw [if_pos c1] at h
      unfold spT at h
      by_cases d1 : nmT t n 0 6 (nxT t n s)
      · rw [if_pos d1] at h
        by_cases d2 : nmT t n 0 9 (nxT t n (nxT t n s))
        · rw [if_pos d2] at h; cases h; exact ⟨by show s < nxT t n (nxT t n (nxT t n s)); omega, x3.2⟩
        · rw [if_neg d2] at h; cases h
      · rw [if_neg d1] at h; cases h
    · rw [if_neg c1] at h
      by_cases c2 : wdT t n 12 s
      · have hl := (wdT_i.mp c2).1.1
        have h0 := nxT_gt (t := t) hl
        have x1 := hx s hs
        have x2 := hx _ x1.2
        rw [if_pos c2] at h
        unfold ouT at h
        by_cases d1 : nmT t n 0 100 (nxT t n s)
        · rw [if_pos d1] at h; cases h; exact ⟨by show s < nxT t n (nxT t n s); omega, x2.2⟩
        · rw [if_neg d1] at h; cases h
      · rw [if_neg c2] at h
        by_cases c3 : wdT t n 13 s
        · rw [if_pos c3] at h; cases h; exact ⟨nxT_gt (wdT_i.mp c3).1.1, (hx s hs).2⟩
        · rw [if_neg c3] at h
          by_cases c4 : wdT t n 14 s
          · rw [if_pos c4] at h; cases h; exact ⟨nxT_gt (wdT_i.mp c4).1.1, (hx s hs).2⟩
          · rw [if_neg c4] at h; cases h
theorem tx_c {t : Nat → Int32} {n : Nat} : ∀ (F c s : Nat) (r : Nat → Int32) (a : Nat × (Nat → Int32)), txT t n F c s r = .inr a → c ≤ a.1 ∧ a.1 ≤ c + F := by
  intro F
  induction F with
  | zero => intro c s r a h; cases h
  | succ F ih =>
    intro c s r a h
    unfold txT at h
    rcases e : itT t n s r with p | b
    · rw [e] at h; cases h
    · rw [e, bd_r] at h
      by_cases c1 : b.1 < n
      · rw [if_pos c1] at h
        by_cases c2 : t b.1 = 59
        · rw [if_pos c2] at h
          have := ih _ _ _ _ h
          omega
        · rw [if_neg c2] at h; cases h
      · rw [if_neg c1] at h; cases h; exact ⟨Nat.le_refl _, by show c ≤ c + (F + 1); omega⟩
theorem m1_le : ∀ p, p < 121 → (-1 - nI p : Int32) ≤ 0 := by decide +kernel
theorem pt_lf {t : Nat → Int32} {n i lo hi s p : Nat} {d : Int32} (hs : s ≤ n) (h : ptT t n i lo hi d s = .inl p) : p ≤ n := by
  have := (pt_le (t := t) (i := i) (lo := lo) (hi := hi) (d := d) hs).1
  rw [h] at this; exact this
theorem hs_le {t : Nat → Int32} {n s p : Nat} {k : Int32} {r : Nat → Int32} (hs : s ≤ n) (h : hsT t n k s r = .inl p) : p ≤ n := by
  have h1 := nxT_le (t := t) hs
  unfold hsT at h
  by_cases h8 : nh r < 8
  · rw [if_pos h8] at h
    rcases e1 : ptT t n 7 0 400 100 (nxT t n s) with p | a1
    · rw [e1] at h; cases h; exact pt_lf h1 e1
    · have g1 := pt_ge2 h1 e1
      rw [e1, bd_r] at h
      rcases e2 : ptT t n 8 1 40 10 a1.1 with p | a2
      · rw [e2] at h; cases h; exact pt_lf g1.2 e2
      · have g2 := pt_ge2 g1.2 e2
        rw [e2, bd_r] at h
        rcases e3 : ptT t n 9 0 99 8 a2.1 with p | a3
        · rw [e3] at h; cases h; exact pt_lf g2.2 e3
        · have g3 := pt_ge2 g2.2 e3
          rw [e3, bd_r] at h
          rcases e4 : ptT t n 10 0 400 60 a3.1 with p | a4
          · rw [e4] at h; cases h; exact pt_lf g3.2 e4
          · rw [e4, bd_r] at h; cases h
  · rw [if_neg h8] at h; cases h; exact hs
theorem it_lf {t : Nat → Int32} {n s p : Nat} {r : Nat → Int32} (hs : s ≤ n) (h : itT t n s r = .inl p) : p ≤ n := by
  have x1 := nxT_le (t := t) hs
  have x2 := nxT_le (t := t) x1
  unfold itT at h
  by_cases c : 0 ≤ kdT t n s
  · rw [if_pos c] at h; exact hs_le hs h
  · rw [if_neg c] at h
    by_cases c1 : wdT t n 11 s
    · rw [if_pos c1] at h
      unfold spT at h
      by_cases d1 : nmT t n 0 6 (nxT t n s)
      · rw [if_pos d1] at h
        by_cases d2 : nmT t n 0 9 (nxT t n (nxT t n s))
        · rw [if_pos d2] at h; cases h
        · rw [if_neg d2] at h; cases h; exact x2
      · rw [if_neg d1] at h; cases h; exact x1
    · rw [if_neg c1] at h
      by_cases c2 : wdT t n 12 s
      · rw [if_pos c2] at h
        unfold ouT at h
        by_cases d1 : nmT t n 0 100 (nxT t n s)
        · rw [if_pos d1] at h; cases h
        · rw [if_neg d1] at h; cases h; exact x1
      · rw [if_neg c2] at h
        by_cases c3 : wdT t n 13 s
        · rw [if_pos c3] at h; cases h
        · rw [if_neg c3] at h
          by_cases c4 : wdT t n 14 s
          · rw [if_pos c4] at h; cases h
          · rw [if_neg c4] at h; cases h; exact hs
theorem tx_le {t : Nat → Int32} {n : Nat} : ∀ (F c s p : Nat) (r : Nat → Int32), s ≤ n → txT t n F c s r = .inl p → p ≤ n := by
  intro F
  induction F with
  | zero => intro c s p r hs h; cases h; exact hs
  | succ F ih =>
    intro c s p r hs h
    unfold txT at h
    rcases e : itT t n s r with q | b
    · rw [e] at h; cases h; exact it_lf hs e
    · rw [e, bd_r] at h
      by_cases c1 : b.1 < n
      · rw [if_pos c1] at h
        by_cases c2 : t b.1 = 59
        · rw [if_pos c2] at h; exact ih _ _ _ _ (nxT_le (Nat.le_of_lt c1)) h
        · rw [if_neg c2] at h; cases h; exact Nat.le_of_lt c1
      · rw [if_neg c1] at h; cases h
def rtT (S : Nat ⊕ (Nat × (Nat → Int32))) : Int32 := match S with
  | .inl p => -1 - nI p
  | .inr a => nI a.1
def HR (σ : Sg) (S : Nat ⊕ (Nat × (Nat → Int32))) : Option Value → Sg → Prop := fun r u => r = some (.int (rtT S)) ∧ ∃ h g, u = us (us σ 64 h) 2 g ∧ ∀ a, S = .inr a → g = a.2
theorem HR_f {σ : Sg} {S : Nat ⊕ (Nat × (Nat → Int32))} {p : Nat} {h g : Nat → Int32} {v : Int32} (hS : S = .inl p) (hv : v = nI p) : HR σ S (some (.int (-1 - v))) (us (us σ 64 h) 2 g) := by
  subst hS hv
  exact ⟨rfl, h, g, rfl, fun a e => by cases e⟩
theorem HR_t {σ : Sg} {S : Nat ⊕ (Nat × (Nat → Int32))} {c : Nat} {h g : Nat → Int32} (hS : S = .inr (c, g)) : HR σ S (some (.int (nI c))) (us (us σ 64 h) 2 g) := by
  subst hS
  exact ⟨rfl, h, g, rfl, fun a e => by cases e; rfl⟩
def T0 (σ : Sg) (f : Nat → Int32) (e : Nat) (b c w : Int32) (g : Nat → Int32) : Sg := us (us σ 64 (WF f (nI e) b c w)) 2 g
theorem c_nextT {l : Launch} {E : En} {σ : Sg} {f g : Nat → Int32} {b c w : Int32} {n e : Nat} (h2 : f 2 = nI n) (he : e ≤ n) (hn : n ≤ 120) : MD l yX2_next cX2_next 1 none rnX2_next E [.ref (ad E 64)] (T0 σ f e b c w g) none (TQ σ f n (skT (σ 63) n e) g) := by
  have h := c_X2_next (l := l) (E := E) (σ := T0 σ f e b c w g) (f := f) (n := n) (e := e) (b := b) (c := c) (g := w) (by unfold T0; rw [us_n (by omega), us_s]) h2 he hn
  have e1 : T0 σ f e b c w g 63 = σ 63 := by unfold T0; rw [us_n (by omega), us_n (by omega)]
  have e2 : ∀ s, us (T0 σ f e b c w g) 64 (RF f (σ 63) n s) = TQ σ f n s g := fun s => by unfold T0 TQ; rw [us_comm (c := 2) (d := 64) (by omega), us_us]
  rw [e1, e2] at h
  exact h
theorem tx_s {t : Nat → Int32} {n F c s : Nat} {r : Nat → Int32} {a : Nat × (Nat → Int32)} (h : itT t n s r = .inr a) (h1 : a.1 < n) (h2 : t a.1 = 59) : txT t n (F + 1) c s r = txT t n F (c + 1) (nxT t n a.1) a.2 := by
  show bdT (itT t n s r) _ = _
  rw [h, bd_r, if_pos h1, if_pos h2]
theorem tx_f {t : Nat → Int32} {n F c s p : Nat} {r : Nat → Int32} (h : itT t n s r = .inl p) : txT t n (F + 1) c s r = .inl p := by
  show bdT (itT t n s r) _ = _
  rw [h, bd_l]
theorem tx_x {t : Nat → Int32} {n F c s : Nat} {r : Nat → Int32} {a : Nat × (Nat → Int32)} (h : itT t n s r = .inr a) (h1 : a.1 < n) (h2 : ¬ t a.1 = 59) : txT t n (F + 1) c s r = .inl a.1 := by
  show bdT (itT t n s r) _ = _
  rw [h, bd_r, if_pos h1, if_neg h2]
theorem tx_e {t : Nat → Int32} {n F c s : Nat} {r : Nat → Int32} {a : Nat × (Nat → Int32)} (h : itT t n s r = .inr a) (h1 : ¬ a.1 < n) : txT t n (F + 1) c s r = .inr (c, a.2) := by
  show bdT (itT t n s r) _ = _
  rw [h, bd_r, if_neg h1]
/-- what the text leaves of the system -/
def N_text (σ : Sg) (n : Nat) : Sg := us (us σ 60 (upd (σ 60) 9 0)) 0 (match S_text (σ 63) n (σ 0) with
  | .inl _ => σ 0
  | .inr a => a.2)

theorem c_X2_readAll {l : Launch} {E : En} {σ : Sg} {n : Nat} (hn : n ≤ 120) : MN l yX2_readAll cX2_readAll 3 (some .int) rnX2_readAll E [.ref (ad E 64), .int (nI n)] (σ) (HR σ (S_text (σ 63) n (σ 2))) := by
  refine MN_of (by decide +kernel) rfl fun x C hE hT hcan => ?_
  have C : CX x cX2_readAll RX2 rnX2_readAll := C
  refine V_L (L' := [some (.ref (ad E 64)), some (.int (nI n)), none]) rfl ?_
  obtain ⟨f, hf0⟩ : ∃ f : Nat → Int32, f = upd (σ 64) 2 (nI n) := ⟨_, rfl⟩
  have h2 : f 2 = nI n := by rw [hf0, upd_s]
  have lp : ∀ (F cnt e : Nat) (b c w : Int32) (r : Nat → Int32), n < F + e → e ≤ n → 1 ≤ cnt → 2 * (cnt - 1) ≤ e → S_text (σ 63) n (σ 2) = txT (σ 63) n F cnt (skT (σ 63) n e) r → V x (eA E) (AP x E (T0 σ f e b c w r)) 0 0 12 [some (.ref (ad E 64)), some (.int (nI n)), some (.int (nI cnt))] [] := by
    intro F
    induction F with
    | zero => intro cnt e b c w r hF he; omega
    | succ F ih =>
      intro cnt e b c w r hF he hc hce hS
      refine V_iload_n C dX2_readAll_12 rfl ?_
      refine V_bipush C 120 dX2_readAll_13 (by decide) ?_
      refine V_icmp_gt C dX2_readAll_15 (fun c15 => absurd c15 (nI_nlt (a := 120) (b := cnt) (by omega) (by omega))) (fun c15 => ?_)
      refine V_aload_n C dX2_readAll_18 rfl ?_
      refine V_cv0 C hE dX2_readAll_19 (c_nextT h2 he hn) kyX2_next q671 (isoO 64 rfl rfl rfl rfl) rfl rfl rfl ?_
      refine V_aload_n C dX2_readAll_22 rfl ?_
      refine V_cn C hE dX2_readAll_23 (c_readItem h2 (skT_le he) hn) kyX2_readItem q688 (isoO 64 rfl rfl rfl rfl) rfl rfl rfl ?_
      rintro q u ⟨rfl, g', rfl, hg⟩
      rcases hI : itT (σ 63) n (skT (σ 63) n e) r with p | a
      · refine V_if_ne C dX2_readAll_26 (fun c26 => absurd (rfl) c26) (fun c26 => ?_)
        refine V_iconst C (-1) dX2_readAll_29 (by decide) ?_
        refine V_aload_n C dX2_readAll_30 rfl ?_
        refine V_get C dX2_readAll_31 (rdO (j := 4) 64 rfl rfl rfl rfl rfl) in_X2 (by decide) q196 rfl ?_
        refine V_isub C dX2_readAll_34 ?_
        exact V_iretN C dX2_readAll_35 hT (HR_f (by rw [hS, tx_f hI]) (by rw [TQ_64]; rfl))
      · have hg := hg _ hI
        subst hg
        have hgt := it_gt (skT_le he) hI
        have hske : e ≤ skT (σ 63) n e := skT_ge
        refine V_if_ne C dX2_readAll_26 (fun c26 => ?_) (fun c26 => absurd c26 (show ¬ (1 : Int32) = 0 by decide))
        refine V_aload_n C dX2_readAll_36 rfl ?_
        refine V_get C dX2_readAll_37 (rdO (j := 5) 64 rfl rfl rfl rfl rfl) in_X2 (by decide) q197 rfl ?_
        rw [TQ_64, show RF f (σ 63) n (plT (Sum.inr a)) 5 = tkT (σ 63) n a.1 from rfl]
        refine V_if_ne C dX2_readAll_40 (fun c40 => ?_) (fun c40 => ?_)
        · refine V_aload_n C dX2_readAll_45 rfl ?_
          refine V_get C dX2_readAll_46 (rdO (j := 5) 64 rfl rfl rfl rfl rfl) in_X2 (by decide) q197 rfl ?_
          refine V_iconst C 3 dX2_readAll_49 (by decide) ?_
          rw [TQ_64, show RF f (σ 63) n (plT (Sum.inr a)) 5 = tkT (σ 63) n a.1 from rfl]
          refine V_icmp_eq C dX2_readAll_50 (fun c50 => ?_) (fun c50 => ?_)
          · refine V_iinc C 1 dX2_readAll_60 rfl (by decide) rfl ?_
            refine V_goto C dX2_readAll_63 ?_
            have h3 := tk_3.mp c50
            have h4 := enT_gt (t := σ 63) h3.1
            exact V_nx rfl (by simp [← nI_1] <;> rfl) (ih (cnt + 1) (enT (σ 63) n a.1) (nI a.1) (tkT (σ 63) n a.1) (cvT (σ 63) n a.1) a.2 (by omega) (enT_le (by omega)) (by omega) (by omega) (by rw [hS, tx_s hI h3.1 h3.2]; rfl))
          · refine V_iconst C (-1) dX2_readAll_53 (by decide) ?_
            refine V_aload_n C dX2_readAll_54 rfl ?_
            refine V_get C dX2_readAll_55 (rdO (j := 4) 64 rfl rfl rfl rfl rfl) in_X2 (by decide) q196 rfl ?_
            refine V_isub C dX2_readAll_58 ?_
            exact V_iretN C dX2_readAll_59 hT (HR_f (by rw [hS, tx_x hI (Nat.lt_of_not_le fun q => c40 (tk_0.mpr (by omega))) (fun q => c50 (tk_3.mpr ⟨Nat.lt_of_not_le fun z => c40 (tk_0.mpr (by omega)), q⟩))]) (by rw [TQ_64]; rfl))
        · refine V_iload_n C dX2_readAll_43 rfl ?_
          exact V_iretN C dX2_readAll_44 hT (HR_t (by rw [hS, tx_e hI (tk_0.mp c40)]))
  refine V_aload_n C dX2_readAll_0 rfl ?_
  refine V_iload_n C dX2_readAll_1 rfl ?_
  refine V_put C dX2_readAll_2 (wrO (j := 2) 64 rfl rfl rfl rfl rfl rfl) ft_X2 (by decide) q194 rfl rfl rfl rfl ?_
  try simp only [us_us, us_s]
  refine V_aload_n C dX2_readAll_5 rfl ?_
  refine V_iconst C 0 dX2_readAll_6 (by decide) ?_
  refine V_put C dX2_readAll_7 (wrO (j := 3) 64 rfl rfl rfl rfl rfl rfl) ft_X2 (by decide) q195 rfl rfl rfl rfl ?_
  try simp only [us_us, us_s]
  refine V_iconst C 1 dX2_readAll_10 (by decide) ?_
  refine V_istore_n C dX2_readAll_11 rfl ?_
  exact V_nx (by show _ = us (us σ 64 (WF f (nI 0) (f 4) (f 5) (f 6))) 2 (σ 2); rw [show WF f (nI 0) (f 4) (f 5) (f 6) = upd f 3 0 from by rw [← WF_3 (a := f 3), WF_id]; rfl, hf0, show (σ 2) = us σ 64 (upd (upd (σ 64) 2 (nI n)) 3 0) 2 from (us_n (by omega)).symm, us_id]) rfl (lp 121 1 0 (f 4) (f 5) (f 6) (σ 2) (by omega) (by omega) (by omega) (by omega) rfl)

theorem tx_eqF {σ : Sg} {n : Nat} {a b d e : Nat → Int32} {p : Nat} (hS : S_text (σ 63) n (σ 0) = .inl p) : EqX (N_text σ n) (us (us (us (us (us σ 2 a) 7 b) 60 (upd (σ 60) 9 0)) 64 d) 2 e) := fun c hc => by
  have hc' : ¬ ((2 ≤ c ∧ c ≤ 9) ∨ c = 64) := hc
  unfold N_text
  rw [hS]
  by_cases e1 : c = 60
  · subst e1; simp (disch := omega) only [us_n, us_s]
  · by_cases e2 : c = 0
    · subst e2; simp (disch := omega) only [us_n, us_s]
    · simp (disch := omega) only [us_n]
theorem tx_eqT {σ : Sg} {n : Nat} {a b c d e q : Nat → Int32} {z : Nat × (Nat → Int32)} (hS : S_text (σ 63) n (σ 0) = .inr z) (he : q = z.2) : EqX (N_text σ n) (us (us (us (us (us (us (us σ 2 a) 7 b) 60 (upd (σ 60) 9 0)) 64 d) 2 e) 0 q) 5 c) := fun c hc => by
  have hc' : ¬ ((2 ≤ c ∧ c ≤ 9) ∨ c = 64) := hc
  unfold N_text
  rw [hS, he]
  by_cases e1 : c = 60
  · subst e1; simp (disch := omega) only [us_n, us_s]
  · by_cases e2 : c = 0
    · subst e2; simp (disch := omega) only [us_n, us_s]
    · simp (disch := omega) only [us_n]

theorem c_X8_text {l : Launch} {E : En} {σ : Sg} {n : Nat} (hnl : σ 60 9 = nI n) (hn : n ≤ 120) : MN l yX8_text cX8_text 2 (some .int) rnX8_text E [.ref (ad E 60)] σ (PZ σ (.inr (rtT (S_text (σ 63) n (σ 0)))) (N_text σ n)) := by
  refine MN_of (by decide +kernel) rfl fun x C hE hT hcan => ?_
  have C : CX x cX8_text RX8 rnX8_text := C
  refine V_L (L' := [some (.ref (ad E 60)), none]) rfl ?_
  refine V_aload_n C dX8_text_0 rfl ?_
  refine V_get C dX8_text_1 (rdX8_first) in_X8 (by decide) q234 rfl ?_
  refine V_aload_n C dX8_text_4 rfl ?_
  refine V_get C dX8_text_5 (rdX8_live) in_X8 (by decide) q232 rfl ?_
  refine V_cv0 C hE dX8_text_8 (c_X5_be (v := 2) (w := 0) (by omega) (by omega) (by omega)) kyX5_be q447 (isoV (by first | assumption | omega)) rfl rfl rfl ?_
  refine V_aload_n C dX8_text_11 rfl ?_
  refine V_get C dX8_text_12 (rdO (j := 8) 60 rfl rfl rfl rfl rfl) in_X8 (by decide) q240 rfl ?_
  refine V_aload_n C dX8_text_15 rfl ?_
  refine V_cq C hE dX8_text_16 (c_X8_wipe) kyX8_wipe q666 (isoO 60 rfl rfl rfl rfl) rfl rfl rfl ?_
  rintro u rfl
  rw [show us (us σ 2 (σ 0)) (5 + 2) (lw (σ (5 + 2)) (σ (5 + 0) 0) (σ (5 + 0) 1)) 60 = σ 60 from by simp (disch := omega) only [us_n]]
  rw [hnl]
  refine V_cn C hE dX8_text_19 (c_X2_readAll hn) kyX2_readAll q667 (isoO 64 rfl rfl rfl rfl) rfl rfl rfl ?_
  rintro q u ⟨rfl, h, g, rfl, hg⟩
  rw [show S_text _ n _ = S_text (σ 63) n (σ 0) from by simp (disch := omega) only [us_n, us_s]] at hg ⊢
  refine V_istore_n C dX8_text_22 rfl ?_
  rcases hS : S_text (σ 63) n (σ 0) with p | a
  · have hple := tx_le _ _ _ _ _ (skT_le (Nat.zero_le _)) hS
    refine V_iload_n C dX8_text_23 rfl ?_
    refine V_if_le C dX8_text_24 (fun c24 => ?_) (fun c24 => absurd (m1_le p (by omega)) c24)
    refine V_iload_n C dX8_text_38 rfl ?_
    exact V_iretN C dX8_text_39 hT (PZ_ok (by rw [hS]) rfl (tx_eqF hS))
  · have hg := hg _ hS
    have hc1 := tx_c _ _ _ _ _ hS
    refine V_iload_n C dX8_text_23 rfl ?_
    refine V_if_le C dX8_text_24 (fun c24 => absurd c24 (nI_nle (by omega) (by omega))) (fun c24 => ?_)
    refine V_aload_n C dX8_text_27 rfl ?_
    refine V_get C dX8_text_28 (rdX8_live) in_X8 (by decide) q232 rfl ?_
    refine V_aload_n C dX8_text_31 rfl ?_
    refine V_get C dX8_text_32 (rdX8_first) in_X8 (by decide) q234 rfl ?_
    refine V_cv0 C hE dX8_text_35 (c_X5_be (v := 0) (w := 2) (by omega) (by omega) (by omega)) kyX5_be q447 (isoV (by first | assumption | omega)) rfl rfl rfl ?_
    refine V_iload_n C dX8_text_38 rfl ?_
    exact V_iretN C dX8_text_39 hT (PZ_ok (by rw [hS]) rfl (tx_eqT hS (by rw [us_s]; exact hg)))

