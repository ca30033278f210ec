/-- the least as the reference keeps it: nothing before the first -/
def aminP (g : Nat → Int32) : Nat → Int32 × Int32
  | 0 => (-1, 0)
  | i + 1 => amin g (i + 1)
theorem amin_0 {g : Nat → Int32} (h : ∀ i, 0 ≤ g i) : ∀ i, 0 ≤ (amin g (i+1)).2 ∧ ∃ k, k ≤ i ∧ (amin g (i+1)).1 = nI k := by
  intro i
  induction i with
  | zero =>
    have e : amin g 1 = (nI 0, g 0) := amin_s (Or.inl (show (-1:Int32) < 0 by decide))
    rw [e]; exact ⟨h 0, 0, by omega, rfl⟩
  | succ i ih =>
    by_cases c : (amin g (i+1)).2 < 0 ∨ g (i+1) < (amin g (i+1)).2
    · rw [amin_s c]; exact ⟨h _, i+1, by omega, rfl⟩
    · have e : amin g (i+2) = amin g (i+1) := if_neg c
      rw [e]; exact ⟨ih.1, ih.2.elim fun k hk => ⟨k, by omega, hk.2⟩⟩
theorem aminP_n {g : Nat → Int32} (h : ∀ i, 0 ≤ g i) {i : Nat} (hi : i ≤ 8) (c : (aminP g i).1 < 0) : i = 0 := by
  cases i with
  | zero => rfl
  | succ i =>
    obtain ⟨k, hk, e⟩ := (amin_0 h i).2
    exact absurd (show nI k < 0 by rw [← e]; exact c) (nI_pos (by omega))
theorem aminP_s {g : Nat → Int32} (h : ∀ i, 0 ≤ g i) {i : Nat} (hi : i ≤ 8) (c : (aminP g i).1 < 0 ∨ g i < (aminP g i).2) : amin g (i+1) = (nI i, g i) := by
  rcases c with c | c
  · have e := aminP_n h hi c; subst e; exact amin_s (Or.inl (show (-1:Int32) < 0 by decide))
  · cases i with
    | zero => exact absurd c (Int32.not_lt.mpr (h 0))
    | succ i => exact amin_s (Or.inr c)
theorem aminP_k {g : Nat → Int32} {i : Nat} (c : ¬ (aminP g i).1 < 0) (c2 : (aminP g i).2 ≤ g i) (h : ∀ i, 0 ≤ g i) : amin g (i+1) = aminP g i := by
  cases i with
  | zero => exact absurd (show (-1:Int32) < 0 by decide) c
  | succ i => exact amin_k (Int32.not_lt.mpr (amin_0 h i).1) c2
theorem swN_0 {f : Nat → Int32} (h : Way f) {i : Nat} (hi : i ≤ 7) : ∀ n, n ≤ 8 → ∃ m, swN f i n = nI m ∧ m ≤ 70 * n := by
  intro n
  induction n with
  | zero => intro _; exact ⟨0, rfl, by omega⟩
  | succ n ih =>
    intro hn
    obtain ⟨m, e, hm⟩ := ih (by omega)
    obtain ⟨w, e2, hw⟩ := wayF_b h hi (show n ≤ 7 by omega)
    exact ⟨m + w, by show swN f i n + wayF f i n = _; rw [e, e2, nI_add], by omega⟩

theorem amin_ext {g g' : Nat → Int32} : ∀ n, (∀ i, i < n → g i = g' i) → amin g n = amin g' n := by
  intro n
  induction n with
  | zero => intro _; rfl
  | succ n ih =>
    intro h
    unfold amin
    rw [ih (fun i hi => h i (by omega)), h n (by omega)]

theorem c_X9_middle {l : Launch} {E : En} {σ : Sg}   (hG : GV (σ 74)) : MN l yX9_middle cX9_middle 6 (some .int) rmX9_middle E [.ref (ad E 73)] σ (PQ σ (S_middle (σ 74)) (σ)) := by
  refine MN_of (by decide +kernel) rfl fun x C hE hT hcan => ?_
  have C : CX x cX9_middle RX9 rmX9_middle := C
  have h8 : nh (σ 74) ≤ 8 := (hcan.2.1 74 (by omega) (by omega)).2.1
  have hn1 : σ 74 1 = nI (nh (σ 74)) := (hcan.2.1 74 (by omega) (by omega)).1
  refine V_L (L' := [some (.ref (ad E 73)), none, none, none, none, none]) rfl ?_
  refine V_iconst C (-1) dX9_middle_0 (by decide) ?_
  refine V_istore_n C dX9_middle_1 rfl ?_
  refine V_iconst C 0 dX9_middle_2 (by decide) ?_
  refine V_istore_n C dX9_middle_3 rfl ?_
  refine V_iconst C 0 dX9_middle_4 (by decide) ?_
  refine V_istore_n C dX9_middle_5 rfl ?_
  obtain ⟨gm, hgm0⟩ : ∃ g : Nat → Int32, g = fun i => if i < nh (σ 74) then swN (σ 74) i (nh (σ 74)) else 0 := ⟨_, rfl⟩
  have hgm : ∀ i, i < nh (σ 74) → gm i = swN (σ 74) i (nh (σ 74)) := fun i hi => by rw [hgm0]; exact if_pos hi
  have hg0 : ∀ i, 0 ≤ gm i := fun i => by
    by_cases c : i < nh (σ 74)
    · rw [hgm i c]; obtain ⟨m, e, hm⟩ := swN_0 hG.2.1 (i := i) (by omega) (nh (σ 74)) h8; rw [e]; exact nI_pos' (by omega)
    · rw [hgm0]; simp [c]
  have amin_gm : amin (fun i => swN (σ 74) i (nh (σ 74))) (nh (σ 74)) = amin gm (nh (σ 74)) := amin_ext _ (fun i hi => (hgm i hi).symm)
  have lp : ∀ (d i : Nat) , i + d = nh (σ 74) → V x (eA E) (AP x E (σ)) 0 0 6 [some (.ref (ad E 73)), some (.int (aminP gm i).1), some (.int (aminP gm i).2), some (.int (nI i)), none, none] [] := by
    intro d
    induction d with
    | zero =>
      intro i  hi' 
      have hN : i = nh (σ 74) := by omega
      refine V_iload_n C dX9_middle_6 rfl ?_
      refine V_aload_n C dX9_middle_7 rfl ?_
      refine V_get C dX9_middle_8 (rdO (j := 0) 73 rfl rfl rfl rfl rfl) in_X9 (by decide) q907 rfl ?_
      refine V_iconst C 1 dX9_middle_11 (by decide) ?_
      refine V_iald C 1 rfl rfl rfl dX9_middle_12 (rdM 74 1 rfl rfl rfl) ?_
      refine V_icmp_ge C dX9_middle_13 (fun c13 => ?_) (fun c13 => absurd (by rw [hn1, hN] <;> exact nI_le (Nat.le_refl _) (by omega)) c13)
      subst hN
      refine V_iload_n C dX9_middle_72 rfl ?_
      refine V_if_ge C dX9_middle_73 (fun c73 => ?_) (fun c73 => ?_)
      · refine V_iload_n C dX9_middle_85 rfl ?_
        exact V_iretN C dX9_middle_86 hT (PQ_rd (by have hz : nh (σ 74) ≠ 0 := (fun z => by (rw [z] at c73; exact absurd c73 (show ¬ (0:Int32) ≤ -1 by decide))); unfold S_middle; rw [if_neg (fun q => hz (by rw [hn1] at q; exact (nI_eq (a := nh (σ 74)) (b := 0) (by omega) (by omega)).mp q))]; rw [amin_gm]; obtain ⟨z, e⟩ : ∃ z, nh (σ 74) = z + 1 := ⟨nh (σ 74) - 1, by omega⟩; rw [e]; rfl) (EqY.rf σ))
      · refine V_aload_n C dX9_middle_76 rfl ?_
        refine V_ldc C dX9_middle_77 q1138 ?_
        refine V_cv C hE dX9_middle_79 (c_X9_finds (j := 3) (by decide +kernel) (by omega)) kyX9_finds q995 (isoO 73 rfl rfl rfl rfl) rfl rfl rfl ?_
        refine V_goto C dX9_middle_82 ?_
        exact V_iretN C dX9_middle_86 hT (PQ_fail (by decide +kernel) (by unfold S_middle; rw [if_pos (show σ 74 1 = 0 by rw [hn1, aminP_n hg0 h8 (Int32.not_le.mp c73)]; rfl)]) (EqY.rf σ))
    | succ d ih =>
      intro i  hi' 
      refine V_iload_n C dX9_middle_6 rfl ?_
      refine V_aload_n C dX9_middle_7 rfl ?_
      refine V_get C dX9_middle_8 (rdO (j := 0) 73 rfl rfl rfl rfl rfl) in_X9 (by decide) q907 rfl ?_
      refine V_iconst C 1 dX9_middle_11 (by decide) ?_
      refine V_iald C 1 rfl rfl rfl dX9_middle_12 (rdM 74 1 rfl rfl rfl) ?_
      refine V_icmp_ge C dX9_middle_13 (fun c13 => absurd c13 (by rw [hn1]; exact nI_ge (by omega) (by omega))) (fun c13 => ?_)
      refine V_iconst C 0 dX9_middle_16 (by decide) ?_
      refine V_istore C dX9_middle_17 rfl ?_
      refine V_iconst C 0 dX9_middle_19 (by decide) ?_
      refine V_istore C dX9_middle_20 rfl ?_
      have lp2 : ∀ (d2 k : Nat) , k + d2 = nh (σ 74) → V x (eA E) (AP x E (σ)) 0 0 22 [some (.ref (ad E 73)), some (.int (aminP gm i).1), some (.int (aminP gm i).2), some (.int (nI i)), some (.int (swN (σ 74) i k)), some (.int (nI k))] [] := by
        intro d2
        induction d2 with
        | zero =>
          intro k hk'
          have hN2 : k = nh (σ 74) := by omega
          refine V_iload C dX9_middle_22 rfl ?_
          refine V_aload_n C dX9_middle_24 rfl ?_
          refine V_get C dX9_middle_25 (rdO (j := 0) 73 rfl rfl rfl rfl rfl) in_X9 (by decide) q907 rfl ?_
          refine V_iconst C 1 dX9_middle_28 (by decide) ?_
          refine V_iald C 1 rfl rfl rfl dX9_middle_29 (rdM 74 1 rfl rfl rfl) ?_
          refine V_icmp_ge C dX9_middle_30 (fun c30 => ?_) (fun c30 => absurd (by rw [hn1, hN2] <;> exact nI_le (Nat.le_refl _) (by omega)) c30)
          rw [hN2]
          refine V_forget 5 ?_
          refine V_iload_n C dX9_middle_51 rfl ?_
          refine V_if_lt C dX9_middle_52 (fun c52 => ?_) (fun c52 => ?_)
          · refine V_iload_n C dX9_middle_61 rfl ?_
            refine V_istore_n C dX9_middle_62 rfl ?_
            refine V_iload C dX9_middle_63 rfl ?_
            refine V_istore_n C dX9_middle_65 rfl ?_
            refine V_forget 4 ?_
            refine V_iinc C 1 dX9_middle_66 rfl (by decide) rfl ?_
            refine V_goto C dX9_middle_69 ?_
            exact V_nx rfl (by simp only [List.set, nI_1]; first | (rw [show aminP gm (i+1) = (nI i, gm i) from aminP_s hg0 (by omega) (Or.inl c52), hgm i (by omega)] <;> rfl) | (rw [show aminP gm (i+1) = aminP gm i from aminP_k c52 (by rw [hgm i (by omega)]; exact c58) hg0] <;> rfl) | (rw [show aminP gm (i+1) = (nI i, gm i) from aminP_s hg0 (by omega) (Or.inr (by rw [hgm i (by omega)]; exact Int32.not_le.mp c58)), hgm i (by omega)] <;> rfl)) (ih (i + 1) (by omega))
          · refine V_iload C dX9_middle_55 rfl ?_
            refine V_iload_n C dX9_middle_57 rfl ?_
            refine V_icmp_ge C dX9_middle_58 (fun c58 => ?_) (fun c58 => ?_)
            · refine V_forget 4 ?_
              refine V_iinc C 1 dX9_middle_66 rfl (by decide) rfl ?_
              refine V_goto C dX9_middle_69 ?_
              exact V_nx rfl (by simp only [List.set, nI_1]; first | (rw [show aminP gm (i+1) = (nI i, gm i) from aminP_s hg0 (by omega) (Or.inl c52), hgm i (by omega)] <;> rfl) | (rw [show aminP gm (i+1) = aminP gm i from aminP_k c52 (by rw [hgm i (by omega)]; exact c58) hg0] <;> rfl) | (rw [show aminP gm (i+1) = (nI i, gm i) from aminP_s hg0 (by omega) (Or.inr (by rw [hgm i (by omega)]; exact Int32.not_le.mp c58)), hgm i (by omega)] <;> rfl)) (ih (i + 1) (by omega))
            · refine V_iload_n C dX9_middle_61 rfl ?_
              refine V_istore_n C dX9_middle_62 rfl ?_
              refine V_iload C dX9_middle_63 rfl ?_
              refine V_istore_n C dX9_middle_65 rfl ?_
              refine V_forget 4 ?_
              refine V_iinc C 1 dX9_middle_66 rfl (by decide) rfl ?_
              refine V_goto C dX9_middle_69 ?_
              exact V_nx rfl (by simp only [List.set, nI_1]; first | (rw [show aminP gm (i+1) = (nI i, gm i) from aminP_s hg0 (by omega) (Or.inl c52), hgm i (by omega)] <;> rfl) | (rw [show aminP gm (i+1) = aminP gm i from aminP_k c52 (by rw [hgm i (by omega)]; exact c58) hg0] <;> rfl) | (rw [show aminP gm (i+1) = (nI i, gm i) from aminP_s hg0 (by omega) (Or.inr (by rw [hgm i (by omega)]; exact Int32.not_le.mp c58)), hgm i (by omega)] <;> rfl)) (ih (i + 1) (by omega))
        | succ d2 ih2 =>
          intro k hk'
          refine V_iload C dX9_middle_22 rfl ?_
          refine V_aload_n C dX9_middle_24 rfl ?_
          refine V_get C dX9_middle_25 (rdO (j := 0) 73 rfl rfl rfl rfl rfl) in_X9 (by decide) q907 rfl ?_
          refine V_iconst C 1 dX9_middle_28 (by decide) ?_
          refine V_iald C 1 rfl rfl rfl dX9_middle_29 (rdM 74 1 rfl rfl rfl) ?_
          refine V_icmp_ge C dX9_middle_30 (fun c30 => absurd c30 (by rw [hn1]; exact nI_ge (by omega) (by omega))) (fun c30 => ?_)
          refine V_iload C dX9_middle_33 rfl ?_
          refine V_aload_n C dX9_middle_35 rfl ?_
          refine V_iload_n C dX9_middle_36 rfl ?_
          refine V_iload C dX9_middle_37 rfl ?_
          refine V_cv C hE dX9_middle_39 (c_X9_wayOf (a := i) (b := k) (by omega) (by omega)) kyX9_wayOf q1061 (isoO 73 rfl rfl rfl rfl) rfl rfl rfl ?_
          refine V_iadd C dX9_middle_42 ?_
          refine V_istore C dX9_middle_43 rfl ?_
          refine V_iinc C 1 dX9_middle_45 rfl (by decide) rfl ?_
          refine V_goto C dX9_middle_48 ?_
          exact V_nx rfl (by simp [swN, ← nI_1] <;> rfl) (ih2 (k + 1) (by omega))
      exact lp2 (nh (σ 74)) 0 (by omega)
  exact lp (nh (σ 74)) 0 (by omega)

def bt (x : Int32) (i : Nat) : Bool := x.toBitVec.getLsbD i
theorem b_ext {x y : Int32} (h : ∀ i, i < 32 → bt x i = bt y i) : x = y := Int32.toBitVec_inj.mp (BitVec.eq_of_getLsbD_eq (fun i hi => h i hi))
theorem b_and (x y : Int32) (i : Nat) : bt (x &&& y) i = (bt x i && bt y i) := by unfold bt; rw [Int32.toBitVec_and, BitVec.getLsbD_and]
theorem b_big {x : Int32} {i : Nat} (h : 32 ≤ i) : bt x i = false := BitVec.getLsbD_of_ge _ _ h
theorem b_255 (i : Nat) : bt 255 i = decide (i < 8) := by
  rcases Nat.lt_or_ge i 32 with h | h
  · exact (by decide +kernel : ∀ i, i < 32 → bt 255 i = decide (i < 8)) i h
  · rw [b_big h, decide_eq_false (by omega)]
theorem s_l : ∀ n, n < 32 → ((nI n &&& 31).toBitVec.smod 32).toNat = n := by decide +kernel
theorem s_u : ∀ n, n < 32 → (((nI n).toUInt32 &&& Int32.toUInt32 31).toBitVec % 32).toNat = n := by decide +kernel
theorem b_ushr (n : Nat) (hn : n < 32) (x : Int32) (i : Nat) : bt ((x.toUInt32 >>> ((nI n).toUInt32 &&& Int32.toUInt32 31)).toInt32) i = bt x (n + i) := by
  show (x.toUInt32 >>> ((nI n).toUInt32 &&& Int32.toUInt32 31)).toBitVec.getLsbD i = x.toUInt32.toBitVec.getLsbD (n + i)
  rw [UInt32.toBitVec_shiftRight]
  show (x.toUInt32.toBitVec >>> (((nI n).toUInt32 &&& Int32.toUInt32 31).toBitVec % 32).toNat).getLsbD i = _
  rw [s_u n hn, BitVec.getLsbD_ushiftRight]
theorem b_sshr (n : Nat) (hn : n < 32) (x : Int32) {i : Nat} (hi : i < 32) : bt (x >>> (nI n &&& 31)) i = if n + i < 32 then bt x (n + i) else bt x 31 := by
  unfold bt
  rw [Int32.toBitVec_shiftRight]
  show (x.toBitVec.sshiftRight ((nI n &&& 31).toBitVec.smod 32).toNat).getLsbD i = _
  rw [s_l n hn, BitVec.getLsbD_sshiftRight, BitVec.msb_eq_getLsbD_last]
  simp [hi]

/-- the byte k of a number fed in w bytes -/
def fdB (x : Int32) (w k : Nat) : Int32 := iush x (8 * nI (w - 1 - k)) &&& 255
def fdT (f : Nat → Int32) (x : Int32) (n w : Nat) : Nat → Nat → Int32
  | 0 => f
  | k + 1 => upd (fdT f x n w k) (n + k) (fdB x w k)
def S_feed (t w : Int32) : Rs := if inP w 1 4 then (if t + w ≤ 120 then .inr (t + w) else .inl 1) else .inl 0
theorem feed_n {t w : Int32} {n : Nat} (hn : n ≤ 120) (hnl : t = nI n) (h : inP w 1 4) (h2 : t + w ≤ 120) : ∃ k, w = nI k ∧ k ≤ 4 ∧ 1 ≤ k ∧ n + k ≤ 120 := by
  obtain ⟨k, rfl, hk⟩ := i32_le (m := 4) (by omega) (Int32.le_trans (by decide) h.1) h.2
  have h1 := (nI_leI (a := 1) (b := k) (by omega) (by omega)).mp h.1
  rw [hnl, nI_add] at h2
  exact ⟨k, rfl, hk, h1, (nI_leI (a := n + k) (b := 120) (by omega) (by omega)).mp h2⟩
theorem sh_b (x : Int32) {k : Nat} (hk : k < 4) : (x >>> ((8 * nI k) &&& 31)) &&& 255 = iush x (8 * nI k) &&& 255 := by
  rw [show (8 : Int32) * nI k = nI (8 * k) from nI_mul 8 k]
  apply b_ext
  intro i hi
  rw [b_and, b_and, b_255, b_sshr (8 * k) (by omega) x hi, show bt (iush x (nI (8 * k))) i = bt x (8 * k + i) from b_ushr (8 * k) (by omega) x i]
  by_cases h : i < 8
  · rw [if_pos (by omega)]
  · rw [decide_eq_false h, Bool.and_false, Bool.and_false]

def fdS (σ : Sg) (x : Int32) (n w k : Nat) : Sg := us (us σ 63 (fdT (σ 63) x n w k)) 60 (upd (σ 60) 9 (nI (n + k)))
def fdM (σ : Sg) (x : Int32) (n w k : Nat) : Sg := us (us σ 80 (fdT (σ 80) x n w k)) 73 (upd (σ 73) 17 (nI (n + k)))
theorem fd_0 {σ : Sg} {x : Int32} {n w c d j : Nat} (h : σ d j = nI n) : us (us σ c (fdT (σ c) x n w 0)) d (upd (σ d) j (nI (n + 0))) = σ := by
  show us (us σ c (σ c)) d (upd (σ d) j (nI n)) = σ
  rw [us_id, ← h, upd_id, us_id]
theorem fd_s {σ : Sg} {x : Int32} {n w k c d j : Nat} {v : Int32} (hcd : c ≠ d) (hv : v = nI (n + k) + 1) : us (us (us (us σ c (fdT (σ c) x n w k)) d (upd (σ d) j (nI (n + k)))) c (upd (us (us σ c (fdT (σ c) x n w k)) d (upd (σ d) j (nI (n + k))) c) (n + k) (fdB x w k))) d (upd (us (us (us σ c (fdT (σ c) x n w k)) d (upd (σ d) j (nI (n + k)))) c (upd (us (us σ c (fdT (σ c) x n w k)) d (upd (σ d) j (nI (n + k))) c) (n + k) (fdB x w k)) d) j v) = us (us σ c (fdT (σ c) x n w (k+1))) d (upd (σ d) j (nI (n + (k + 1)))) := by
  subst hv
  rw [us_n hcd, us_s, us_n hcd.symm, us_s, upd_upd]
  funext e
  by_cases h : e = d
  · subst h; rw [us_s, us_s, nI_1]; rfl
  · rw [us_n h, us_n h]
    by_cases h2 : e = c
    · subst h2; rw [us_s, us_s]; rfl
    · rw [us_n h2, us_n h2, us_n h, us_n h2]
theorem feed_i {w i : Nat} (h : i < w) : nI (w - i) - 1 = nI (w - 1 - i) := by rw [nI_m1 (by omega)]; congr 1; omega

def N_feedM (σ : Sg) (x w : Int32) : Sg := fdM σ x (hk (σ 73 17)) (hk w) (hk w)
def N_feed (σ : Sg) (x w : Int32) : Sg := fdS σ x (hk (σ 60 9)) (hk w) (hk w)

theorem c_X9_feed {l : Launch} {E : En} {σ : Sg} {p0 p1 : Int32}  (hln : ∃ n, n ≤ 120 ∧ σ 73 17 = nI n) : MN l yX9_feed cX9_feed 4 (some .int) rmX9_feed E [.ref (ad E 73), .int p0, .int p1] σ (PQ σ (S_feed (σ 73 17) p1) (N_feedM σ p0 p1)) := by
  refine MN_of (by decide +kernel) rfl fun x C hE hT hcan => ?_
  have C : CX x cX9_feed RX9 rmX9_feed := C
  refine V_L (L' := [some (.ref (ad E 73)), some (.int p0), some (.int p1), none]) rfl ?_
  refine V_iload_n C dX9_feed_0 rfl ?_
  refine V_i2l C dX9_feed_1 ?_
  refine V_lconst C 1 dX9_feed_2 (by decide) ?_
  refine V_ldc2 C dX9_feed_3 q1290 ?_
  refine V_cs C hE dX9_feed_6 (c_X9_in (a := p1) (lo := 1) (hi := 4) (by decide +kernel) (by decide +kernel)) kyX9_in q991 rfl rfl rfl ?_
  refine V_ifne_b C dX9_feed_9 (fun c9 => ?_) (fun c9 => ?_)
  · refine V_aload_n C dX9_feed_19 rfl ?_
    refine V_get C dX9_feed_20 (rdO (j := 17) 73 rfl rfl rfl rfl rfl) in_X9 (by decide) q924 rfl ?_
    refine V_iload_n C dX9_feed_23 rfl ?_
    refine V_iadd C dX9_feed_24 ?_
    refine V_bipush C 120 dX9_feed_25 (by decide) ?_
    refine V_icmp_le C dX9_feed_27 (fun c27 => ?_) (fun c27 => ?_)
    · obtain ⟨n, hn, hnl⟩ := hln
      obtain ⟨w, rfl, hw, hw1, hnw⟩ := feed_n hn hnl c9 c27
      refine V_iload_n C dX9_feed_37 rfl ?_
      refine V_iconst C 1 dX9_feed_38 (by decide) ?_
      refine V_isub C dX9_feed_39 ?_
      refine V_istore_n C dX9_feed_40 rfl ?_
      have lp : ∀ (d i : Nat) , i + d = w → V x (eA E) (AP x E (fdM σ p0 n w i)) 0 0 41 [some (.ref (ad E 73)), some (.int p0), some (.int (nI w)), some (.int (nI (w - i) - 1))] [] := by
        intro d
        induction d with
        | zero =>
          intro i  hi' 
          have hN : i = w := by omega
          refine V_iload_n C dX9_feed_41 rfl ?_
          refine V_if_lt C dX9_feed_42 (fun c42 => ?_) (fun c42 => absurd (by rw [hN, Nat.sub_self]; decide) c42)
          refine V_aload_n C dX9_feed_80 rfl ?_
          refine V_get C dX9_feed_81 (rdO (j := 17) 73 rfl rfl rfl rfl rfl) in_X9 (by decide) q924 rfl ?_
          rw [(show fdM σ p0 n w i 73 17 = nI (n + i) from by unfold fdM; rw [us_s, upd_s])]
          exact V_iretN C dX9_feed_84 hT (PQ_ok (by unfold S_feed; rw [if_pos c9, if_pos c27, hnl, nI_add, hN]) rfl (by unfold N_feedM; rw [hnl, hk_n (show n < 2 ^ 31 by omega), hk_n (show w < 2 ^ 31 by omega), hN]; exact EqY.rf _))
        | succ d ih =>
          intro i  hi' 
          refine V_iload_n C dX9_feed_41 rfl ?_
          refine V_if_lt C dX9_feed_42 (fun c42 => absurd c42 (Int32.not_lt.mpr (by rw [feed_i (by omega)]; exact nI_pos' (by omega)))) (fun c42 => ?_)
          refine V_aload_n C dX9_feed_45 rfl ?_
          refine V_get C dX9_feed_46 (rdO (j := 16) 73 rfl rfl rfl rfl rfl) in_X9 (by decide) q923 rfl ?_
          refine V_aload_n C dX9_feed_49 rfl ?_
          refine V_get C dX9_feed_50 (rdO (j := 17) 73 rfl rfl rfl rfl rfl) in_X9 (by decide) q924 rfl ?_
          rw [(show fdM σ p0 n w i 73 17 = nI (n + i) from by unfold fdM; rw [us_s, upd_s])]
          refine V_iload_n C dX9_feed_53 rfl ?_
          refine V_bipush C 8 dX9_feed_54 (by decide) ?_
          refine V_iload_n C dX9_feed_56 rfl ?_
          refine V_imul C dX9_feed_57 ?_
          refine V_ishr C dX9_feed_58 ?_
          refine V_sipush C 255 dX9_feed_59 (by decide) ?_
          refine V_iand C dX9_feed_62 ?_
          refine V_st (st' := [.int (fdB p0 w i), .int (nI (n + i)), .ref (ad E 80)]) (by unfold fdB; rw [feed_i (show i < w by omega), sh_b p0 (by omega)]) ?_
          refine V_iastN C (n + i) rfl (by omega) (by omega) dX9_feed_63 (wrOA 80 rfl rfl (fun _ => rfl)) ?_
          refine V_aload_n C dX9_feed_64 rfl ?_
          refine V_dup C dX9_feed_65 rfl ?_
          refine V_get C dX9_feed_66 (rdO (j := 17) 73 rfl rfl rfl rfl rfl) in_X9 (by decide) q924 rfl ?_
          refine V_iconst C 1 dX9_feed_69 (by decide) ?_
          refine V_iadd C dX9_feed_70 ?_
          refine V_put C dX9_feed_71 (wrO (j := 17) 73 rfl rfl rfl rfl rfl rfl) ft_X9 (by decide) q924 rfl rfl rfl rfl ?_
          refine V_iinc C (-1) dX9_feed_74 rfl (by decide) rfl ?_
          refine V_goto C dX9_feed_77 ?_
          exact V_nx (fd_s (σ := σ) (c := 80) (d := 73) (j := 17) (by omega) (by rw [us_n (by omega)]; unfold fdM; rw [us_s, upd_s])) (by simp only [List.set]; rw [feed_i (show i < w by omega), show w - 1 - i = w - (i + 1) by omega, Int32.sub_eq_add_neg] <;> rfl) (ih (i + 1) (by omega))
      exact V_nx (fd_0 (c := 80) hnl).symm rfl (lp w 0 (by omega))
    · refine V_aload_n C dX9_feed_30 rfl ?_
      refine V_ldc C dX9_feed_31 q999 ?_
      refine V_cv C hE dX9_feed_33 (c_X9_finds (j := 1) (by decide +kernel) (by omega)) kyX9_finds q995 (isoO 73 rfl rfl rfl rfl) rfl rfl rfl ?_
      exact V_iretN C dX9_feed_36 hT (PQ_fail (by decide +kernel) (by unfold S_feed; all_goals (first | rw [if_pos c9] | rw [if_neg c9]); all_goals (first | rw [if_pos c27] | rw [if_neg c27])) (EqY.rf σ))
  · refine V_aload_n C dX9_feed_12 rfl ?_
    refine V_ldc C dX9_feed_13 q994 ?_
    refine V_cv C hE dX9_feed_15 (c_X9_finds (j := 0) (by decide +kernel) (by omega)) kyX9_finds q995 (isoO 73 rfl rfl rfl rfl) rfl rfl rfl ?_
    exact V_iretN C dX9_feed_18 hT (PQ_fail (by decide +kernel) (by unfold S_feed; all_goals (first | rw [if_pos c9] | rw [if_neg c9])) (EqY.rf σ))

theorem c_X8_feed {l : Launch} {E : En} {σ : Sg} {p0 p1 : Int32}  (hln : ∃ n, n ≤ 120 ∧ σ 60 9 = nI n) : MN l yX8_feed cX8_feed 4 (some .int) rmX8_feed E [.ref (ad E 60), .int p0, .int p1] σ (PZ σ (S_feed (σ 60 9) p1) (N_feed σ p0 p1)) := by
  refine MN_of (by decide +kernel) rfl fun x C hE hT hcan => ?_
  have C : CX x cX8_feed RX8 rmX8_feed := C
  refine V_L (L' := [some (.ref (ad E 60)), some (.int p0), some (.int p1), none]) rfl ?_
  refine V_iload_n C dX8_feed_0 rfl ?_
  refine V_iconst C 1 dX8_feed_1 (by decide) ?_
  refine V_iconst C 4 dX8_feed_2 (by decide) ?_
  refine V_cs C hE dX8_feed_3 (c_X8_within) kyX8_within q270 rfl rfl rfl ?_
  refine V_ifne_b C dX8_feed_6 (fun c6 => ?_) (fun c6 => ?_)
  · refine V_aload_n C dX8_feed_15 rfl ?_
    refine V_get C dX8_feed_16 (rdO (j := 9) 60 rfl rfl rfl rfl rfl) in_X8 (by decide) q241 rfl ?_
    refine V_iload_n C dX8_feed_19 rfl ?_
    refine V_iadd C dX8_feed_20 ?_
    refine V_bipush C 120 dX8_feed_21 (by decide) ?_
    refine V_icmp_le C dX8_feed_23 (fun c23 => ?_) (fun c23 => ?_)
    · obtain ⟨n, hn, hnl⟩ := hln
      obtain ⟨w, rfl, hw, hw1, hnw⟩ := feed_n hn hnl c6 c23
      refine V_iload_n C dX8_feed_32 rfl ?_
      refine V_iconst C 1 dX8_feed_33 (by decide) ?_
      refine V_isub C dX8_feed_34 ?_
      refine V_istore_n C dX8_feed_35 rfl ?_
      have lp : ∀ (d i : Nat) , i + d = w → V x (eA E) (AP x E (fdS σ p0 n w i)) 0 0 36 [some (.ref (ad E 60)), some (.int p0), some (.int (nI w)), some (.int (nI (w - i) - 1))] [] := by
        intro d
        induction d with
        | zero =>
          intro i  hi' 
          have hN : i = w := by omega
          refine V_iload_n C dX8_feed_36 rfl ?_
          refine V_if_lt C dX8_feed_37 (fun c37 => ?_) (fun c37 => absurd (by rw [hN, Nat.sub_self]; decide) c37)
          refine V_aload_n C dX8_feed_93 rfl ?_
          refine V_get C dX8_feed_94 (rdO (j := 9) 60 rfl rfl rfl rfl rfl) in_X8 (by decide) q241 rfl ?_
          rw [(show fdS σ p0 n w i 60 9 = nI (n + i) from by unfold fdS; rw [us_s, upd_s])]
          exact V_iretN C dX8_feed_97 hT (PZ_ok (by unfold S_feed; rw [if_pos c6, if_pos c23, hnl, nI_add, hN]) rfl (by unfold N_feed; rw [hnl, hk_n (show n < 2 ^ 31 by omega), hk_n (show w < 2 ^ 31 by omega), hN]; exact EqX.rf _))
        | succ d ih =>
          intro i  hi' 
          refine V_iload_n C dX8_feed_36 rfl ?_
          refine V_if_lt C dX8_feed_37 (fun c37 => absurd c37 (Int32.not_lt.mpr (by rw [feed_i (by omega)]; exact nI_pos' (by omega)))) (fun c37 => ?_)
          refine V_aload_n C dX8_feed_40 rfl ?_
          refine V_get C dX8_feed_41 (rdO (j := 9) 60 rfl rfl rfl rfl rfl) in_X8 (by decide) q241 rfl ?_
          refine V_iconst C 0 dX8_feed_44 (by decide) ?_
          refine V_aload_n C dX8_feed_45 rfl ?_
          refine V_get C dX8_feed_46 (rdO (j := 7) 60 rfl rfl rfl rfl rfl) in_X8 (by decide) q239 rfl ?_
          refine V_alen C dX8_feed_49 (rdOL 63 rfl rfl rfl) rfl ?_
          refine V_iconst C 1 dX8_feed_50 (by decide) ?_
          refine V_isub C dX8_feed_51 ?_
          rw [show (Int32.ofNat 120 - 1 : Int32) = 119 from by decide]
          rw [(show fdS σ p0 n w i 60 9 = nI (n + i) from by unfold fdS; rw [us_s, upd_s])]
          refine V_cs C hE dX8_feed_52 (c_X8_within) kyX8_within q270 rfl rfl rfl ?_
          refine V_ifeq_b C dX8_feed_55 (fun c55 => absurd (⟨nI_pos' (by omega), nI_le (b := 119) (by omega) (by decide)⟩) c55) (fun c55 => ?_)
          refine V_aload_n C dX8_feed_58 rfl ?_
          refine V_get C dX8_feed_59 (rdO (j := 7) 60 rfl rfl rfl rfl rfl) in_X8 (by decide) q239 rfl ?_
          refine V_aload_n C dX8_feed_62 rfl ?_
          refine V_get C dX8_feed_63 (rdO (j := 9) 60 rfl rfl rfl rfl rfl) in_X8 (by decide) q241 rfl ?_
          rw [(show fdS σ p0 n w i 60 9 = nI (n + i) from by unfold fdS; rw [us_s, upd_s])]
          refine V_iload_n C dX8_feed_66 rfl ?_
          refine V_bipush C 8 dX8_feed_67 (by decide) ?_
          refine V_iload_n C dX8_feed_69 rfl ?_
          refine V_imul C dX8_feed_70 ?_
          refine V_iushr C dX8_feed_71 ?_
          refine V_sipush C 255 dX8_feed_72 (by decide) ?_
          refine V_iand C dX8_feed_75 ?_
          refine V_st (st' := [.int (fdB p0 w i), .int (nI (n + i)), .ref (ad E 63)]) (by unfold fdB; rw [feed_i (show i < w by omega)]) ?_
          refine V_iastN C (n + i) rfl (by omega) (by omega) dX8_feed_76 (wrOA 63 rfl rfl (fun _ => rfl)) ?_
          refine V_aload_n C dX8_feed_77 rfl ?_
          refine V_dup C dX8_feed_78 rfl ?_
          refine V_get C dX8_feed_79 (rdO (j := 9) 60 rfl rfl rfl rfl rfl) in_X8 (by decide) q241 rfl ?_
          refine V_iconst C 1 dX8_feed_82 (by decide) ?_
          refine V_iadd C dX8_feed_83 ?_
          refine V_put C dX8_feed_84 (wrO (j := 9) 60 rfl rfl rfl rfl rfl rfl) ft_X8 (by decide) q241 rfl rfl rfl rfl ?_
          refine V_iinc C (-1) dX8_feed_87 rfl (by decide) rfl ?_
          refine V_goto C dX8_feed_90 ?_
          exact V_nx (fd_s (σ := σ) (c := 63) (d := 60) (j := 9) (by omega) (by rw [us_n (by omega)]; unfold fdS; rw [us_s, upd_s])) (by simp only [List.set]; rw [feed_i (show i < w by omega), show w - 1 - i = w - (i + 1) by omega, Int32.sub_eq_add_neg] <;> rfl) (ih (i + 1) (by omega))
      exact V_nx (fd_0 (c := 63) hnl).symm rfl (lp w 0 (by omega))
    · refine V_aload_n C dX8_feed_26 rfl ?_
      refine V_iconst C 1 dX8_feed_27 (by decide) ?_
      refine V_cv C hE dX8_feed_28 (c_X8_fail (j := 1) (by omega)) kyX8_fail q273 (isoO 60 rfl rfl rfl rfl) rfl rfl rfl ?_
      exact V_iretN C dX8_feed_31 hT (PZ_fail (by unfold S_feed; rw [if_pos c6, if_neg c23]) (EqX.rf σ))
  · refine V_aload_n C dX8_feed_9 rfl ?_
    refine V_iconst C 0 dX8_feed_10 (by decide) ?_
    refine V_cv C hE dX8_feed_11 (c_X8_fail (j := 0) (by omega)) kyX8_fail q273 (isoO 60 rfl rfl rfl rfl) rfl rfl rfl ?_
    exact V_iretN C dX8_feed_14 hT (PZ_fail (by unfold S_feed; rw [if_neg c6]) (EqX.rf σ))

