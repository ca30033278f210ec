theorem wl_k {t : Nat → Int32} {n s i : Nat} {w : Int32} {c : Int64} (hi : i < 15) (hc : Int64.ofNat (csT i) = c) : lg_cmp (wlT t n s w) c = 0 ↔ w = 0 ∧ wdT t n i s := by
  subst hc
  exact wl_c hi
def wrT {α : Type} (S : Nat ⊕ α) : Int32 := match S with
  | .inl _ => 1
  | .inr _ => 0
def ZH (σ : Sg) (f : Nat → Int32) (n : Nat) (S : Nat ⊕ (Nat × (Nat → Int32))) : Option Value → Sg → Prop := fun r u => r = none ∧ ∃ v g, u = ZQ σ f n (plT S) v (wrT S) g ∧ ∀ a, S = .inr a → g = a.2
theorem ZH_t {σ : Sg} {f g : Nat → Int32} {n s : Nat} {v : Int32} {S : Nat ⊕ (Nat × (Nat → Int32))} (h : S = .inr (s, g)) : ZH σ f n S none (ZQ σ f n s v 0 g) := by
  subst h
  exact ⟨rfl, v, g, rfl, fun a e => by cases e; rfl⟩
theorem ZH_f {σ : Sg} {f g : Nat → Int32} {n p : Nat} {v : Int32} {S : Nat ⊕ (Nat × (Nat → Int32))} (h : S = .inl p) : ZH σ f n S none (ZQ σ f n p v 1 g) := by
  subst h
  exact ⟨rfl, v, g, rfl, fun a e => by cases e⟩
theorem fv_y {t : Nat → Int32} {n lo hi s : Nat} (h : nmT t n lo hi s) : fvT t n s = nI (vlT t n s) := if_pos (nmT_i.mp h).1

theorem kd_0 {p0 p1 p2 p3 p4 p5 p6 : Prop} [Decidable p0] [Decidable p1] [Decidable p2] [Decidable p3] [Decidable p4] [Decidable p5] [Decidable p6]  (h0 : p0) : (0 : Int32) = if p0 then 0 else if p1 then 1 else if p2 then 2 else if p3 then 3 else if p4 then 4 else if p5 then 5 else if p6 then 6 else -1 := by
  rw [if_pos h0]
theorem kd_1 {p0 p1 p2 p3 p4 p5 p6 : Prop} [Decidable p0] [Decidable p1] [Decidable p2] [Decidable p3] [Decidable p4] [Decidable p5] [Decidable p6] (h0 : ¬ p0) (h1 : p1) : (1 : Int32) = if p0 then 0 else if p1 then 1 else if p2 then 2 else if p3 then 3 else if p4 then 4 else if p5 then 5 else if p6 then 6 else -1 := by
  rw [if_neg h0, if_pos h1]
theorem kd_2 {p0 p1 p2 p3 p4 p5 p6 : Prop} [Decidable p0] [Decidable p1] [Decidable p2] [Decidable p3] [Decidable p4] [Decidable p5] [Decidable p6] (h0 : ¬ p0) (h1 : ¬ p1) (h2 : p2) : (2 : Int32) = if p0 then 0 else if p1 then 1 else if p2 then 2 else if p3 then 3 else if p4 then 4 else if p5 then 5 else if p6 then 6 else -1 := by
  rw [if_neg h0, if_neg h1, if_pos h2]
theorem kd_3 {p0 p1 p2 p3 p4 p5 p6 : Prop} [Decidable p0] [Decidable p1] [Decidable p2] [Decidable p3] [Decidable p4] [Decidable p5] [Decidable p6] (h0 : ¬ p0) (h1 : ¬ p1) (h2 : ¬ p2) (h3 : p3) : (3 : Int32) = if p0 then 0 else if p1 then 1 else if p2 then 2 else if p3 then 3 else if p4 then 4 else if p5 then 5 else if p6 then 6 else -1 := by
  rw [if_neg h0, if_neg h1, if_neg h2, if_pos h3]
theorem kd_4 {p0 p1 p2 p3 p4 p5 p6 : Prop} [Decidable p0] [Decidable p1] [Decidable p2] [Decidable p3] [Decidable p4] [Decidable p5] [Decidable p6] (h0 : ¬ p0) (h1 : ¬ p1) (h2 : ¬ p2) (h3 : ¬ p3) (h4 : p4) : (4 : Int32) = if p0 then 0 else if p1 then 1 else if p2 then 2 else if p3 then 3 else if p4 then 4 else if p5 then 5 else if p6 then 6 else -1 := by
  rw [if_neg h0, if_neg h1, if_neg h2, if_neg h3, if_pos h4]
theorem kd_5 {p0 p1 p2 p3 p4 p5 p6 : Prop} [Decidable p0] [Decidable p1] [Decidable p2] [Decidable p3] [Decidable p4] [Decidable p5] [Decidable p6] (h0 : ¬ p0) (h1 : ¬ p1) (h2 : ¬ p2) (h3 : ¬ p3) (h4 : ¬ p4) (h5 : p5) : (5 : Int32) = if p0 then 0 else if p1 then 1 else if p2 then 2 else if p3 then 3 else if p4 then 4 else if p5 then 5 else if p6 then 6 else -1 := by
  rw [if_neg h0, if_neg h1, if_neg h2, if_neg h3, if_neg h4, if_pos h5]
theorem kd_6 {p0 p1 p2 p3 p4 p5 p6 : Prop} [Decidable p0] [Decidable p1] [Decidable p2] [Decidable p3] [Decidable p4] [Decidable p5] [Decidable p6] (h0 : ¬ p0) (h1 : ¬ p1) (h2 : ¬ p2) (h3 : ¬ p3) (h4 : ¬ p4) (h5 : ¬ p5) (h6 : p6) : (6 : Int32) = if p0 then 0 else if p1 then 1 else if p2 then 2 else if p3 then 3 else if p4 then 4 else if p5 then 5 else if p6 then 6 else -1 := by
  rw [if_neg h0, if_neg h1, if_neg h2, if_neg h3, if_neg h4, if_neg h5, if_pos h6]
theorem kd_7 {p0 p1 p2 p3 p4 p5 p6 : Prop} [Decidable p0] [Decidable p1] [Decidable p2] [Decidable p3] [Decidable p4] [Decidable p5] [Decidable p6] (h0 : ¬ p0) (h1 : ¬ p1) (h2 : ¬ p2) (h3 : ¬ p3) (h4 : ¬ p4) (h5 : ¬ p5) (h6 : ¬ p6) : (-1 : Int32) = if p0 then 0 else if p1 then 1 else if p2 then 2 else if p3 then 3 else if p4 then 4 else if p5 then 5 else if p6 then 6 else -1 := by
  rw [if_neg h0, if_neg h1, if_neg h2, if_neg h3, if_neg h4, if_neg h5, if_neg h6]
theorem c_needs1 {l : Launch} {E : En} {σ : Sg} {f r : Nat → Int32} {n s : Nat} {v : Int32} (h17 : f 17 = nI n) (hs : s ≤ n) (hn : n ≤ 120) : MD l yX9_needs cX9_needs 2 none rmX9_needs E [.ref (ad E 73), .int 1] (ZQ σ f n s v 0 r) (none) (ZQ σ f n (nxT (σ 80) n s) v 0 r) := by
  refine MD_of (by decide +kernel) rfl fun x C hE hT hcan => ?_
  have C : CX x cX9_needs RX9 rmX9_needs := C
  refine V_L (L' := [some (.ref (ad E 73)), some (.int 1)]) rfl ?_
  refine V_aload_n C dX9_needs_0 rfl ?_
  refine V_aload_n C dX9_needs_1 rfl ?_
  refine V_get C dX9_needs_2 (rdO (j := 21) 73 rfl rfl rfl rfl rfl) in_X9 (by decide) q928 rfl ?_
  try simp (disch := omega) only [ZQ_73, ZQ_74, ZQ_80, ZQ_u74, ZQ_u73, us_us, us_s, us_n, h17, VF_18, VF_19, VF_20, VF_21, VF_g17, VF_g18, VF_g19, VF_g20, VF_g21]
  refine V_if_ne C dX9_needs_5 (fun c5 => absurd (rfl) c5) (fun c5 => ?_)
  refine V_iload_n C dX9_needs_8 rfl ?_
  refine V_if_ne C dX9_needs_9 (fun c9 => ?_) (fun c9 => absurd c9 (by decide))
  refine V_iconst C 0 dX9_needs_16 (by decide) ?_
  refine V_put C dX9_needs_17 (wrO (j := 21) 73 rfl rfl rfl rfl rfl rfl) ft_X9 (by decide) q928 rfl rfl rfl rfl ?_
  try simp (disch := omega) only [ZQ_73, ZQ_74, ZQ_80, ZQ_u74, ZQ_u73, us_us, us_s, us_n, h17, VF_18, VF_19, VF_20, VF_21, VF_g17, VF_g18, VF_g19, VF_g20, VF_g21]
  refine V_aload_n C dX9_needs_20 rfl ?_
  refine V_get C dX9_needs_21 (rdO (j := 21) 73 rfl rfl rfl rfl rfl) in_X9 (by decide) q928 rfl ?_
  try simp (disch := omega) only [ZQ_73, ZQ_74, ZQ_80, ZQ_u74, ZQ_u73, us_us, us_s, us_n, h17, VF_18, VF_19, VF_20, VF_21, VF_g17, VF_g18, VF_g19, VF_g20, VF_g21]
  refine V_if_ne C dX9_needs_24 (fun c24 => absurd (rfl) c24) (fun c24 => ?_)
  refine V_aload_n C dX9_needs_27 rfl ?_
  refine V_cv0 C hE dX9_needs_28 (c_X9_token (f := f) (n := n) (e := enT (σ 80) n s) (a := nI s) (c := v) (g := 0) (by rw [ZQ_73]) h17 (enT_le hs) hn) kyX9_token q1299 (isoO 73 rfl rfl rfl rfl) rfl rfl rfl ?_
  try simp (disch := omega) only [ZQ_73, ZQ_74, ZQ_80, ZQ_u74, ZQ_u73, us_us, us_s, us_n, h17, VF_18, VF_19, VF_20, VF_21, VF_g17, VF_g18, VF_g19, VF_g20, VF_g21]
  exact V_retD C dX9_needs_31 hT rfl

theorem c_needs0 {l : Launch} {E : En} {σ : Sg} {f r : Nat → Int32} {n s : Nat} {v : Int32} (h17 : f 17 = nI n) (hs : s ≤ n) (hn : n ≤ 120) : MD l yX9_needs cX9_needs 2 none rmX9_needs E [.ref (ad E 73), .int 0] (ZQ σ f n s v 0 r) (none) (ZQ σ f n s v 1 r) := by
  refine MD_of (by decide +kernel) rfl fun x C hE hT hcan => ?_
  have C : CX x cX9_needs RX9 rmX9_needs := C
  refine V_L (L' := [some (.ref (ad E 73)), some (.int 0)]) rfl ?_
  refine V_aload_n C dX9_needs_0 rfl ?_
  refine V_aload_n C dX9_needs_1 rfl ?_
  refine V_get C dX9_needs_2 (rdO (j := 21) 73 rfl rfl rfl rfl rfl) in_X9 (by decide) q928 rfl ?_
  try simp (disch := omega) only [ZQ_73, ZQ_74, ZQ_80, ZQ_u74, ZQ_u73, us_us, us_s, us_n, h17, VF_18, VF_19, VF_20, VF_21, VF_g17, VF_g18, VF_g19, VF_g20, VF_g21]
  refine V_if_ne C dX9_needs_5 (fun c5 => absurd (rfl) c5) (fun c5 => ?_)
  refine V_iload_n C dX9_needs_8 rfl ?_
  refine V_if_ne C dX9_needs_9 (fun c9 => absurd (rfl) c9) (fun c9 => ?_)
  refine V_iconst C 1 dX9_needs_12 (by decide) ?_
  refine V_goto C dX9_needs_13 ?_
  refine V_put C dX9_needs_17 (wrO (j := 21) 73 rfl rfl rfl rfl rfl rfl) ft_X9 (by decide) q928 rfl rfl rfl rfl ?_
  try simp (disch := omega) only [ZQ_73, ZQ_74, ZQ_80, ZQ_u74, ZQ_u73, us_us, us_s, us_n, h17, VF_18, VF_19, VF_20, VF_21, VF_g17, VF_g18, VF_g19, VF_g20, VF_g21]
  refine V_aload_n C dX9_needs_20 rfl ?_
  refine V_get C dX9_needs_21 (rdO (j := 21) 73 rfl rfl rfl rfl rfl) in_X9 (by decide) q928 rfl ?_
  try simp (disch := omega) only [ZQ_73, ZQ_74, ZQ_80, ZQ_u74, ZQ_u73, us_us, us_s, us_n, h17, VF_18, VF_19, VF_20, VF_21, VF_g17, VF_g18, VF_g19, VF_g20, VF_g21]
  refine V_if_ne C dX9_needs_24 (fun c24 => ?_) (fun c24 => absurd c24 (by decide))
  exact V_retD C dX9_needs_31 hT rfl

theorem c_needsW {l : Launch} {E : En} {σ : Sg} {f r : Nat → Int32} {n s : Nat} {v : Int32} {p0 : Int32} (h17 : f 17 = nI n) (hs : s ≤ n) (hn : n ≤ 120) : MD l yX9_needs cX9_needs 2 none rmX9_needs E [.ref (ad E 73), .int p0] (ZQ σ f n s v 1 r) (none) (ZQ σ f n s v 1 r) := by
  refine MD_of (by decide +kernel) rfl fun x C hE hT hcan => ?_
  have C : CX x cX9_needs RX9 rmX9_needs := C
  refine V_L (L' := [some (.ref (ad E 73)), some (.int p0)]) rfl ?_
  refine V_aload_n C dX9_needs_0 rfl ?_
  refine V_aload_n C dX9_needs_1 rfl ?_
  refine V_get C dX9_needs_2 (rdO (j := 21) 73 rfl rfl rfl rfl rfl) in_X9 (by decide) q928 rfl ?_
  try simp (disch := omega) only [ZQ_73, ZQ_74, ZQ_80, ZQ_u74, ZQ_u73, us_us, us_s, us_n, h17, VF_18, VF_19, VF_20, VF_21, VF_g17, VF_g18, VF_g19, VF_g20, VF_g21]
  refine V_if_ne C dX9_needs_5 (fun c5 => ?_) (fun c5 => absurd c5 (by decide))
  refine V_iconst C 1 dX9_needs_12 (by decide) ?_
  refine V_goto C dX9_needs_13 ?_
  refine V_put C dX9_needs_17 (wrO (j := 21) 73 rfl rfl rfl rfl rfl rfl) ft_X9 (by decide) q928 rfl rfl rfl rfl ?_
  try simp (disch := omega) only [ZQ_73, ZQ_74, ZQ_80, ZQ_u74, ZQ_u73, us_us, us_s, us_n, h17, VF_18, VF_19, VF_20, VF_21, VF_g17, VF_g18, VF_g19, VF_g20, VF_g21]
  refine V_aload_n C dX9_needs_20 rfl ?_
  refine V_get C dX9_needs_21 (rdO (j := 21) 73 rfl rfl rfl rfl rfl) in_X9 (by decide) q928 rfl ?_
  try simp (disch := omega) only [ZQ_73, ZQ_74, ZQ_80, ZQ_u74, ZQ_u73, us_us, us_s, us_n, h17, VF_18, VF_19, VF_20, VF_21, VF_g17, VF_g18, VF_g19, VF_g20, VF_g21]
  refine V_if_ne C dX9_needs_24 (fun c24 => ?_) (fun c24 => absurd c24 (by decide))
  exact V_retD C dX9_needs_31 hT rfl

theorem c_numW {l : Launch} {E : En} {σ : Sg} {f r : Nat → Int32} {n s : Nat} {v : Int32} {a b : Int32} (h17 : f 17 = nI n) (hs : s ≤ n) (hn : n ≤ 120) : MD l yX9_number cX9_number 6 none rmX9_number E [.ref (ad E 73), .int a, .int b] (ZQ σ f n s v 1 r) (none) (ZQ σ f n s v 1 r) := by
  refine MD_of (by decide +kernel) rfl fun x C hE hT hcan => ?_
  have C : CX x cX9_number RX9 rmX9_number := C
  refine V_L (L' := [some (.ref (ad E 73)), some (.int a), some (.int b), none, none, none]) rfl ?_
  refine V_aload_n C dX9_number_0 rfl ?_
  refine V_get C dX9_number_1 (rdO (j := 21) 73 rfl rfl rfl rfl rfl) in_X9 (by decide) q928 rfl ?_
  try simp (disch := omega) only [ZQ_73, ZQ_74, ZQ_80, ZQ_u74, ZQ_u73, us_us, us_s, us_n, h17, VF_18, VF_19, VF_20, VF_21, VF_g17, VF_g18, VF_g19, VF_g20, VF_g21]
  refine V_if_eq C dX9_number_4 (fun c4 => absurd c4 (by decide)) (fun c4 => ?_)
  exact V_retD C dX9_number_7 hT rfl

theorem c_numY {l : Launch} {E : En} {σ : Sg} {f r : Nat → Int32} {n s : Nat} {v : Int32} {lo hi : Nat} {a b : Int32} (ha : a = nI lo) (hb : b = nI hi) (hlo : lo ≤ 999) (hhi : hi ≤ 999) (h17 : f 17 = nI n) (hs : s ≤ n) (hn : n ≤ 120) (h : nmT (σ 80) n lo hi s) : MD l yX9_number cX9_number 6 none rmX9_number E [.ref (ad E 73), .int a, .int b] (ZQ σ f n s v 0 r) (none) (ZQ σ f n (nxT (σ 80) n s) (nI (vlT (σ 80) n s)) 0 r) := by
  refine MD_of (by decide +kernel) rfl fun x C hE hT hcan => ?_
  have C : CX x cX9_number RX9 rmX9_number := C
  have hge : s ≤ enT (σ 80) n s := enT_ge
  have hle : enT (σ 80) n s ≤ n := enT_le hs
  have hd := (nmT_i.mp h).1
  refine V_L (L' := [some (.ref (ad E 73)), some (.int a), some (.int b), none, none, none]) rfl ?_
  subst ha hb
  have lp : ∀ (d i : Nat) , i + d = enT (σ 80) n s - s → V x (eA E) (AP x E (ZQ σ f n s v 0 r)) 0 0 29 [some (.ref (ad E 73)), some (.int (nI lo)), some (.int (nI hi)), some (.int (bI (isDT (bAT (σ 80) n s)))), some (.int (nI (vfT (σ 80) s i))), some (.int (nI (s + i)))] [] := by
    intro d
    induction d with
    | zero =>
      intro i  hi' 
      have hN : i = enT (σ 80) n s - s := by omega
      refine V_iload C dX9_number_29 rfl ?_
      refine V_aload_n C dX9_number_31 rfl ?_
      refine V_get C dX9_number_32 (rdO (j := 19) 73 rfl rfl rfl rfl rfl) in_X9 (by decide) q926 rfl ?_
      try simp (disch := omega) only [ZQ_73, ZQ_74, ZQ_80, ZQ_u74, ZQ_u73, us_us, us_s, us_n, h17, VF_18, VF_19, VF_20, VF_21, VF_g17, VF_g18, VF_g19, VF_g20, VF_g21]
      refine V_icmp_ge C dX9_number_35 (fun c35 => ?_) (fun c35 => absurd (by rw [show s + i = enT (σ 80) n s by omega]; exact nI_le (Nat.le_refl _) (by omega)) c35)
      rw [show vfT (σ 80) s i = vlT (σ 80) n s from by rw [hN]; rfl]
      refine V_aload_n C dX9_number_79 rfl ?_
      refine V_iload C dX9_number_80 rfl ?_
      refine V_put C dX9_number_82 (wrO (j := 20) 73 rfl rfl rfl rfl rfl rfl) ft_X9 (by decide) q927 rfl rfl rfl rfl ?_
      try simp (disch := omega) only [ZQ_73, ZQ_74, ZQ_80, ZQ_u74, ZQ_u73, us_us, us_s, us_n, h17, VF_18, VF_19, VF_20, VF_21, VF_g17, VF_g18, VF_g19, VF_g20, VF_g21]
      refine V_aload_n C dX9_number_85 rfl ?_
      refine V_iload_n C dX9_number_86 rfl ?_
      refine V_ifeq_b C dX9_number_87 (fun c87 => absurd (bAT_D.mpr hd) c87) (fun c87 => ?_)
      refine V_iload C dX9_number_90 rfl ?_
      refine V_i2l C dX9_number_92 ?_
      refine V_iload_n C dX9_number_93 rfl ?_
      refine V_i2l C dX9_number_94 ?_
      refine V_iload_n C dX9_number_95 rfl ?_
      refine V_i2l C dX9_number_96 ?_
      refine V_cs C hE dX9_number_97 (c_X9_in (a := nI (vlT (σ 80) n s)) (lo := nI lo) (hi := nI hi) rfl rfl) kyX9_in q991 rfl rfl rfl ?_
      try simp (disch := omega) only [ZQ_73, ZQ_74, ZQ_80, ZQ_u74, ZQ_u73, us_us, us_s, us_n, h17, VF_18, VF_19, VF_20, VF_21, VF_g17, VF_g18, VF_g19, VF_g20, VF_g21]
      refine V_ifeq_b C dX9_number_100 (fun c100 => absurd ((show inP (nI (vlT (σ 80) n s)) (nI lo) (nI hi) ↔ lo ≤ vlT (σ 80) n s ∧ vlT (σ 80) n s ≤ hi from by have := vlT_le hd.1 hd.2; unfold inP; rw [nI_leI (by omega) (by omega), nI_leI (by omega) (by omega)]).mpr (nmT_i.mp h).2) c100) (fun c100 => ?_)
      refine V_iconst C 1 dX9_number_103 (by decide) ?_
      refine V_goto C dX9_number_104 ?_
      refine V_cv0 C hE dX9_number_108 (c_needs1 h17 hs hn) kyX9_needs q1342 (isoO 73 rfl rfl rfl rfl) rfl rfl rfl ?_
      try simp (disch := omega) only [ZQ_73, ZQ_74, ZQ_80, ZQ_u74, ZQ_u73, us_us, us_s, us_n, h17, VF_18, VF_19, VF_20, VF_21, VF_g17, VF_g18, VF_g19, VF_g20, VF_g21]
      exact V_retD C dX9_number_111 hT rfl
    | succ d ih =>
      intro i  hi' 
      refine V_iload C dX9_number_29 rfl ?_
      refine V_aload_n C dX9_number_31 rfl ?_
      refine V_get C dX9_number_32 (rdO (j := 19) 73 rfl rfl rfl rfl rfl) in_X9 (by decide) q926 rfl ?_
      try simp (disch := omega) only [ZQ_73, ZQ_74, ZQ_80, ZQ_u74, ZQ_u73, us_us, us_s, us_n, h17, VF_18, VF_19, VF_20, VF_21, VF_g17, VF_g18, VF_g19, VF_g20, VF_g21]
      refine V_icmp_ge C dX9_number_35 (fun c35 => absurd c35 (nI_ge (by omega) (by omega))) (fun c35 => ?_)
      refine V_iload_n C dX9_number_38 rfl ?_
      refine V_ifeq_b C dX9_number_39 (fun c39 => absurd (bAT_D.mpr hd) c39) (fun c39 => ?_)
      refine V_iload C dX9_number_42 rfl ?_
      refine V_sipush C 999 dX9_number_44 (by decide) ?_
      refine V_icmp_le C dX9_number_47 (fun c47 => ?_) (fun c47 => ?_)
      · refine V_bipush C 10 dX9_number_55 (by decide) ?_
        refine V_iload C dX9_number_57 rfl ?_
        refine V_imul C dX9_number_59 ?_
        refine V_aload_n C dX9_number_60 rfl ?_
        refine V_get C dX9_number_61 (rdO (j := 16) 73 rfl rfl rfl rfl rfl) in_X9 (by decide) q923 rfl ?_
        refine V_iload C dX9_number_64 rfl ?_
        refine V_ialdN C (s + i) rfl (by omega) (by omega) dX9_number_66 (rdOA 80 rfl rfl rfl) ?_
        refine V_iadd C dX9_number_67 ?_
        refine V_bipush C 48 dX9_number_68 (by decide) ?_
        refine V_isub C dX9_number_70 ?_
        refine V_istore C dX9_number_71 rfl ?_
        refine V_iinc C 1 dX9_number_73 rfl (by decide) rfl ?_
        refine V_goto C dX9_number_76 ?_
        exact V_nx rfl (by have hvd := (enT_mD hd.1 hd.2 (show s ≤ s + i by omega) (by omega)).2; have hvf := vf_s hvd (vfT_le (e := enT (σ 80) n s) (fun k h1 h2 => (enT_mD hd.1 hd.2 h1 h2).2) i (by omega)); (first | rw [← hvf.1 c47] | rw [← hvf.2 c47]); simp [nI_1, ZQ_80, Nat.add_assoc] <;> rfl) (ih (i + 1) (by omega))
      · refine V_iload C dX9_number_50 rfl ?_
        refine V_goto C dX9_number_52 ?_
        refine V_istore C dX9_number_71 rfl ?_
        refine V_iinc C 1 dX9_number_73 rfl (by decide) rfl ?_
        refine V_goto C dX9_number_76 ?_
        exact V_nx rfl (by have hvd := (enT_mD hd.1 hd.2 (show s ≤ s + i by omega) (by omega)).2; have hvf := vf_s hvd (vfT_le (e := enT (σ 80) n s) (fun k h1 h2 => (enT_mD hd.1 hd.2 h1 h2).2) i (by omega)); (first | rw [← hvf.1 c47] | rw [← hvf.2 c47]); simp [nI_1, ZQ_80, Nat.add_assoc] <;> rfl) (ih (i + 1) (by omega))
  refine V_aload_n C dX9_number_0 rfl ?_
  refine V_get C dX9_number_1 (rdO (j := 21) 73 rfl rfl rfl rfl rfl) in_X9 (by decide) q928 rfl ?_
  try simp (disch := omega) only [ZQ_73, ZQ_74, ZQ_80, ZQ_u74, ZQ_u73, us_us, us_s, us_n, h17, VF_18, VF_19, VF_20, VF_21, VF_g17, VF_g18, VF_g19, VF_g20, VF_g21]
  refine V_if_eq C dX9_number_4 (fun c4 => ?_) (fun c4 => absurd (rfl) c4)
  refine V_aload_n C dX9_number_8 rfl ?_
  refine V_aload_n C dX9_number_9 rfl ?_
  refine V_get C dX9_number_10 (rdO (j := 18) 73 rfl rfl rfl rfl rfl) in_X9 (by decide) q925 rfl ?_
  try simp (disch := omega) only [ZQ_73, ZQ_74, ZQ_80, ZQ_u74, ZQ_u73, us_us, us_s, us_n, h17, VF_18, VF_19, VF_20, VF_21, VF_g17, VF_g18, VF_g19, VF_g20, VF_g21]
  refine V_cv C hE dX9_number_13 (c_X9_byteAt (n := n) (i := s) (by simp (disch := omega) only [ZQ_73, VF_g17, h17]) (by omega) (by omega)) kyX9_byteAt q1303 (isoO 73 rfl rfl rfl rfl) rfl rfl rfl ?_
  try simp (disch := omega) only [ZQ_73, ZQ_74, ZQ_80, ZQ_u74, ZQ_u73, us_us, us_s, us_n, h17, VF_18, VF_19, VF_20, VF_21, VF_g17, VF_g18, VF_g19, VF_g20, VF_g21]
  refine V_cs C hE dX9_number_16 (c_X9_isDigit) kyX9_isDigit q1312 rfl rfl rfl ?_
  try simp (disch := omega) only [ZQ_73, ZQ_74, ZQ_80, ZQ_u74, ZQ_u73, us_us, us_s, us_n, h17, VF_18, VF_19, VF_20, VF_21, VF_g17, VF_g18, VF_g19, VF_g20, VF_g21]
  refine V_istore_n C dX9_number_19 rfl ?_
  refine V_iconst C 0 dX9_number_20 (by decide) ?_
  refine V_istore C dX9_number_21 rfl ?_
  refine V_aload_n C dX9_number_23 rfl ?_
  refine V_get C dX9_number_24 (rdO (j := 18) 73 rfl rfl rfl rfl rfl) in_X9 (by decide) q925 rfl ?_
  try simp (disch := omega) only [ZQ_73, ZQ_74, ZQ_80, ZQ_u74, ZQ_u73, us_us, us_s, us_n, h17, VF_18, VF_19, VF_20, VF_21, VF_g17, VF_g18, VF_g19, VF_g20, VF_g21]
  refine V_istore C dX9_number_27 rfl ?_
  exact lp (enT (σ 80) n s - s) 0 (by omega)

theorem c_numN {l : Launch} {E : En} {σ : Sg} {f r : Nat → Int32} {n s : Nat} {v : Int32} {lo hi : Nat} {a b : Int32} (ha : a = nI lo) (hb : b = nI hi) (hlo : lo ≤ 999) (hhi : hi ≤ 999) (h17 : f 17 = nI n) (hs : s ≤ n) (hn : n ≤ 120) (h : ¬ nmT (σ 80) n lo hi s) : MD l yX9_number cX9_number 6 none rmX9_number E [.ref (ad E 73), .int a, .int b] (ZQ σ f n s v 0 r) (none) (ZQ σ f n s (fvT (σ 80) n s) 1 r) := by
  refine MD_of (by decide +kernel) rfl fun x C hE hT hcan => ?_
  have C : CX x cX9_number RX9 rmX9_number := C
  have hge : s ≤ enT (σ 80) n s := enT_ge
  have hle : enT (σ 80) n s ≤ n := enT_le hs
  refine V_L (L' := [some (.ref (ad E 73)), some (.int a), some (.int b), none, none, none]) rfl ?_
  subst ha hb
  by_cases hd : s < n ∧ isDT (σ 80 s)
  · have lp : ∀ (d i : Nat) , i + d = enT (σ 80) n s - s → V x (eA E) (AP x E (ZQ σ f n s v 0 r)) 0 0 29 [some (.ref (ad E 73)), some (.int (nI lo)), some (.int (nI hi)), some (.int (bI (isDT (bAT (σ 80) n s)))), some (.int (nI (vfT (σ 80) s i))), some (.int (nI (s + i)))] [] := by
      intro d
      induction d with
      | zero =>
        intro i  hi' 
        have hN : i = enT (σ 80) n s - s := by omega
        refine V_iload C dX9_number_29 rfl ?_
        refine V_aload_n C dX9_number_31 rfl ?_
        refine V_get C dX9_number_32 (rdO (j := 19) 73 rfl rfl rfl rfl rfl) in_X9 (by decide) q926 rfl ?_
        try simp (disch := omega) only [ZQ_73, ZQ_74, ZQ_80, ZQ_u74, ZQ_u73, us_us, us_s, us_n, h17, VF_18, VF_19, VF_20, VF_21, VF_g17, VF_g18, VF_g19, VF_g20, VF_g21]
        refine V_icmp_ge C dX9_number_35 (fun c35 => ?_) (fun c35 => absurd (by rw [show s + i = enT (σ 80) n s by omega]; exact nI_le (Nat.le_refl _) (by omega)) c35)
        rw [show vfT (σ 80) s i = vlT (σ 80) n s from by rw [hN]; rfl]
        refine V_aload_n C dX9_number_79 rfl ?_
        refine V_iload C dX9_number_80 rfl ?_
        refine V_put C dX9_number_82 (wrO (j := 20) 73 rfl rfl rfl rfl rfl rfl) ft_X9 (by decide) q927 rfl rfl rfl rfl ?_
        try simp (disch := omega) only [ZQ_73, ZQ_74, ZQ_80, ZQ_u74, ZQ_u73, us_us, us_s, us_n, h17, VF_18, VF_19, VF_20, VF_21, VF_g17, VF_g18, VF_g19, VF_g20, VF_g21]
        refine V_aload_n C dX9_number_85 rfl ?_
        refine V_iload_n C dX9_number_86 rfl ?_
        refine V_ifeq_b C dX9_number_87 (fun c87 => absurd (bAT_D.mpr hd) c87) (fun c87 => ?_)
        refine V_iload C dX9_number_90 rfl ?_
        refine V_i2l C dX9_number_92 ?_
        refine V_iload_n C dX9_number_93 rfl ?_
        refine V_i2l C dX9_number_94 ?_
        refine V_iload_n C dX9_number_95 rfl ?_
        refine V_i2l C dX9_number_96 ?_
        refine V_cs C hE dX9_number_97 (c_X9_in (a := nI (vlT (σ 80) n s)) (lo := nI lo) (hi := nI hi) rfl rfl) kyX9_in q991 rfl rfl rfl ?_
        try simp (disch := omega) only [ZQ_73, ZQ_74, ZQ_80, ZQ_u74, ZQ_u73, us_us, us_s, us_n, h17, VF_18, VF_19, VF_20, VF_21, VF_g17, VF_g18, VF_g19, VF_g20, VF_g21]
        refine V_ifeq_b C dX9_number_100 (fun c100 => ?_) (fun c100 => absurd c100 (fun q => h (nmT_i.mpr ⟨hd, (show inP (nI (vlT (σ 80) n s)) (nI lo) (nI hi) ↔ lo ≤ vlT (σ 80) n s ∧ vlT (σ 80) n s ≤ hi from by have := vlT_le hd.1 hd.2; unfold inP; rw [nI_leI (by omega) (by omega), nI_leI (by omega) (by omega)]).mp q⟩)))
        refine V_iconst C 0 dX9_number_107 (by decide) ?_
        refine V_cv0 C hE dX9_number_108 (c_needs0 h17 hs hn) kyX9_needs q1342 (isoO 73 rfl rfl rfl rfl) rfl rfl rfl ?_
        try simp (disch := omega) only [ZQ_73, ZQ_74, ZQ_80, ZQ_u74, ZQ_u73, us_us, us_s, us_n, h17, VF_18, VF_19, VF_20, VF_21, VF_g17, VF_g18, VF_g19, VF_g20, VF_g21]
        exact V_retD C dX9_number_111 hT (by unfold fvT; rw [if_pos hd])
      | succ d ih =>
        intro i  hi' 
        refine V_iload C dX9_number_29 rfl ?_
        refine V_aload_n C dX9_number_31 rfl ?_
        refine V_get C dX9_number_32 (rdO (j := 19) 73 rfl rfl rfl rfl rfl) in_X9 (by decide) q926 rfl ?_
        try simp (disch := omega) only [ZQ_73, ZQ_74, ZQ_80, ZQ_u74, ZQ_u73, us_us, us_s, us_n, h17, VF_18, VF_19, VF_20, VF_21, VF_g17, VF_g18, VF_g19, VF_g20, VF_g21]
        refine V_icmp_ge C dX9_number_35 (fun c35 => absurd c35 (nI_ge (by omega) (by omega))) (fun c35 => ?_)
        refine V_iload_n C dX9_number_38 rfl ?_
        refine V_ifeq_b C dX9_number_39 (fun c39 => absurd (bAT_D.mpr hd) c39) (fun c39 => ?_)
        refine V_iload C dX9_number_42 rfl ?_
        refine V_sipush C 999 dX9_number_44 (by decide) ?_
        refine V_icmp_le C dX9_number_47 (fun c47 => ?_) (fun c47 => ?_)
        · refine V_bipush C 10 dX9_number_55 (by decide) ?_
          refine V_iload C dX9_number_57 rfl ?_
          refine V_imul C dX9_number_59 ?_
          refine V_aload_n C dX9_number_60 rfl ?_
          refine V_get C dX9_number_61 (rdO (j := 16) 73 rfl rfl rfl rfl rfl) in_X9 (by decide) q923 rfl ?_
          refine V_iload C dX9_number_64 rfl ?_
          refine V_ialdN C (s + i) rfl (by omega) (by omega) dX9_number_66 (rdOA 80 rfl rfl rfl) ?_
          refine V_iadd C dX9_number_67 ?_
          refine V_bipush C 48 dX9_number_68 (by decide) ?_
          refine V_isub C dX9_number_70 ?_
          refine V_istore C dX9_number_71 rfl ?_
          refine V_iinc C 1 dX9_number_73 rfl (by decide) rfl ?_
          refine V_goto C dX9_number_76 ?_
          exact V_nx rfl (by have hvd := (enT_mD hd.1 hd.2 (show s ≤ s + i by omega) (by omega)).2; have hvf := vf_s hvd (vfT_le (e := enT (σ 80) n s) (fun k h1 h2 => (enT_mD hd.1 hd.2 h1 h2).2) i (by omega)); (first | rw [← hvf.1 c47] | rw [← hvf.2 c47]); simp [nI_1, ZQ_80, Nat.add_assoc] <;> rfl) (ih (i + 1) (by omega))
        · refine V_iload C dX9_number_50 rfl ?_
          refine V_goto C dX9_number_52 ?_
          refine V_istore C dX9_number_71 rfl ?_
          refine V_iinc C 1 dX9_number_73 rfl (by decide) rfl ?_
          refine V_goto C dX9_number_76 ?_
          exact V_nx rfl (by have hvd := (enT_mD hd.1 hd.2 (show s ≤ s + i by omega) (by omega)).2; have hvf := vf_s hvd (vfT_le (e := enT (σ 80) n s) (fun k h1 h2 => (enT_mD hd.1 hd.2 h1 h2).2) i (by omega)); (first | rw [← hvf.1 c47] | rw [← hvf.2 c47]); simp [nI_1, ZQ_80, Nat.add_assoc] <;> rfl) (ih (i + 1) (by omega))
    refine V_aload_n C dX9_number_0 rfl ?_
    refine V_get C dX9_number_1 (rdO (j := 21) 73 rfl rfl rfl rfl rfl) in_X9 (by decide) q928 rfl ?_
    try simp (disch := omega) only [ZQ_73, ZQ_74, ZQ_80, ZQ_u74, ZQ_u73, us_us, us_s, us_n, h17, VF_18, VF_19, VF_20, VF_21, VF_g17, VF_g18, VF_g19, VF_g20, VF_g21]
    refine V_if_eq C dX9_number_4 (fun c4 => ?_) (fun c4 => absurd (rfl) c4)
    refine V_aload_n C dX9_number_8 rfl ?_
    refine V_aload_n C dX9_number_9 rfl ?_
    refine V_get C dX9_number_10 (rdO (j := 18) 73 rfl rfl rfl rfl rfl) in_X9 (by decide) q925 rfl ?_
    try simp (disch := omega) only [ZQ_73, ZQ_74, ZQ_80, ZQ_u74, ZQ_u73, us_us, us_s, us_n, h17, VF_18, VF_19, VF_20, VF_21, VF_g17, VF_g18, VF_g19, VF_g20, VF_g21]
    refine V_cv C hE dX9_number_13 (c_X9_byteAt (n := n) (i := s) (by simp (disch := omega) only [ZQ_73, VF_g17, h17]) (by omega) (by omega)) kyX9_byteAt q1303 (isoO 73 rfl rfl rfl rfl) rfl rfl rfl ?_
    try simp (disch := omega) only [ZQ_73, ZQ_74, ZQ_80, ZQ_u74, ZQ_u73, us_us, us_s, us_n, h17, VF_18, VF_19, VF_20, VF_21, VF_g17, VF_g18, VF_g19, VF_g20, VF_g21]
    refine V_cs C hE dX9_number_16 (c_X9_isDigit) kyX9_isDigit q1312 rfl rfl rfl ?_
    try simp (disch := omega) only [ZQ_73, ZQ_74, ZQ_80, ZQ_u74, ZQ_u73, us_us, us_s, us_n, h17, VF_18, VF_19, VF_20, VF_21, VF_g17, VF_g18, VF_g19, VF_g20, VF_g21]
    refine V_istore_n C dX9_number_19 rfl ?_
    refine V_iconst C 0 dX9_number_20 (by decide) ?_
    refine V_istore C dX9_number_21 rfl ?_
    refine V_aload_n C dX9_number_23 rfl ?_
    refine V_get C dX9_number_24 (rdO (j := 18) 73 rfl rfl rfl rfl rfl) in_X9 (by decide) q925 rfl ?_
    try simp (disch := omega) only [ZQ_73, ZQ_74, ZQ_80, ZQ_u74, ZQ_u73, us_us, us_s, us_n, h17, VF_18, VF_19, VF_20, VF_21, VF_g17, VF_g18, VF_g19, VF_g20, VF_g21]
    refine V_istore C dX9_number_27 rfl ?_
    exact lp (enT (σ 80) n s - s) 0 (by omega)
  · refine V_aload_n C dX9_number_0 rfl ?_
    refine V_get C dX9_number_1 (rdO (j := 21) 73 rfl rfl rfl rfl rfl) in_X9 (by decide) q928 rfl ?_
    try simp (disch := omega) only [ZQ_73, ZQ_74, ZQ_80, ZQ_u74, ZQ_u73, us_us, us_s, us_n, h17, VF_18, VF_19, VF_20, VF_21, VF_g17, VF_g18, VF_g19, VF_g20, VF_g21]
    refine V_if_eq C dX9_number_4 (fun c4 => ?_) (fun c4 => absurd (rfl) c4)
    refine V_aload_n C dX9_number_8 rfl ?_
    refine V_aload_n C dX9_number_9 rfl ?_
    refine V_get C dX9_number_10 (rdO (j := 18) 73 rfl rfl rfl rfl rfl) in_X9 (by decide) q925 rfl ?_
    try simp (disch := omega) only [ZQ_73, ZQ_74, ZQ_80, ZQ_u74, ZQ_u73, us_us, us_s, us_n, h17, VF_18, VF_19, VF_20, VF_21, VF_g17, VF_g18, VF_g19, VF_g20, VF_g21]
    refine V_cv C hE dX9_number_13 (c_X9_byteAt (n := n) (i := s) (by simp (disch := omega) only [ZQ_73, VF_g17, h17]) (by omega) (by omega)) kyX9_byteAt q1303 (isoO 73 rfl rfl rfl rfl) rfl rfl rfl ?_
    try simp (disch := omega) only [ZQ_73, ZQ_74, ZQ_80, ZQ_u74, ZQ_u73, us_us, us_s, us_n, h17, VF_18, VF_19, VF_20, VF_21, VF_g17, VF_g18, VF_g19, VF_g20, VF_g21]
    refine V_cs C hE dX9_number_16 (c_X9_isDigit) kyX9_isDigit q1312 rfl rfl rfl ?_
    try simp (disch := omega) only [ZQ_73, ZQ_74, ZQ_80, ZQ_u74, ZQ_u73, us_us, us_s, us_n, h17, VF_18, VF_19, VF_20, VF_21, VF_g17, VF_g18, VF_g19, VF_g20, VF_g21]
    refine V_istore_n C dX9_number_19 rfl ?_
    refine V_iconst C 0 dX9_number_20 (by decide) ?_
    refine V_istore C dX9_number_21 rfl ?_
    refine V_aload_n C dX9_number_23 rfl ?_
    refine V_get C dX9_number_24 (rdO (j := 18) 73 rfl rfl rfl rfl rfl) in_X9 (by decide) q925 rfl ?_
    try simp (disch := omega) only [ZQ_73, ZQ_74, ZQ_80, ZQ_u74, ZQ_u73, us_us, us_s, us_n, h17, VF_18, VF_19, VF_20, VF_21, VF_g17, VF_g18, VF_g19, VF_g20, VF_g21]
    refine V_istore C dX9_number_27 rfl ?_
    refine V_iload C dX9_number_29 rfl ?_
    refine V_aload_n C dX9_number_31 rfl ?_
    refine V_get C dX9_number_32 (rdO (j := 19) 73 rfl rfl rfl rfl rfl) in_X9 (by decide) q926 rfl ?_
    try simp (disch := omega) only [ZQ_73, ZQ_74, ZQ_80, ZQ_u74, ZQ_u73, us_us, us_s, us_n, h17, VF_18, VF_19, VF_20, VF_21, VF_g17, VF_g18, VF_g19, VF_g20, VF_g21]
    refine V_icmp_ge C dX9_number_35 (fun c35 => ?_) (fun c35 => ?_)
    · refine V_aload_n C dX9_number_79 rfl ?_
      refine V_iload C dX9_number_80 rfl ?_
      refine V_put C dX9_number_82 (wrO (j := 20) 73 rfl rfl rfl rfl rfl rfl) ft_X9 (by decide) q927 rfl rfl rfl rfl ?_
      try simp (disch := omega) only [ZQ_73, ZQ_74, ZQ_80, ZQ_u74, ZQ_u73, us_us, us_s, us_n, h17, VF_18, VF_19, VF_20, VF_21, VF_g17, VF_g18, VF_g19, VF_g20, VF_g21]
      refine V_aload_n C dX9_number_85 rfl ?_
      refine V_iload_n C dX9_number_86 rfl ?_
      refine V_ifeq_b C dX9_number_87 (fun c87 => ?_) (fun c87 => absurd c87 (fun q => hd (bAT_D.mp q)))
      refine V_iconst C 0 dX9_number_107 (by decide) ?_
      refine V_cv0 C hE dX9_number_108 (c_needs0 h17 hs hn) kyX9_needs q1342 (isoO 73 rfl rfl rfl rfl) rfl rfl rfl ?_
      try simp (disch := omega) only [ZQ_73, ZQ_74, ZQ_80, ZQ_u74, ZQ_u73, us_us, us_s, us_n, h17, VF_18, VF_19, VF_20, VF_21, VF_g17, VF_g18, VF_g19, VF_g20, VF_g21]
      exact V_retD C dX9_number_111 hT (by unfold fvT; rw [if_neg hd] <;> rfl)
    · refine V_iload_n C dX9_number_38 rfl ?_
      refine V_ifeq_b C dX9_number_39 (fun c39 => ?_) (fun c39 => absurd c39 (fun q => hd (bAT_D.mp q)))
      refine V_aload_n C dX9_number_79 rfl ?_
      refine V_iload C dX9_number_80 rfl ?_
      refine V_put C dX9_number_82 (wrO (j := 20) 73 rfl rfl rfl rfl rfl rfl) ft_X9 (by decide) q927 rfl rfl rfl rfl ?_
      try simp (disch := omega) only [ZQ_73, ZQ_74, ZQ_80, ZQ_u74, ZQ_u73, us_us, us_s, us_n, h17, VF_18, VF_19, VF_20, VF_21, VF_g17, VF_g18, VF_g19, VF_g20, VF_g21]
      refine V_aload_n C dX9_number_85 rfl ?_
      refine V_iload_n C dX9_number_86 rfl ?_
      refine V_ifeq_b C dX9_number_87 (fun c87 => ?_) (fun c87 => absurd c87 (fun q => hd (bAT_D.mp q)))
      refine V_iconst C 0 dX9_number_107 (by decide) ?_
      refine V_cv0 C hE dX9_number_108 (c_needs0 h17 hs hn) kyX9_needs q1342 (isoO 73 rfl rfl rfl rfl) rfl rfl rfl ?_
      try simp (disch := omega) only [ZQ_73, ZQ_74, ZQ_80, ZQ_u74, ZQ_u73, us_us, us_s, us_n, h17, VF_18, VF_19, VF_20, VF_21, VF_g17, VF_g18, VF_g19, VF_g20, VF_g21]
      exact V_retD C dX9_number_111 hT (by unfold fvT; rw [if_neg hd] <;> rfl)


theorem c_perh0 {l : Launch} {E : En} {σ : Sg} {a b d : Int32}  : MD l yX9_perhaps cX9_perhaps 5 (some .int) rmX9_perhaps E [.ref (ad E 73), .int 0, .int a, .int b, .int d] (σ) (some (.int d)) (σ) := by
  refine MD_of (by decide +kernel) rfl fun x C hE hT hcan => ?_
  have C : CX x cX9_perhaps RX9 rmX9_perhaps := C
  refine V_L (L' := [some (.ref (ad E 73)), some (.int 0), some (.int a), some (.int b), some (.int d)]) rfl ?_
  refine V_iload_n C dX9_perhaps_0 rfl ?_
  refine V_if_ne C dX9_perhaps_1 (fun c1 => absurd (rfl) c1) (fun c1 => ?_)
  refine V_iload C dX9_perhaps_4 rfl ?_
  exact V_iretD C dX9_perhaps_6 hT rfl rfl

theorem c_perhY {l : Launch} {E : En} {σ : Sg} {f r : Nat → Int32} {n s : Nat} {v : Int32} {lo hi : Nat} {a b d : Int32} (ha : a = nI lo) (hb : b = nI hi) (hlo : lo ≤ 999) (hhi : hi ≤ 999) (h17 : f 17 = nI n) (hs : s ≤ n) (hn : n ≤ 120) (h : nmT (σ 80) n lo hi (nxT (σ 80) n s)) : MD l yX9_perhaps cX9_perhaps 5 (some .int) rmX9_perhaps E [.ref (ad E 73), .int 1, .int a, .int b, .int d] (ZQ σ f n s v 0 r) (some (.int (nI (vlT (σ 80) n (nxT (σ 80) n s))))) (ZQ σ f n (nxT (σ 80) n (nxT (σ 80) n s)) (nI (vlT (σ 80) n (nxT (σ 80) n s))) 0 r) := by
  refine MD_of (by decide +kernel) rfl fun x C hE hT hcan => ?_
  have C : CX x cX9_perhaps RX9 rmX9_perhaps := C
  refine V_L (L' := [some (.ref (ad E 73)), some (.int 1), some (.int a), some (.int b), some (.int d)]) rfl ?_
  refine V_iload_n C dX9_perhaps_0 rfl ?_
  refine V_if_ne C dX9_perhaps_1 (fun c1 => ?_) (fun c1 => absurd c1 (by decide))
  refine V_aload_n C dX9_perhaps_7 rfl ?_
  refine V_iconst C 1 dX9_perhaps_8 (by decide) ?_
  refine V_cv0 C hE dX9_perhaps_9 (c_needs1 h17 hs hn) kyX9_needs q1342 (isoO 73 rfl rfl rfl rfl) rfl rfl rfl ?_
  try simp (disch := omega) only [ZQ_73, ZQ_74, ZQ_80, ZQ_u74, ZQ_u73, us_us, us_s, us_n, h17, VF_18, VF_19, VF_20, VF_21, VF_g17, VF_g18, VF_g19, VF_g20, VF_g21]
  refine V_aload_n C dX9_perhaps_12 rfl ?_
  refine V_iload_n C dX9_perhaps_13 rfl ?_
  refine V_iload_n C dX9_perhaps_14 rfl ?_
  refine V_cv0 C hE dX9_perhaps_15 (c_numY ha hb hlo hhi h17 (nxT_le hs) hn h) kyX9_number q1351 (isoO 73 rfl rfl rfl rfl) rfl rfl rfl ?_
  try simp (disch := omega) only [ZQ_73, ZQ_74, ZQ_80, ZQ_u74, ZQ_u73, us_us, us_s, us_n, h17, VF_18, VF_19, VF_20, VF_21, VF_g17, VF_g18, VF_g19, VF_g20, VF_g21]
  refine V_aload_n C dX9_perhaps_18 rfl ?_
  refine V_get C dX9_perhaps_19 (rdO (j := 20) 73 rfl rfl rfl rfl rfl) in_X9 (by decide) q927 rfl ?_
  try simp (disch := omega) only [ZQ_73, ZQ_74, ZQ_80, ZQ_u74, ZQ_u73, us_us, us_s, us_n, h17, VF_18, VF_19, VF_20, VF_21, VF_g17, VF_g18, VF_g19, VF_g20, VF_g21]
  exact V_iretD C dX9_perhaps_22 hT rfl rfl

theorem c_perhN {l : Launch} {E : En} {σ : Sg} {f r : Nat → Int32} {n s : Nat} {v : Int32} {lo hi : Nat} {a b d : Int32} (ha : a = nI lo) (hb : b = nI hi) (hlo : lo ≤ 999) (hhi : hi ≤ 999) (h17 : f 17 = nI n) (hs : s ≤ n) (hn : n ≤ 120) (h : ¬ nmT (σ 80) n lo hi (nxT (σ 80) n s)) : MD l yX9_perhaps cX9_perhaps 5 (some .int) rmX9_perhaps E [.ref (ad E 73), .int 1, .int a, .int b, .int d] (ZQ σ f n s v 0 r) (some (.int (fvT (σ 80) n (nxT (σ 80) n s)))) (ZQ σ f n (nxT (σ 80) n s) (fvT (σ 80) n (nxT (σ 80) n s)) 1 r) := by
  refine MD_of (by decide +kernel) rfl fun x C hE hT hcan => ?_
  have C : CX x cX9_perhaps RX9 rmX9_perhaps := C
  refine V_L (L' := [some (.ref (ad E 73)), some (.int 1), some (.int a), some (.int b), some (.int d)]) rfl ?_
  refine V_iload_n C dX9_perhaps_0 rfl ?_
  refine V_if_ne C dX9_perhaps_1 (fun c1 => ?_) (fun c1 => absurd c1 (by decide))
  refine V_aload_n C dX9_perhaps_7 rfl ?_
  refine V_iconst C 1 dX9_perhaps_8 (by decide) ?_
  refine V_cv0 C hE dX9_perhaps_9 (c_needs1 h17 hs hn) kyX9_needs q1342 (isoO 73 rfl rfl rfl rfl) rfl rfl rfl ?_
  try simp (disch := omega) only [ZQ_73, ZQ_74, ZQ_80, ZQ_u74, ZQ_u73, us_us, us_s, us_n, h17, VF_18, VF_19, VF_20, VF_21, VF_g17, VF_g18, VF_g19, VF_g20, VF_g21]
  refine V_aload_n C dX9_perhaps_12 rfl ?_
  refine V_iload_n C dX9_perhaps_13 rfl ?_
  refine V_iload_n C dX9_perhaps_14 rfl ?_
  refine V_cv0 C hE dX9_perhaps_15 (c_numN ha hb hlo hhi h17 (nxT_le hs) hn h) kyX9_number q1351 (isoO 73 rfl rfl rfl rfl) rfl rfl rfl ?_
  try simp (disch := omega) only [ZQ_73, ZQ_74, ZQ_80, ZQ_u74, ZQ_u73, us_us, us_s, us_n, h17, VF_18, VF_19, VF_20, VF_21, VF_g17, VF_g18, VF_g19, VF_g20, VF_g21]
  refine V_aload_n C dX9_perhaps_18 rfl ?_
  refine V_get C dX9_perhaps_19 (rdO (j := 20) 73 rfl rfl rfl rfl rfl) in_X9 (by decide) q927 rfl ?_
  try simp (disch := omega) only [ZQ_73, ZQ_74, ZQ_80, ZQ_u74, ZQ_u73, us_us, us_s, us_n, h17, VF_18, VF_19, VF_20, VF_21, VF_g17, VF_g18, VF_g19, VF_g20, VF_g21]
  exact V_iretD C dX9_perhaps_22 hT rfl rfl

theorem c_kind0 {l : Launch} {E : En} {σ : Sg} {f r : Nat → Int32} {n s : Nat} {v : Int32} (h17 : f 17 = nI n) (hs : s ≤ n) (hn : n ≤ 120) : MD l yX9_kindHere cX9_kindHere 3 (some .int) rmX9_kindHere E [.ref (ad E 73)] (ZQ σ f n s v 0 r) (some (.int (kdT (σ 80) n s))) (ZQ σ f n s v 0 r) := by
  refine MD_of (by decide +kernel) rfl fun x C hE hT hcan => ?_
  have C : CX x cX9_kindHere RX9 rmX9_kindHere := C
  have k0 := (wl_k (t := σ 80) (n := n) (s := s) (w := 0) (i := 0) (c := 8902245) (by decide) (by decide +kernel))
  have k1 := (wl_k (t := σ 80) (n := n) (s := s) (w := 0) (i := 1) (c := 351582372) (by decide) (by decide +kernel))
  have k2 := (wl_k (t := σ 80) (n := n) (s := s) (w := 0) (i := 2) (c := 156822119065) (by decide) (by decide +kernel))
  have k3 := (wl_k (t := σ 80) (n := n) (s := s) (w := 0) (i := 3) (c := 136368) (by decide) (by decide +kernel))
  have k4 := (wl_k (t := σ 80) (n := n) (s := s) (w := 0) (i := 4) (c := 5685913) (by decide) (by decide +kernel))
  have k5 := (wl_k (t := σ 80) (n := n) (s := s) (w := 0) (i := 5) (c := 17383076) (by decide) (by decide +kernel))
  have k6 := (wl_k (t := σ 80) (n := n) (s := s) (w := 0) (i := 6) (c := 651481369) (by decide) (by decide +kernel))
  refine V_L (L' := [some (.ref (ad E 73)), none, none]) rfl ?_
  refine V_aload_n C dX9_kindHere_0 rfl ?_
  refine V_cv C hE dX9_kindHere_1 (c_X9_word h17 hs hn) kyX9_word q1325 (isoO 73 rfl rfl rfl rfl) rfl rfl rfl ?_
  try simp (disch := omega) only [ZQ_73, ZQ_74, ZQ_80, ZQ_u74, ZQ_u73, us_us, us_s, us_n, h17, VF_18, VF_19, VF_20, VF_21, VF_g17, VF_g18, VF_g19, VF_g20, VF_g21]
  refine V_lstore_n C dX9_kindHere_4 rfl ?_
  refine V_lload_n C dX9_kindHere_5 rfl ?_
  refine V_ldc2 C dX9_kindHere_6 q1331 ?_
  refine V_lcmp C dX9_kindHere_9 ?_
  refine V_if_ne C dX9_kindHere_10 (fun c10 => ?_) (fun c10 => ?_)
  · refine V_lload_n C dX9_kindHere_17 rfl ?_
    refine V_ldc2 C dX9_kindHere_18 q1332 ?_
    refine V_lcmp C dX9_kindHere_21 ?_
    refine V_if_ne C dX9_kindHere_22 (fun c22 => ?_) (fun c22 => ?_)
    · refine V_lload_n C dX9_kindHere_29 rfl ?_
      refine V_ldc2 C dX9_kindHere_30 q1333 ?_
      refine V_lcmp C dX9_kindHere_33 ?_
      refine V_if_ne C dX9_kindHere_34 (fun c34 => ?_) (fun c34 => ?_)
      · refine V_lload_n C dX9_kindHere_41 rfl ?_
        refine V_ldc2 C dX9_kindHere_42 q1334 ?_
        refine V_lcmp C dX9_kindHere_45 ?_
        refine V_if_ne C dX9_kindHere_46 (fun c46 => ?_) (fun c46 => ?_)
        · refine V_lload_n C dX9_kindHere_53 rfl ?_
          refine V_ldc2 C dX9_kindHere_54 q1335 ?_
          refine V_lcmp C dX9_kindHere_57 ?_
          refine V_if_ne C dX9_kindHere_58 (fun c58 => ?_) (fun c58 => ?_)
          · refine V_lload_n C dX9_kindHere_65 rfl ?_
            refine V_ldc2 C dX9_kindHere_66 q1336 ?_
            refine V_lcmp C dX9_kindHere_69 ?_
            refine V_if_ne C dX9_kindHere_70 (fun c70 => ?_) (fun c70 => ?_)
            · refine V_lload_n C dX9_kindHere_77 rfl ?_
              refine V_ldc2 C dX9_kindHere_78 q1337 ?_
              refine V_lcmp C dX9_kindHere_81 ?_
              refine V_if_ne C dX9_kindHere_82 (fun c82 => ?_) (fun c82 => ?_)
              · refine V_iconst C (-1) dX9_kindHere_90 (by decide) ?_
                exact V_iretD C dX9_kindHere_91 hT (by unfold kdT; first | (exact kd_6 (fun q => c10 (k0.mpr ⟨rfl, q⟩)) (fun q => c22 (k1.mpr ⟨rfl, q⟩)) (fun q => c34 (k2.mpr ⟨rfl, q⟩)) (fun q => c46 (k3.mpr ⟨rfl, q⟩)) (fun q => c58 (k4.mpr ⟨rfl, q⟩)) (fun q => c70 (k5.mpr ⟨rfl, q⟩)) (k6.mp c82).2) | (exact kd_7 (fun q => c10 (k0.mpr ⟨rfl, q⟩)) (fun q => c22 (k1.mpr ⟨rfl, q⟩)) (fun q => c34 (k2.mpr ⟨rfl, q⟩)) (fun q => c46 (k3.mpr ⟨rfl, q⟩)) (fun q => c58 (k4.mpr ⟨rfl, q⟩)) (fun q => c70 (k5.mpr ⟨rfl, q⟩)) (fun q => c82 (k6.mpr ⟨rfl, q⟩)) )) rfl
              · refine V_bipush C 6 dX9_kindHere_85 (by decide) ?_
                refine V_goto C dX9_kindHere_87 ?_
                exact V_iretD C dX9_kindHere_91 hT (by unfold kdT; first | (exact kd_6 (fun q => c10 (k0.mpr ⟨rfl, q⟩)) (fun q => c22 (k1.mpr ⟨rfl, q⟩)) (fun q => c34 (k2.mpr ⟨rfl, q⟩)) (fun q => c46 (k3.mpr ⟨rfl, q⟩)) (fun q => c58 (k4.mpr ⟨rfl, q⟩)) (fun q => c70 (k5.mpr ⟨rfl, q⟩)) (k6.mp c82).2) | (exact kd_7 (fun q => c10 (k0.mpr ⟨rfl, q⟩)) (fun q => c22 (k1.mpr ⟨rfl, q⟩)) (fun q => c34 (k2.mpr ⟨rfl, q⟩)) (fun q => c46 (k3.mpr ⟨rfl, q⟩)) (fun q => c58 (k4.mpr ⟨rfl, q⟩)) (fun q => c70 (k5.mpr ⟨rfl, q⟩)) (fun q => c82 (k6.mpr ⟨rfl, q⟩)) )) rfl
            · refine V_iconst C 5 dX9_kindHere_73 (by decide) ?_
              refine V_goto C dX9_kindHere_74 ?_
              exact V_iretD C dX9_kindHere_91 hT (by unfold kdT; first | (exact kd_5 (fun q => c10 (k0.mpr ⟨rfl, q⟩)) (fun q => c22 (k1.mpr ⟨rfl, q⟩)) (fun q => c34 (k2.mpr ⟨rfl, q⟩)) (fun q => c46 (k3.mpr ⟨rfl, q⟩)) (fun q => c58 (k4.mpr ⟨rfl, q⟩)) (k5.mp c70).2) | (exact kd_6 (fun q => c10 (k0.mpr ⟨rfl, q⟩)) (fun q => c22 (k1.mpr ⟨rfl, q⟩)) (fun q => c34 (k2.mpr ⟨rfl, q⟩)) (fun q => c46 (k3.mpr ⟨rfl, q⟩)) (fun q => c58 (k4.mpr ⟨rfl, q⟩)) (fun q => c70 (k5.mpr ⟨rfl, q⟩)) (k6.mp c82).2)) rfl
          · refine V_iconst C 4 dX9_kindHere_61 (by decide) ?_
            refine V_goto C dX9_kindHere_62 ?_
            exact V_iretD C dX9_kindHere_91 hT (by unfold kdT; first | (exact kd_4 (fun q => c10 (k0.mpr ⟨rfl, q⟩)) (fun q => c22 (k1.mpr ⟨rfl, q⟩)) (fun q => c34 (k2.mpr ⟨rfl, q⟩)) (fun q => c46 (k3.mpr ⟨rfl, q⟩)) (k4.mp c58).2) | (exact kd_5 (fun q => c10 (k0.mpr ⟨rfl, q⟩)) (fun q => c22 (k1.mpr ⟨rfl, q⟩)) (fun q => c34 (k2.mpr ⟨rfl, q⟩)) (fun q => c46 (k3.mpr ⟨rfl, q⟩)) (fun q => c58 (k4.mpr ⟨rfl, q⟩)) (k5.mp c70).2)) rfl
        · refine V_iconst C 3 dX9_kindHere_49 (by decide) ?_
          refine V_goto C dX9_kindHere_50 ?_
          exact V_iretD C dX9_kindHere_91 hT (by unfold kdT; first | (exact kd_3 (fun q => c10 (k0.mpr ⟨rfl, q⟩)) (fun q => c22 (k1.mpr ⟨rfl, q⟩)) (fun q => c34 (k2.mpr ⟨rfl, q⟩)) (k3.mp c46).2) | (exact kd_4 (fun q => c10 (k0.mpr ⟨rfl, q⟩)) (fun q => c22 (k1.mpr ⟨rfl, q⟩)) (fun q => c34 (k2.mpr ⟨rfl, q⟩)) (fun q => c46 (k3.mpr ⟨rfl, q⟩)) (k4.mp c58).2)) rfl
      · refine V_iconst C 2 dX9_kindHere_37 (by decide) ?_
        refine V_goto C dX9_kindHere_38 ?_
        exact V_iretD C dX9_kindHere_91 hT (by unfold kdT; first | (exact kd_2 (fun q => c10 (k0.mpr ⟨rfl, q⟩)) (fun q => c22 (k1.mpr ⟨rfl, q⟩)) (k2.mp c34).2) | (exact kd_3 (fun q => c10 (k0.mpr ⟨rfl, q⟩)) (fun q => c22 (k1.mpr ⟨rfl, q⟩)) (fun q => c34 (k2.mpr ⟨rfl, q⟩)) (k3.mp c46).2)) rfl
    · refine V_iconst C 1 dX9_kindHere_25 (by decide) ?_
      refine V_goto C dX9_kindHere_26 ?_
      exact V_iretD C dX9_kindHere_91 hT (by unfold kdT; first | (exact kd_1 (fun q => c10 (k0.mpr ⟨rfl, q⟩)) (k1.mp c22).2) | (exact kd_2 (fun q => c10 (k0.mpr ⟨rfl, q⟩)) (fun q => c22 (k1.mpr ⟨rfl, q⟩)) (k2.mp c34).2)) rfl
  · refine V_iconst C 0 dX9_kindHere_13 (by decide) ?_
    refine V_goto C dX9_kindHere_14 ?_
    exact V_iretD C dX9_kindHere_91 hT (by unfold kdT; first | (exact kd_0  (k0.mp c10).2) | (exact kd_1 (fun q => c10 (k0.mpr ⟨rfl, q⟩)) (k1.mp c22).2)) rfl

theorem c_kindW {l : Launch} {E : En} {σ : Sg} {f r : Nat → Int32} {n s : Nat} {v : Int32} (h17 : f 17 = nI n) (hs : s ≤ n) (hn : n ≤ 120) : MD l yX9_kindHere cX9_kindHere 3 (some .int) rmX9_kindHere E [.ref (ad E 73)] (ZQ σ f n s v 1 r) (some (.int (-1))) (ZQ σ f n s v 1 r) := by
  refine MD_of (by decide +kernel) rfl fun x C hE hT hcan => ?_
  have C : CX x cX9_kindHere RX9 rmX9_kindHere := C
  have k0 := (wl_k (t := σ 80) (n := n) (s := s) (w := 1) (i := 0) (c := 8902245) (by decide) (by decide +kernel))
  have k1 := (wl_k (t := σ 80) (n := n) (s := s) (w := 1) (i := 1) (c := 351582372) (by decide) (by decide +kernel))
  have k2 := (wl_k (t := σ 80) (n := n) (s := s) (w := 1) (i := 2) (c := 156822119065) (by decide) (by decide +kernel))
  have k3 := (wl_k (t := σ 80) (n := n) (s := s) (w := 1) (i := 3) (c := 136368) (by decide) (by decide +kernel))
  have k4 := (wl_k (t := σ 80) (n := n) (s := s) (w := 1) (i := 4) (c := 5685913) (by decide) (by decide +kernel))
  have k5 := (wl_k (t := σ 80) (n := n) (s := s) (w := 1) (i := 5) (c := 17383076) (by decide) (by decide +kernel))
  have k6 := (wl_k (t := σ 80) (n := n) (s := s) (w := 1) (i := 6) (c := 651481369) (by decide) (by decide +kernel))
  refine V_L (L' := [some (.ref (ad E 73)), none, none]) rfl ?_
  refine V_aload_n C dX9_kindHere_0 rfl ?_
  refine V_cv C hE dX9_kindHere_1 (c_X9_word h17 hs hn) kyX9_word q1325 (isoO 73 rfl rfl rfl rfl) rfl rfl rfl ?_
  try simp (disch := omega) only [ZQ_73, ZQ_74, ZQ_80, ZQ_u74, ZQ_u73, us_us, us_s, us_n, h17, VF_18, VF_19, VF_20, VF_21, VF_g17, VF_g18, VF_g19, VF_g20, VF_g21]
  refine V_lstore_n C dX9_kindHere_4 rfl ?_
  refine V_lload_n C dX9_kindHere_5 rfl ?_
  refine V_ldc2 C dX9_kindHere_6 q1331 ?_
  refine V_lcmp C dX9_kindHere_9 ?_
  refine V_if_ne C dX9_kindHere_10 (fun c10 => ?_) (fun c10 => absurd c10 (fun q => absurd (k0.mp q).1 (by decide)))
  refine V_lload_n C dX9_kindHere_17 rfl ?_
  refine V_ldc2 C dX9_kindHere_18 q1332 ?_
  refine V_lcmp C dX9_kindHere_21 ?_
  refine V_if_ne C dX9_kindHere_22 (fun c22 => ?_) (fun c22 => absurd c22 (fun q => absurd (k1.mp q).1 (by decide)))
  refine V_lload_n C dX9_kindHere_29 rfl ?_
  refine V_ldc2 C dX9_kindHere_30 q1333 ?_
  refine V_lcmp C dX9_kindHere_33 ?_
  refine V_if_ne C dX9_kindHere_34 (fun c34 => ?_) (fun c34 => absurd c34 (fun q => absurd (k2.mp q).1 (by decide)))
  refine V_lload_n C dX9_kindHere_41 rfl ?_
  refine V_ldc2 C dX9_kindHere_42 q1334 ?_
  refine V_lcmp C dX9_kindHere_45 ?_
  refine V_if_ne C dX9_kindHere_46 (fun c46 => ?_) (fun c46 => absurd c46 (fun q => absurd (k3.mp q).1 (by decide)))
  refine V_lload_n C dX9_kindHere_53 rfl ?_
  refine V_ldc2 C dX9_kindHere_54 q1335 ?_
  refine V_lcmp C dX9_kindHere_57 ?_
  refine V_if_ne C dX9_kindHere_58 (fun c58 => ?_) (fun c58 => absurd c58 (fun q => absurd (k4.mp q).1 (by decide)))
  refine V_lload_n C dX9_kindHere_65 rfl ?_
  refine V_ldc2 C dX9_kindHere_66 q1336 ?_
  refine V_lcmp C dX9_kindHere_69 ?_
  refine V_if_ne C dX9_kindHere_70 (fun c70 => ?_) (fun c70 => absurd c70 (fun q => absurd (k5.mp q).1 (by decide)))
  refine V_lload_n C dX9_kindHere_77 rfl ?_
  refine V_ldc2 C dX9_kindHere_78 q1337 ?_
  refine V_lcmp C dX9_kindHere_81 ?_
  refine V_if_ne C dX9_kindHere_82 (fun c82 => ?_) (fun c82 => absurd c82 (fun q => absurd (k6.mp q).1 (by decide)))
  refine V_iconst C (-1) dX9_kindHere_90 (by decide) ?_
  exact V_iretD C dX9_kindHere_91 hT rfl rfl

