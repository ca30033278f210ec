/-! the other acts: tape, sheets, what is kept -/
theorem K_Z {σ u1 u2 : Sg} {S S' : Rs} {σ1 τ : Sg} {r1 r2 : Option Value} (hR : Rel σ) (h1 : PZ σ S σ1 r1 u1) (h2 : PQ u1 S' τ r2 u2) (hS : S' = S) (hin : ∀ z, S = .inr z → σ1 62 = σ 62 ∧ ((∀ c, ¬ TR c → u1 c = σ1 c) → τ 77 = u1 77 ∧ ∃ Z, Rel Z ∧ RelE Z τ)) : r2 = r1 ∧ Rel u2 := by
  subst hS
  obtain ⟨e1, x1⟩ := h1
  obtain ⟨e2, y1, y2⟩ := h2
  refine ⟨e2.trans e1.symm, ?_⟩
  cases S' with
  | inl j =>
    have x1 : EqX (us σ 62 (rsT (σ 62) (.inl j))) u1 := x1
    have y1 : ∀ c, ¬ TY c → u2 c = us u1 77 (rsT (u1 77) (.inl j)) c := y1
    have y2 : ∀ i, ¬ SY i → u2 73 i = us u1 77 (rsT (u1 77) (.inl j)) 73 i := y2
    have h77 : u1 77 = σ 62 := by rw [x1 77 (by omega), us_n (by omega)]; exact hR.2.2.2.2.2.1.symm
    refine Rel_eq (Z := us (us (us (us σ 0 (σ 0)) 62 (rsT (σ 62) (.inl j))) 74 (σ 0)) 77 (rsT (σ 62) (.inl j))) ⟨fun c hr hy => ?_, fun i hi => ?_⟩ (Rel_row hR hR.2.1)
    · rw [y1 c hy, us_id]
      by_cases e77 : c = 77
      · subst e77; rw [us_s, us_s, h77]
      · rw [us_n e77, us_n e77, x1 c hr]
        by_cases e74 : c = 74
        · subst e74; rw [us_s, us_n (by omega)]; exact hR.1.symm
        · rw [us_n e74]
    · rw [y2 i hi, us_n (show (73:Nat) ≠ 77 by omega), us_n (show (73:Nat) ≠ 77 by omega), us_n (show (73:Nat) ≠ 74 by omega), us_n (show (73:Nat) ≠ 62 by omega), us_id, x1 73 (by omega), us_n (show (73:Nat) ≠ 62 by omega)]
  | inr z =>
    obtain ⟨h62, hk⟩ := hin z rfl
    have x1 : EqX (us σ1 62 (σ 62)) u1 := x1
    have xx : ∀ c, ¬ TR c → u1 c = σ1 c := fun c hc => by rw [x1 c hc, ← h62, us_id]
    obtain ⟨h77, Z, hZ, hE⟩ := hk xx
    have ey : us τ 77 (rsT (u1 77) (.inr z)) = τ := by
      show us τ 77 (u1 77) = τ
      rw [← h77, us_id]
    have y1 : ∀ c, ¬ TY c → u2 c = us τ 77 (rsT (u1 77) (.inr z)) c := y1
    have y2 : ∀ i, ¬ SY i → u2 73 i = us τ 77 (rsT (u1 77) (.inr z)) 73 i := y2
    rw [ey] at y1 y2
    exact Rel_eq ⟨fun c hr hy => (y1 c hy).trans (hE.1 c hr hy), fun i hi => (y2 i hi).trans (hE.2 i hi)⟩ hZ
/-- the tape anew on both sides -/
def tpZ (σ : Sg) (T : Nat → Int32) (v : Int32) : Sg := us (us (us (us σ 63 T) 60 (upd (σ 60) 9 v)) 80 T) 73 (upd (σ 73) 17 v)
theorem tpZ_n {σ : Sg} {T : Nat → Int32} {v : Int32} {c : Nat} (h1 : c ≠ 63) (h2 : c ≠ 60) (h3 : c ≠ 80) (h4 : c ≠ 73) : tpZ σ T v c = σ c := by
  unfold tpZ; rw [us_n h4, us_n h3, us_n h2, us_n h1]
theorem tpZ_63 {σ : Sg} {T : Nat → Int32} {v : Int32} : tpZ σ T v 63 = T := by unfold tpZ; rw [us_n (by omega), us_n (by omega), us_n (by omega), us_s]
theorem tpZ_80 {σ : Sg} {T : Nat → Int32} {v : Int32} : tpZ σ T v 80 = T := by unfold tpZ; rw [us_n (by omega), us_s]
theorem tpZ_60 {σ : Sg} {T : Nat → Int32} {v : Int32} : tpZ σ T v 60 = upd (σ 60) 9 v := by unfold tpZ; rw [us_n (by omega), us_n (by omega), us_s]
theorem tpZ_73 {σ : Sg} {T : Nat → Int32} {v : Int32} : tpZ σ T v 73 = upd (σ 73) 17 v := by unfold tpZ; rw [us_s]
theorem Rel_tape {σ : Sg} {T : Nat → Int32} {m : Nat} (h : Rel σ) (hm : m ≤ 120) : Rel (tpZ σ T (nI m)) := by
  obtain ⟨z0, z1, z2, z3, z4, z5, z6, z7, z8⟩ := h
  have n0 : tpZ σ T (nI m) 0 = σ 0 := tpZ_n (by omega) (by omega) (by omega) (by omega)
  have n1 : tpZ σ T (nI m) 1 = σ 1 := tpZ_n (by omega) (by omega) (by omega) (by omega)
  have n62 : tpZ σ T (nI m) 62 = σ 62 := tpZ_n (by omega) (by omega) (by omega) (by omega)
  have n74 : tpZ σ T (nI m) 74 = σ 74 := tpZ_n (by omega) (by omega) (by omega) (by omega)
  have n75 : tpZ σ T (nI m) 75 = σ 75 := tpZ_n (by omega) (by omega) (by omega) (by omega)
  have n77 : tpZ σ T (nI m) 77 = σ 77 := tpZ_n (by omega) (by omega) (by omega) (by omega)
  have n81 : tpZ σ T (nI m) 81 = σ 81 := tpZ_n (by omega) (by omega) (by omega) (by omega)
  have n82 : tpZ σ T (nI m) 82 = σ 82 := tpZ_n (by omega) (by omega) (by omega) (by omega)
  have n83 : tpZ σ T (nI m) 83 = σ 83 := tpZ_n (by omega) (by omega) (by omega) (by omega)
  have j4 : tpZ σ T (nI m) 73 4 = σ 73 4 := by rw [tpZ_73, upd_n (by omega)]
  refine ⟨by rw [n0, n74]; exact z0, by rw [n0]; exact z1, ⟨by rw [tpZ_73, upd_n (by omega)]; exact z2.1, by rw [tpZ_73, upd_n (by omega)]; exact z2.2.1, by rw [tpZ_73, upd_n (by omega)]; exact z2.2.2⟩, by rw [j4, tpZ_60, upd_n (by omega)]; exact z3, by rw [j4, n1, n75]; exact z4, by rw [n62, n77]; exact z5, by rw [tpZ_63, tpZ_80], ⟨m, hm, by rw [tpZ_60, upd_s], by rw [tpZ_73, upd_s]⟩, fun s hs => ?_⟩
  unfold ShR
  rw [n81, n82, n83, tpZ_n (c := shc s) (by unfold shc; omega) (by unfold shc; omega) (by unfold shc; omega) (by unfold shc; omega), tpZ_n (c := nmc s) (by unfold nmc; omega) (by unfold nmc; omega) (by unfold nmc; omega) (by unfold nmc; omega)]
  exact z8 s hs
/-- what is kept anew on both sides -/
def kpZ (σ : Sg) (f : Nat → Int32) (v : Int32) : Sg := us (us (us (us σ 1 f) 60 (upd (σ 60) 10 v)) 75 f) 73 (upd (σ 73) 4 v)
theorem kpZ_n {σ : Sg} {T : Nat → Int32} {v : Int32} {c : Nat} (h1 : c ≠ 1) (h2 : c ≠ 60) (h3 : c ≠ 75) (h4 : c ≠ 73) : kpZ σ T v c = σ c := by
  unfold kpZ; rw [us_n h4, us_n h3, us_n h2, us_n h1]
theorem kpZ_1 {σ : Sg} {T : Nat → Int32} {v : Int32} : kpZ σ T v 1 = T := by unfold kpZ; rw [us_n (by omega), us_n (by omega), us_n (by omega), us_s]
theorem kpZ_75 {σ : Sg} {T : Nat → Int32} {v : Int32} : kpZ σ T v 75 = T := by unfold kpZ; rw [us_n (by omega), us_s]
theorem kpZ_60 {σ : Sg} {T : Nat → Int32} {v : Int32} : kpZ σ T v 60 = upd (σ 60) 10 v := by unfold kpZ; rw [us_n (by omega), us_n (by omega), us_s]
theorem kpZ_73 {σ : Sg} {T : Nat → Int32} {v : Int32} : kpZ σ T v 73 = upd (σ 73) 4 v := by unfold kpZ; rw [us_s]
theorem Rel_kept {σ : Sg} {f : Nat → Int32} {v : Int32} (h : Rel σ) (hf : v ≠ 0 → RowOK f) : Rel (kpZ σ f v) := by
  obtain ⟨z0, z1, z2, z3, z4, z5, z6, z7, z8⟩ := h
  have n0 : kpZ σ f v 0 = σ 0 := kpZ_n (by omega) (by omega) (by omega) (by omega)
  have n62 : kpZ σ f v 62 = σ 62 := kpZ_n (by omega) (by omega) (by omega) (by omega)
  have n63 : kpZ σ f v 63 = σ 63 := kpZ_n (by omega) (by omega) (by omega) (by omega)
  have n74 : kpZ σ f v 74 = σ 74 := kpZ_n (by omega) (by omega) (by omega) (by omega)
  have n77 : kpZ σ f v 77 = σ 77 := kpZ_n (by omega) (by omega) (by omega) (by omega)
  have n80 : kpZ σ f v 80 = σ 80 := kpZ_n (by omega) (by omega) (by omega) (by omega)
  have n81 : kpZ σ f v 81 = σ 81 := kpZ_n (by omega) (by omega) (by omega) (by omega)
  have n82 : kpZ σ f v 82 = σ 82 := kpZ_n (by omega) (by omega) (by omega) (by omega)
  have n83 : kpZ σ f v 83 = σ 83 := kpZ_n (by omega) (by omega) (by omega) (by omega)
  refine ⟨by rw [n0, n74]; exact z0, by rw [n0]; exact z1, ⟨by rw [kpZ_73, upd_n (by omega)]; exact z2.1, by rw [kpZ_73, upd_n (by omega)]; exact z2.2.1, by rw [kpZ_73, upd_n (by omega)]; exact z2.2.2⟩, by rw [kpZ_60, kpZ_73, upd_s, upd_s], by rw [kpZ_73, upd_s, kpZ_1, kpZ_75]; exact fun q => ⟨rfl, hf q⟩, by rw [n62, n77]; exact z5, by rw [n63, n80]; exact z6, by rw [kpZ_60, kpZ_73, upd_n (by omega), upd_n (by omega)]; exact z7, fun s hs => ?_⟩
  unfold ShR
  rw [n81, n82, n83, kpZ_n (c := shc s) (by unfold shc; omega) (by unfold shc; omega) (by unfold shc; omega) (by unfold shc; omega), kpZ_n (c := nmc s) (by unfold nmc; omega) (by unfold nmc; omega) (by unfold nmc; omega) (by unfold nmc; omega)]
  exact z8 s hs
/-- a sheet anew on both sides -/
theorem Rel_sh {σ Z : Sg} (hR : Rel σ) {s : Nat} (hs : s < 4) {b l : Int32} (hk : ∀ c, c ≠ shc s → c ≠ nmc s → c ≠ 81 → c ≠ 82 → c ≠ 83 → Z c = σ c) (h81 : Z 81 = upd (σ 81) s b) (h82 : Z 82 = upd (σ 82) s l) (hA1 : Z (shc s) 1 = b) (hA2 : Z (shc s) 2 = l) (hb : b = 0 ∨ b = 8 ∨ b = 16 ∨ b = 32) (hl : ∃ n, n ≤ 40 ∧ l = nI n)
    (hG : ∀ i, i < 40 → Z (nmc s) i = Z 83 (40 * s + i) ∧ cutV b (Z 83 (40 * s + i)) = Z 83 (40 * s + i)) (hO : ∀ s', s' < 4 → s' ≠ s → ∀ i, i < 40 → Z 83 (40 * s' + i) = σ 83 (40 * s' + i)) : Rel Z := by
  obtain ⟨z0, z1, z2, z3, z4, z5, z6, z7, z8⟩ := hR
  have k : ∀ c, c < 65 ∨ (73 ≤ c ∧ c < 81) → Z c = σ c := fun c hc => hk c (by unfold shc; omega) (by unfold nmc; omega) (by omega) (by omega) (by omega)
  refine ⟨by rw [k 0 (by omega), k 74 (by omega)]; exact z0, by rw [k 0 (by omega)]; exact z1, by unfold MZ; rw [k 73 (by omega)]; exact z2, by rw [k 60 (by omega), k 73 (by omega)]; exact z3, by rw [k 73 (by omega), k 1 (by omega), k 75 (by omega)]; exact z4, by rw [k 62 (by omega), k 77 (by omega)]; exact z5, by rw [k 63 (by omega), k 80 (by omega)]; exact z6, by rw [k 60 (by omega), k 73 (by omega)]; exact z7, fun s' hs' => ?_⟩
  unfold ShR
  rw [h81, h82]
  by_cases e : s' = s
  · subst e
    rw [upd_s, upd_s]
    exact ⟨hA1, hA2, hb, hl, hG⟩
  · rw [upd_n e, upd_n e, hk (shc s') (by unfold shc; omega) (by unfold shc nmc; omega) (by unfold shc; omega) (by unfold shc; omega) (by unfold shc; omega), hk (nmc s') (by unfold shc nmc; omega) (by unfold nmc; omega) (by unfold nmc; omega) (by unfold nmc; omega) (by unfold nmc; omega)]
    obtain ⟨a1, a2, a3, a4, a5⟩ := z8 s' hs'
    exact ⟨a1, a2, a3, a4, fun i hi => by rw [hO s' hs' e i hi]; exact a5 i hi⟩
theorem hk_lt4 {p : Int32} (h : inP p 0 3) : hk p < 4 := by
  obtain ⟨k, rfl, hk3⟩ := i32_le (m := 3) (by omega) h.1 h.2
  rw [hk_n (by omega)]; omega
theorem upd_same {f : Nat → Int32} {k : Nat} {v : Int32} (h : v = f k) : upd f k v = f := by rw [h, upd_id]
theorem zeroN_z (f : Nat → Int32) : ∀ n i, i < n → zeroN f n i = 0 := by
  intro n
  induction n with
  | zero => intro i h; omega
  | succ n ih =>
    intro i h
    show upd (zeroN f n) n 0 i = 0
    by_cases e : i = n
    · subst e; exact upd_s _ _ _
    · rw [upd_n e]; exact ih i (by omega)
theorem zO_z (f : Nat → Int32) (s : Nat) : ∀ n i, i < n → zO f s n (40 * s + i) = 0 := by
  intro n
  induction n with
  | zero => intro i h; omega
  | succ n ih =>
    intro i h
    show upd (zO f s n) (40 * s + n) 0 (40 * s + i) = 0
    by_cases e : i = n
    · subst e; exact upd_s _ _ _
    · rw [upd_n (by omega)]; exact ih i (by omega)
theorem zO_n (f : Nat → Int32) (s : Nat) : ∀ n x, n ≤ 40 → (x < 40 * s ∨ 40 * s + 40 ≤ x) → zO f s n x = f x := by
  intro n
  induction n with
  | zero => intro x _ _; rfl
  | succ n ih =>
    intro x hn h
    show upd (zO f s n) (40 * s + n) 0 x = f x
    rw [upd_n (by omega)]; exact ih x (by omega) h
theorem cutV_idem (b v : Int32) : cutV b (cutV b v) = cutV b v := by
  unfold cutV
  by_cases h8 : b = 8
  · rw [if_pos h8, if_pos h8]; simp
  · rw [if_neg h8, if_neg h8]
    by_cases h16 : b = 16
    · rw [if_pos h16, if_pos h16]; simp
    · rw [if_neg h16, if_neg h16]
theorem cutV_0 (b : Int32) : cutV b 0 = 0 := by
  unfold cutV
  by_cases h8 : b = 8
  · rw [if_pos h8]; rfl
  · rw [if_neg h8]
    by_cases h16 : b = 16
    · rw [if_pos h16]; rfl
    · rw [if_neg h16]
/-- what a copy leaves behind -/
theorem cpyS_v {σ : Sg} {s t i j n : Nat} (hcut : ∀ x, x < n → cutV (σ (shc t) 1) (σ (nmc s) (i + x)) = σ (nmc s) (i + x)) (hts : shc t ≠ nmc t) : ∀ k, k ≤ n → ∀ x, cpyS σ s t i j n k (nmc t) x = if ∃ m, m < k ∧ x = j + cpyO i j n m then σ (nmc s) (i + (x - j)) else σ (nmc t) x := by
  intro k
  induction k with
  | zero => intro _ x; rw [if_neg (by rintro ⟨m, hm, -⟩; omega)]; rfl
  | succ k ih =>
    intro hk x
    have ho := cpyO_l (i := i) (j := j) (n := n) (k := k) (by omega)
    show us (cpyS σ s t i j n k) (nmc t) (upd (cpyS σ s t i j n k (nmc t)) (j + cpyO i j n k) (cutV (cpyS σ s t i j n k (shc t) 1) (cpyS σ s t i j n k (nmc s) (i + cpyO i j n k)))) (nmc t) x = _
    rw [us_s, cpyS_o hts]
    have hv : cpyS σ s t i j n k (nmc s) (i + cpyO i j n k) = σ (nmc s) (i + cpyO i j n k) := by
      by_cases est : nmc s = nmc t
      · rw [est, ih (by omega), if_neg]
        rintro ⟨m, hm, e⟩
        unfold cpyO at e
        by_cases hij : i < j
        · rw [if_pos hij, if_pos hij] at e; omega
        · rw [if_neg hij, if_neg hij] at e; omega
      · rw [cpyS_o est]
    rw [hv, hcut _ ho]
    by_cases ex : x = j + cpyO i j n k
    · subst ex
      rw [upd_s, if_pos ⟨k, by omega, rfl⟩, Nat.add_sub_cancel_left]
    · rw [upd_n ex, ih (by omega)]
      by_cases h : ∃ m, m < k ∧ x = j + cpyO i j n m
      · obtain ⟨m, hm, e⟩ := h
        rw [if_pos ⟨m, hm, e⟩, if_pos ⟨m, by omega, e⟩]
      · rw [if_neg h, if_neg]
        rintro ⟨m, hm, e⟩
        by_cases hmk : m = k
        · subst hmk; exact ex e
        · exact h ⟨m, by omega, e⟩
theorem cpyO_all {i j n x : Nat} : (∃ m, m < n ∧ x = j + cpyO i j n m) ↔ (j ≤ x ∧ x < j + n) := by
  constructor
  · rintro ⟨m, hm, rfl⟩
    have := cpyO_l (i := i) (j := j) (n := n) (k := m) hm
    omega
  · rintro ⟨h1, h2⟩
    unfold cpyO
    by_cases hij : i < j
    · refine ⟨n - 1 - (x - j), by omega, ?_⟩
      rw [if_pos hij]; omega
    · refine ⟨x - j, by omega, ?_⟩
      rw [if_neg hij]; omega
