/-! ways, rounds, what a trial leaves alone -/
abbrev inP (v lo hi : Int32) : Prop := lo ≤ v ∧ v ≤ hi
def Way (f : Nat → Int32) : Prop := (∀ i, i < 7 → 0 ≤ f (8+i) ∧ f (8+i) ≤ 9) ∧ 0 ≤ f 5 ∧ f 5 ≤ 1
def AtV (f : Nat → Int32) : Prop := f 2 = nI (hx f) ∧ hx f ≤ 7
def GV (f : Nat → Int32) : Prop := Inv f ∧ Way f ∧ AtV f
theorem i32_nat {x : Int32} (h : 0 ≤ x) : ∃ n, x = nI n ∧ n < 2 ^ 31 ∧ x.toInt = n := by
  obtain ⟨j, hj, rfl⟩ := nI_of (x := x) (Int32.not_lt.mpr h)
  exact ⟨j, rfl, hj, nI_toInt hj⟩
theorem i32_le {x : Int32} {m : Nat} (hm : m < 2 ^ 31) (h : 0 ≤ x) (h2 : x ≤ nI m) : ∃ n, x = nI n ∧ n ≤ m := by
  obtain ⟨n, rfl, hn, -⟩ := i32_nat h
  exact ⟨n, rfl, (nI_leI hn hm).mp h2⟩
theorem wayN_b {f : Nat → Int32} (h : Way f) (lo : Nat) : ∀ n, lo + n ≤ 7 → ∃ m, wayN f lo n = nI m ∧ m ≤ 10 * n := by
  intro n
  induction n with
  | zero => intro _; exact ⟨0, rfl, by omega⟩
  | succ n ih =>
    intro hn
    obtain ⟨m, hm, hm2⟩ := ih (by omega)
    obtain ⟨a, ha, ha2⟩ := i32_le (m := 9) (by omega) (h.1 (lo+n) (by omega)).1 (h.1 (lo+n) (by omega)).2
    obtain ⟨b, hb, hb2⟩ := i32_le (m := 1) (by omega) h.2.1 h.2.2
    exact ⟨m + (a + b), by show wayN f lo n + (f (8 + (lo + n)) + f 5) = _; rw [hm, ha, hb, nI_add, nI_add], by omega⟩
theorem wayF_b {f : Nat → Int32} (h : Way f) {a b : Nat} (ha : a ≤ 7) (hb : b ≤ 7) : ∃ m, wayF f a b = nI m ∧ m ≤ 70 := by
  obtain ⟨m, hm, hm2⟩ := wayN_b h (min a b) (max a b - min a b) (by omega)
  exact ⟨m, hm, by omega⟩
theorem brdF_lo {p : Prop} [Decidable p] {f : Nat → Int32} {h k : Nat} (hk : k < 15) : brdF p f h k = f k := by unfold brdF; split <;> first | exact uh_lo hk | rfl
theorem quarterF_lo {f : Nat → Int32} {k : Nat} (hk : k < 15) (h0 : k ≠ 0) (h3 : k ≠ 3) (h4 : k ≠ 4) : quarterF f k = f k := by
  unfold quarterF qF tickF
  try simp only
  rw [upd_n h0]
  have e : ∀ g : Nat → Int32, (if 0 < g 3 then upd g 3 (g 3 - 1) else g) k = g k := fun g => by split <;> first | exact upd_n h3 | rfl
  rw [e, brdF_lo hk, coolN_lo hk]
  split
  · exact burnF_lo hk h4
  · rfl
theorem passN_lo {f : Nat → Int32} {k : Nat} (hk : k < 15) (h0 : k ≠ 0) (h3 : k ≠ 3) (h4 : k ≠ 4) : ∀ n, passN n f k = f k := by
  intro n
  induction n with
  | zero => rfl
  | succ n ih => exact (quarterF_lo hk h0 h3 h4).trans ih
theorem hx_passN {f : Nat → Int32} (n : Nat) : hx (passN n f) = hx f := by unfold hx; rw [passN_lo (by omega) (by omega) (by omega) (by omega)]
theorem GV_passN {f : Nat → Int32} (h : GV f) (n : Nat) : GV (passN n f) := by
  refine ⟨Inv_passN h.1 n, ⟨fun i hi => ?_, ?_⟩, ?_, ?_⟩
  · rw [passN_lo (by omega) (by omega) (by omega) (by omega)]; exact h.2.1.1 i hi
  · rw [passN_lo (by omega) (by omega) (by omega) (by omega)]; exact h.2.1.2
  · rw [passN_lo (by omega) (by omega) (by omega) (by omega), hx_passN]; exact h.2.2.1
  · rw [hx_passN]; exact h.2.2.2
theorem goF_2 {f : Nat → Int32} {b : Nat} : goF f b 2 = nI b := upd_s _ _ _
theorem hx_goF {f : Nat → Int32} {b : Nat} (hb : b ≤ 7) : hx (goF f b) = b := by unfold hx; rw [goF_2, nI_clamp (by omega)]
theorem goF_n {f : Nat → Int32} {b k : Nat} (h2 : k ≠ 2) (h3 : k ≠ 3) : goF f b k = f k := by unfold goF; rw [upd_n h2, upd_n h3]
theorem GV_goF {f : Nat → Int32} (h : GV f) {b : Nat} (hb : b ≤ 7) : GV (goF f b) := by
  obtain ⟨m, hm, hm2⟩ := wayF_b h.2.1 h.2.2.2 hb
  refine ⟨Inv_goF h.1 (by rw [hm]; exact nI_pos' (by omega)), ⟨fun i hi => ?_, ?_⟩, ?_, ?_⟩
  · rw [goF_n (by omega) (by omega)]; exact h.2.1.1 i hi
  · rw [goF_n (by omega) (by omega)]; exact h.2.1.2
  · rw [goF_2, hx_goF hb]
  · rw [hx_goF hb]; exact hb
/-- a leg of a round with a stay: how long it takes, the village, least and chilled behind it -/
def legK (s : Int32) (g : Nat → Int32) (b : Nat) : Nat := (wayF g (hx g) b + s).toNatClampNeg
def legV (s : Int32) (g : Nat → Int32) (b : Nat) : Nat → Int32 := passN (legK s g b) (goF g b)
def legA (s : Int32) (g : Nat → Int32) (a : Int32) (b : Nat) : Int32 := lgA (goF g b) a (legK s g b)
def legC (s : Int32) (g : Nat → Int32) (y : Int32) (b : Nat) : Int32 := lgC (goF g b) y (legK s g b)
theorem legK_b {s : Int32} {g : Nat → Int32} {b : Nat} (h : GV g) (hb : b ≤ 7) (hs : inP s 1 12) : wayF g (hx g) b + s = nI (legK s g b) ∧ legK s g b ≤ 82 := by
  obtain ⟨m, hm, hm2⟩ := wayF_b h.2.1 h.2.2.2 hb
  obtain ⟨t, rfl, ht⟩ := i32_le (m := 12) (by omega) (Int32.le_trans (by decide) hs.1) hs.2
  unfold legK
  rw [hm, nI_add, nI_clamp (by omega)]
  exact ⟨rfl, by omega⟩
theorem GV_legV {s : Int32} {g : Nat → Int32} {b : Nat} (h : GV g) (hb : b ≤ 7) : GV (legV s g b) := GV_passN (GV_goF h hb) _
theorem nh_legV {s : Int32} {g : Nat → Int32} {b : Nat} : nh (legV s g b) = nh g := by unfold legV; rw [nh_passN, nh_goF]
/-- a round over the houses h 0, h 1, .. -/
def rnV (s : Int32) (h : Nat → Nat) (f : Nat → Int32) : Nat → Nat → Int32
  | 0 => f
  | i + 1 => legV s (rnV s h f i) (h i)
def rnA (s : Int32) (h : Nat → Nat) (f : Nat → Int32) (a : Int32) : Nat → Int32
  | 0 => a
  | i + 1 => legA s (rnV s h f i) (rnA s h f a i) (h i)
def rnC (s : Int32) (h : Nat → Nat) (f : Nat → Int32) (y : Int32) : Nat → Int32
  | 0 => y
  | i + 1 => legC s (rnV s h f i) (rnC s h f y i) (h i)
theorem GV_rnV {s : Int32} {h : Nat → Nat} {f : Nat → Int32} (g : GV f) : ∀ i, (∀ j, j < i → h j ≤ 7) → GV (rnV s h f i) := by
  intro i
  induction i with
  | zero => intro _; exact g
  | succ i ih => intro q; exact GV_legV (ih (fun j hj => q j (by omega))) (q i (by omega))
theorem nh_rnV {s : Int32} {h : Nat → Nat} {f : Nat → Int32} : ∀ i, nh (rnV s h f i) = nh f := by
  intro i
  induction i with
  | zero => rfl
  | succ i ih => exact nh_legV.trans ih
/-- the cells of trials: villages 2 to 4, every village's least, the reader -/
abbrev TR (c : Nat) : Prop := (2 ≤ c ∧ c ≤ 9) ∨ c = 64
def EqX (σ u : Sg) : Prop := ∀ c, ¬ TR c → u c = σ c
theorem EqX.rf (σ : Sg) : EqX σ σ := fun _ _ => rfl
theorem EqX.put {σ u : Sg} (h : EqX σ u) {c : Nat} {f : Nat → Int32} (hc : TR c) : EqX σ (us u c f) := fun c' h' => by
  have e : c' ≠ c := fun e => h' (by rw [e]; exact hc)
  rw [us_n e]; exact h c' h'
theorem EqX.tr {σ u w : Sg} (h : EqX σ u) (h2 : EqX u w) : EqX σ w := fun c hc => (h2 c hc).trans (h c hc)
theorem EqX.z {σ u : Sg} (h : EqX σ u) : u 0 = σ 0 := h 0 (by omega)
/-- both sides of one change -/
theorem EqX.both {σ u : Sg} (h : EqX σ u) {c : Nat} {f : Nat → Int32} : EqX (us σ c f) (us u c f) := fun c' h' => by
  by_cases e : c' = c
  · subst e; rw [us_s, us_s]
  · rw [us_n e, us_n e]; exact h c' h'
/-- an act's answer: a finding, or a number -/
abbrev Rs : Type := Nat ⊕ Int32
def rsI : Rs → Int32
  | .inl j => -1000001 - nI j
  | .inr v => v
def rsT (t : Nat → Int32) : Rs → Nat → Int32
  | .inl j => upd t j (t j + 1)
  | .inr _ => t
