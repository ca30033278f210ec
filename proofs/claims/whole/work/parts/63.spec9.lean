/-! the text: tokens, words, numbers, items, as the document tells them; shared by both sides -/
abbrev isLT (b : Int32) : Prop := 97 ≤ b ∧ b ≤ 122
abbrev isDT (b : Int32) : Prop := 48 ≤ b ∧ b ≤ 57
/-- the byte at k; behind the tape's end there is none -/
def bAT (t : Nat → Int32) (n k : Nat) : Int32 := if k < n then t k else -1
theorem bAT_in {t : Nat → Int32} {n k : Nat} (h : k < n) : bAT t n k = t k := if_pos h
theorem bAT_out {t : Nat → Int32} {n k : Nat} (h : ¬ k < n) : bAT t n k = -1 := if_neg h
theorem bAT_L {t : Nat → Int32} {n k : Nat} : isLT (bAT t n k) ↔ k < n ∧ isLT (t k) := by
  by_cases h : k < n
  · rw [bAT_in h]; exact ⟨fun q => ⟨h, q⟩, fun q => q.2⟩
  · rw [bAT_out h]; exact ⟨fun q => absurd q (by decide), fun q => absurd q.1 h⟩
theorem bAT_D {t : Nat → Int32} {n k : Nat} : isDT (bAT t n k) ↔ k < n ∧ isDT (t k) := by
  by_cases h : k < n
  · rw [bAT_in h]; exact ⟨fun q => ⟨h, q⟩, fun q => q.2⟩
  · rw [bAT_out h]; exact ⟨fun q => absurd q (by decide), fun q => absurd q.1 h⟩
theorem bAT_c {t : Nat → Int32} {n k : Nat} {c : Int32} (hc : c ≠ -1) : bAT t n k = c ↔ k < n ∧ t k = c := by
  by_cases h : k < n
  · rw [bAT_in h]; exact ⟨fun q => ⟨h, q⟩, fun q => q.2⟩
  · rw [bAT_out h]; exact ⟨fun q => absurd q.symm hc, fun q => absurd q.1 h⟩
theorem not_LD {b : Int32} (h : isLT b) : ¬ isDT b := fun q => absurd (Int32.le_trans h.1 q.2) (by decide)
theorem not_L32 {b : Int32} (h : isLT b) : b ≠ 32 := fun q => by rw [q] at h; exact absurd h (by decide)
/-- how far a run reaches -/
def runT (p : Int32 → Bool) (t : Nat → Int32) (n : Nat) : Nat → Nat → Nat
  | 0, s => s
  | f + 1, s => if s < n ∧ p (t s) = true then runT p t n f (s + 1) else s
def rnT (p : Int32 → Bool) (t : Nat → Int32) (n s : Nat) : Nat := runT p t n (n - s) s
theorem rnT_s {p : Int32 → Bool} {t : Nat → Int32} {n s : Nat} (h : s < n) (hp : p (t s) = true) : rnT p t n s = rnT p t n (s + 1) := by
  unfold rnT
  rw [show n - s = (n - (s + 1)) + 1 by omega]
  show (if s < n ∧ p (t s) = true then _ else _) = _
  rw [if_pos ⟨h, hp⟩]
theorem rnT_k {p : Int32 → Bool} {t : Nat → Int32} {n s : Nat} (h : ¬ (s < n ∧ p (t s) = true)) : rnT p t n s = s := by
  unfold rnT
  by_cases c : s < n
  · rw [show n - s = (n - (s + 1)) + 1 by omega]
    show (if s < n ∧ p (t s) = true then _ else _) = _
    rw [if_neg h]
  · rw [show n - s = 0 by omega]; rfl
theorem rnT_all {p : Int32 → Bool} {t : Nat → Int32} {n : Nat} : ∀ (d s : Nat), n - s = d → s ≤ rnT p t n s ∧ (s ≤ n → rnT p t n s ≤ n) ∧ (∀ k, s ≤ k → k < rnT p t n s → k < n ∧ p (t k) = true) ∧ ¬ (rnT p t n s < n ∧ p (t (rnT p t n s)) = true) := by
  intro d
  induction d with
  | zero =>
    intro s h
    rw [rnT_k (fun q => by omega)]
    exact ⟨Nat.le_refl _, fun q => q, fun k h1 h2 => by omega, fun q => by omega⟩
  | succ d ih =>
    intro s h
    by_cases c : s < n ∧ p (t s) = true
    · rw [rnT_s c.1 c.2]
      obtain ⟨h1, h2, h3, h4⟩ := ih (s + 1) (by omega)
      refine ⟨by omega, fun q => h2 (by omega), fun k q1 q2 => ?_, h4⟩
      by_cases e : k = s
      · subst e; exact c
      · exact h3 k (by omega) q2
    · rw [rnT_k c]
      exact ⟨Nat.le_refl _, fun q => q, fun k h1 h2 => by omega, c⟩
theorem rnT_ge {p : Int32 → Bool} {t : Nat → Int32} {n s : Nat} : s ≤ rnT p t n s := (rnT_all _ s rfl).1
theorem rnT_le {p : Int32 → Bool} {t : Nat → Int32} {n s : Nat} (h : s ≤ n) : rnT p t n s ≤ n := (rnT_all _ s rfl).2.1 h
theorem rnT_mid {p : Int32 → Bool} {t : Nat → Int32} {n s k : Nat} (h1 : s ≤ k) (h2 : k < rnT p t n s) : k < n ∧ p (t k) = true := (rnT_all _ s rfl).2.2.1 k h1 h2
theorem rnT_end {p : Int32 → Bool} {t : Nat → Int32} {n s : Nat} : ¬ (rnT p t n s < n ∧ p (t (rnT p t n s)) = true) := (rnT_all _ s rfl).2.2.2
def lpT (b : Int32) : Bool := decide (isLT b)
def dpT (b : Int32) : Bool := decide (isDT b)
def bpT (b : Int32) : Bool := decide (b = 32)
theorem lpT_t {b : Int32} : lpT b = true ↔ isLT b := decide_eq_true_iff
theorem dpT_t {b : Int32} : dpT b = true ↔ isDT b := decide_eq_true_iff
theorem bpT_t {b : Int32} : bpT b = true ↔ b = 32 := decide_eq_true_iff
/-- behind the blanks -/
def skT (t : Nat → Int32) (n s : Nat) : Nat := rnT bpT t n s
/-- the end of the token that begins at s -/
def enT (t : Nat → Int32) (n s : Nat) : Nat := if s < n then (if isLT (t s) then rnT lpT t n s else if isDT (t s) then rnT dpT t n s else s + 1) else s
/-- the next token -/
def nxT (t : Nat → Int32) (n s : Nat) : Nat := skT t n (enT t n s)
theorem skT_ge {t : Nat → Int32} {n s : Nat} : s ≤ skT t n s := rnT_ge
theorem skT_le {t : Nat → Int32} {n s : Nat} (h : s ≤ n) : skT t n s ≤ n := rnT_le h
theorem enT_le {t : Nat → Int32} {n s : Nat} (h : s ≤ n) : enT t n s ≤ n := by
  unfold enT
  by_cases c : s < n
  · rw [if_pos c]
    by_cases c1 : isLT (t s)
    · rw [if_pos c1]; exact rnT_le h
    · rw [if_neg c1]
      by_cases c2 : isDT (t s)
      · rw [if_pos c2]; exact rnT_le h
      · rw [if_neg c2]; omega
  · rw [if_neg c]; exact h
theorem enT_L {t : Nat → Int32} {n s : Nat} (h : s < n) (hl : isLT (t s)) : enT t n s = rnT lpT t n (s + 1) := by
  unfold enT
  rw [if_pos h, if_pos hl]; exact rnT_s h (lpT_t.mpr hl)
theorem enT_D {t : Nat → Int32} {n s : Nat} (h : s < n) (hl : isDT (t s)) : enT t n s = rnT dpT t n (s + 1) := by
  unfold enT
  rw [if_pos h, if_neg (fun q => not_LD q hl), if_pos hl]; exact rnT_s h (dpT_t.mpr hl)
theorem enT_S {t : Nat → Int32} {n s : Nat} (h : s < n) (h1 : ¬ isLT (t s)) (h2 : ¬ isDT (t s)) : enT t n s = s + 1 := by
  unfold enT
  rw [if_pos h, if_neg h1, if_neg h2]
theorem enT_0 {t : Nat → Int32} {n s : Nat} (h : ¬ s < n) : enT t n s = s := if_neg h
theorem enT_gt {t : Nat → Int32} {n s : Nat} (h : s < n) : s < enT t n s := by
  by_cases c1 : isLT (t s)
  · rw [enT_L h c1]; exact Nat.lt_of_lt_of_le (Nat.lt_succ_self s) rnT_ge
  · by_cases c2 : isDT (t s)
    · rw [enT_D h c2]; exact Nat.lt_of_lt_of_le (Nat.lt_succ_self s) rnT_ge
    · rw [enT_S h c1 c2]; omega
theorem enT_ge {t : Nat → Int32} {n s : Nat} : s ≤ enT t n s := by
  by_cases h : s < n
  · exact Nat.le_of_lt (enT_gt h)
  · rw [enT_0 h]; exact Nat.le_refl _
theorem enT_mL {t : Nat → Int32} {n s k : Nat} (h : s < n) (hl : isLT (t s)) (h1 : s ≤ k) (h2 : k < enT t n s) : k < n ∧ isLT (t k) := by
  rw [enT_L h hl, ← rnT_s h (lpT_t.mpr hl)] at h2
  have := rnT_mid h1 h2
  exact ⟨this.1, lpT_t.mp this.2⟩
theorem enT_mD {t : Nat → Int32} {n s k : Nat} (h : s < n) (hl : isDT (t s)) (h1 : s ≤ k) (h2 : k < enT t n s) : k < n ∧ isDT (t k) := by
  rw [enT_D h hl, ← rnT_s h (dpT_t.mpr hl)] at h2
  have := rnT_mid h1 h2
  exact ⟨this.1, dpT_t.mp this.2⟩
theorem nxT_le {t : Nat → Int32} {n s : Nat} (h : s ≤ n) : nxT t n s ≤ n := skT_le (enT_le h)
theorem nxT_gt {t : Nat → Int32} {n s : Nat} (h : s < n) : s < nxT t n s := Nat.lt_of_lt_of_le (enT_gt h) skT_ge
/-- a digit's number, as far as the reference counts -/
def dgT (b : Int32) : Nat := b.toNatClampNeg - 48
theorem dgT_b {b : Int32} (h : isDT b) : dgT b ≤ 9 ∧ b = nI (48 + dgT b) := by
  obtain ⟨k, rfl, hk⟩ := i32_le (m := 57) (by omega) (Int32.le_trans (by decide) h.1) h.2
  have h1 := (nI_leI (a := 48) (b := k) (by omega) (by omega)).mp h.1
  unfold dgT
  rw [nI_clamp (by omega)]
  exact ⟨by omega, by congr 1; omega⟩
def vfT (t : Nat → Int32) (s : Nat) : Nat → Nat
  | 0 => 0
  | k + 1 => if 999 < vfT t s k then vfT t s k else 10 * vfT t s k + dgT (t (s + k))
/-- the number that stands at s -/
def vlT (t : Nat → Int32) (n s : Nat) : Nat := vfT t s (enT t n s - s)
theorem vfT_le {t : Nat → Int32} {s e : Nat} (h : ∀ k, s ≤ k → k < e → isDT (t k)) : ∀ k, s + k ≤ e → vfT t s k ≤ 9999 := by
  intro k
  induction k with
  | zero => intro _; exact Nat.zero_le _
  | succ k ih =>
    intro hk
    have h1 := ih (by omega)
    have h2 := (dgT_b (h (s + k) (by omega) (by omega))).1
    show (if 999 < vfT t s k then vfT t s k else 10 * vfT t s k + dgT (t (s + k))) ≤ 9999
    split <;> omega
theorem vlT_le {t : Nat → Int32} {n s : Nat} (h : s < n) (hd : isDT (t s)) : vlT t n s ≤ 9999 :=
  vfT_le (e := enT t n s) (fun k h1 h2 => (enT_mD h hd h1 h2).2) _ (by have := enT_ge (t := t) (n := n) (s := s); omega)
/-- the number as the class counts it -/
def vcT (t : Nat → Int32) (s : Nat) : Nat → Nat
  | 0 => 0
  | k + 1 => min 1000 (10 * vcT t s k + dgT (t (s + k)))
theorem vcT_eq {t : Nat → Int32} {s e : Nat} (h : ∀ k, s ≤ k → k < e → isDT (t k)) : ∀ k, s + k ≤ e → vcT t s k = min 1000 (vfT t s k) := by
  intro k
  induction k with
  | zero => intro _; rfl
  | succ k ih =>
    intro hk
    have h2 := (dgT_b (h (s + k) (by omega) (by omega))).1
    show min 1000 (10 * vcT t s k + dgT (t (s + k))) = min 1000 (if 999 < vfT t s k then vfT t s k else 10 * vfT t s k + dgT (t (s + k)))
    rw [ih (by omega)]
    split <;> omega
/-- the word i of the literals stands at s -/
def wdB (t : Nat → Int32) (n i s : Nat) : Bool := decide ((s < n ∧ isLT (t s)) ∧ enT t n s - s = lenTx.getD i 0 ∧ ∀ j, j < lenTx.getD i 0 → t (s + j) = chT i j)
abbrev wdT (t : Nat → Int32) (n i s : Nat) : Prop := wdB t n i s = true
theorem wdT_i {t : Nat → Int32} {n i s : Nat} : wdT t n i s ↔ (s < n ∧ isLT (t s)) ∧ enT t n s - s = lenTx.getD i 0 ∧ ∀ j, j < lenTx.getD i 0 → t (s + j) = chT i j := decide_eq_true_iff

/-- a number from lo to hi stands at s -/
def nmB (t : Nat → Int32) (n lo hi s : Nat) : Bool := decide ((s < n ∧ isDT (t s)) ∧ lo ≤ vlT t n s ∧ vlT t n s ≤ hi)
abbrev nmT (t : Nat → Int32) (n lo hi s : Nat) : Prop := nmB t n lo hi s = true
theorem nmT_i {t : Nat → Int32} {n lo hi s : Nat} : nmT t n lo hi s ↔ (s < n ∧ isDT (t s)) ∧ lo ≤ vlT t n s ∧ vlT t n s ≤ hi := decide_eq_true_iff
def kdT (t : Nat → Int32) (n s : Nat) : Int32 := if wdT t n 0 s then 0 else if wdT t n 1 s then 1 else if wdT t n 2 s then 2 else if wdT t n 3 s then 3 else if wdT t n 4 s then 4 else if wdT t n 5 s then 5 else if wdT t n 6 s then 6 else -1
/-- a part that may be left out: the fault's place, or where it goes on and the number -/
def ptT (t : Nat → Int32) (n i lo hi : Nat) (d : Int32) (s : Nat) : Nat ⊕ (Nat × Int32) := if wdT t n i s then (if nmT t n lo hi (nxT t n s) then .inr (nxT t n (nxT t n s), nI (vlT t n (nxT t n s))) else .inl (nxT t n s)) else .inr (s, d)
def bdT {α β : Type} (x : Nat ⊕ α) (f : α → Nat ⊕ β) : Nat ⊕ β := match x with
  | .inl p => .inl p
  | .inr a => f a
def hsT (t : Nat → Int32) (n : Nat) (k : Int32) (s : Nat) (r : Nat → Int32) : Nat ⊕ (Nat × (Nat → Int32)) := if nh r < 8 then bdT (ptT t n 7 0 400 100 (nxT t n s)) fun a => bdT (ptT t n 8 1 40 10 a.1) fun b => bdT (ptT t n 9 0 99 8 b.1) fun c => bdT (ptT t n 10 0 400 60 c.1) fun d => .inr (d.1, nwF r k a.2 b.2 c.2 d.2) else .inl s
def spT (t : Nat → Int32) (n s : Nat) (r : Nat → Int32) : Nat ⊕ (Nat × (Nat → Int32)) := if nmT t n 0 6 (nxT t n s) then (if nmT t n 0 9 (nxT t n (nxT t n s)) then .inr (nxT t n (nxT t n (nxT t n s)), upd r (8 + vlT t n (nxT t n s)) (nI (vlT t n (nxT t n (nxT t n s))))) else .inl (nxT t n (nxT t n s))) else .inl (nxT t n s)
def ouT (t : Nat → Int32) (n s : Nat) (r : Nat → Int32) : Nat ⊕ (Nat × (Nat → Int32)) := if nmT t n 0 100 (nxT t n s) then .inr (nxT t n (nxT t n s), upd r 6 (nI (vlT t n (nxT t n s)))) else .inl (nxT t n s)
def itT (t : Nat → Int32) (n s : Nat) (r : Nat → Int32) : Nat ⊕ (Nat × (Nat → Int32)) :=
  if 0 ≤ kdT t n s then hsT t n (kdT t n s) s r else if wdT t n 11 s then spT t n s r else if wdT t n 12 s then ouT t n s r else if wdT t n 13 s then .inr (nxT t n s, upd r 5 1) else if wdT t n 14 s then .inr (nxT t n s, upd r 5 0) else .inl s
/-- what stands behind an item: the text's end, or a sign and the next item -/
def txT (t : Nat → Int32) (n : Nat) : Nat → Nat → Nat → (Nat → Int32) → Nat ⊕ (Nat × (Nat → Int32))
  | 0, _, s, _ => .inl s
  | f + 1, c, s, r => bdT (itT t n s r) fun a => if a.1 < n then (if t a.1 = 59 then txT t n f (c + 1) (nxT t n a.1) a.2 else .inl a.1) else .inr (c, a.2)
def S_text (t : Nat → Int32) (n : Nat) (r : Nat → Int32) : Nat ⊕ (Nat × (Nat → Int32)) := txT t n 121 1 (skT t n 0) r
