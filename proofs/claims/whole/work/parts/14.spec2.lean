/-! one village by its row of numbers -/
abbrev isH (f : Nat → Int32) (h : Int32) : Prop := 0 ≤ h ∧ h < f 1
def hx (f : Nat → Int32) : Nat := (f 2).toNatClampNeg
abbrev canB (f : Nat → Int32) : Prop := isH f (f 2) ∧ ¬ 0 < f 3 ∧ burnsV (hf f (hx f) 0) ≤ hf f (hx f) 3
def getF (f : Nat → Int32) (j : Nat) (b : Int32) : Nat → Int32 := if hf f j 0 = 1 ∨ hf f j 0 = 3 then uh f j 1 (warmV (hf f j 1) (b / 4)) else f
def burnF (f : Nat → Int32) (h : Nat) : Nat → Int32 :=
  let b := heatsV (hf f h 0) (hf f h 1)
  let f3 := uh (upd (uh f h 3 (hf f h 3 - burnsV (hf f h 0))) 4 (f 4 + burnsV (hf f h 0))) h 1 (warmV (hf f h 1) b)
  let f4 := if 1 ≤ h then getF f3 (h - 1) b else f3
  if h + 1 < nh f then getF f4 (h + 1) b else f4
def coolN : Nat → (Nat → Int32) → Nat → Int32
  | 0, f => f
  | i + 1, f => uh (coolN i f) i 1 (coolV (hf (coolN i f) i 1) (losesV (hf (coolN i f) i 0) (hf (coolN i f) i 1) (hf (coolN i f) i 2) (coolN i f 6)))
def brdF (p : Prop) [Decidable p] (f : Nat → Int32) (h : Nat) : Nat → Int32 := if p ∧ 180 ≤ hf f h 1 then uh f h 5 (hf f h 5 + 1) else f
def tickF (f : Nat → Int32) : Nat → Int32 :=
  let g := if 0 < f 3 then upd f 3 (f 3 - 1) else f
  upd g 0 (g 0 + 1)
/-- a quarter; whether the stove burns is told -/
def qF (p : Prop) [Decidable p] (f : Nat → Int32) : Nat → Int32 := tickF (brdF p (coolN (nh f) (if p then burnF f (hx f) else f)) (hx f))
def quarterF (f : Nat → Int32) : Nat → Int32 := qF (canB f) f
def passN : Nat → (Nat → Int32) → Nat → Int32
  | 0, f => f
  | n + 1, f => quarterF (passN n f)
def wayN (f : Nat → Int32) (lo : Nat) : Nat → Int32
  | 0 => 0
  | n + 1 => wayN f lo n + (f (8 + (lo + n)) + f 5)
def wayF (f : Nat → Int32) (a b : Nat) : Int32 := wayN f (min a b) (max a b - min a b)
def goF (f : Nat → Int32) (b : Nat) : Nat → Int32 := upd (upd f 3 (wayF f (hx f) b)) 2 (nI b)
def setN (f : Nat → Int32) : Nat → Int32
  | 0 => 0
  | i + 1 => if coldV (hf f i 0) (hf f i 1) (hf f i 4) then setN f i ||| ((1 : Int32) <<< (nI i &&& 31)) else setN f i
def setF (f : Nat → Int32) : Int32 := setN f (nh f)
def lstN (f : Nat → Int32) (a : Int32) : Nat → Int32
  | 0 => a
  | i + 1 => if ¬ hf f i 0 = 4 ∧ hf f i 1 < lstN f a i then hf f i 1 else lstN f a i
def lstF (f : Nat → Int32) : Int32 := lstN f 400 (nh f)
def sumN (f : Nat → Int32) (j : Nat) : Nat → Int32
  | 0 => 0
  | i + 1 => sumN f j i + hf f i j
def sumF (f : Nat → Int32) (j : Nat) : Int32 := sumN f j (nh f)
def heldN (f : Nat → Int32) : Nat → Int32
  | 0 => 0
  | i + 1 => if f (63 + i) = -1 then heldN f i else heldN f i + 1
/-- is a house cold of the first n -/
def chlN (f : Nat → Int32) : Nat → Prop
  | 0 => False
  | i + 1 => chlN f i ∨ coldV (hf f i 0) (hf f i 1) (hf f i 4)
def drawF (f : Nat → Int32) : Nat → Int32 := upd f 7 (f 7 * 1103515245 + 12345)
theorem coolN_lo {f : Nat → Int32} {k : Nat} (h : k < 15) : ∀ i, coolN i f k = f k := by
  intro i
  induction i with
  | zero => rfl
  | succ i ih => show uh _ _ _ _ k = f k; rw [uh_lo h, ih]
theorem coolN_nh {f : Nat → Int32} (i : Nat) : nh (coolN i f) = nh f := by unfold nh; rw [coolN_lo (by omega)]
theorem coolN_hf {f : Nat → Int32} {a j : Nat} (hj : j ≠ 1) (hj6 : j < 6) : ∀ i, hf (coolN i f) a j = hf f a j := by
  intro i
  induction i with
  | zero => rfl
  | succ i ih => show hf (uh _ _ _ _) a j = hf f a j; rw [hf_uh_n (by omega) (by omega) hj6, ih]
theorem hx_uh {f : Nat → Int32} {i j : Nat} {y : Int32} : hx (uh f i j y) = hx f := by unfold hx; rw [uh_lo (by omega)]
theorem hx_upd {f : Nat → Int32} {k : Nat} {y : Int32} (h : k ≠ 2) : hx (upd f k y) = hx f := by unfold hx; rw [upd_n (Ne.symm h)]
theorem hx_coolN {f : Nat → Int32} (i : Nat) : hx (coolN i f) = hx f := by unfold hx; rw [coolN_lo (by omega)]
/-- what keeps a village's numbers in their bounds -/
def InH (f : Nat → Int32) (i : Nat) : Prop := (0 ≤ hf f i 1 ∧ hf f i 1 ≤ 400) ∧ (1 ≤ hf f i 2 ∧ hf f i 2 ≤ 40) ∧ (0 ≤ hf f i 3 ∧ hf f i 3 ≤ 99) ∧ (0 ≤ hf f i 4 ∧ hf f i 4 ≤ 400)
def Inv (f : Nat → Int32) : Prop := Can f ∧ (∀ i, i < nh f → InH f i) ∧ 0 ≤ f 3 ∧ 0 ≤ f 6 ∧ f 6 ≤ 100
theorem isH_of {f : Nat → Int32} {h : Int32} (hc : Can f) (q : isH f h) : ∃ i, i < nh f ∧ h = nI i ∧ i < 8 := by
  obtain ⟨j, hj, rfl⟩ := nI_of (x := h) (Int32.not_lt.mpr q.1)
  have h2 := q.2
  rw [hc.1] at h2
  have := (nI_ltI hj (by have := hc.2.1; omega)).mp h2
  have := hc.2.1
  exact ⟨j, by omega, rfl, by omega⟩
theorem isH_nI {f : Nat → Int32} {i : Nat} (hc : Can f) (hi : i < 2 ^ 31) : isH f (nI i) ↔ i < nh f := by
  have := hc.2.1
  constructor
  · intro q
    have h2 := q.2
    rw [hc.1] at h2
    exact (nI_ltI hi (by omega)).mp h2
  · intro q
    exact ⟨nI_pos' (by omega), by rw [hc.1]; exact nI_lt q (by omega)⟩
