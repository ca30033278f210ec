/-! THE ACTS, on a village's row f: what is answered (a finding or a number); what f becomes stands beside -/
abbrev hk (h : Int32) : Nat := h.toNatClampNeg
def nsF (f g : Nat → Int32) : Rs → Nat → Int32
  | .inl _ => f
  | .inr _ => g
def ofV (f : Nat → Int32) (i : Nat) (w : Int32) : Int32 := if w = 0 then hf f i 0 else if w = 1 then hf f i 1 else if w = 2 then hf f i 2 else if w = 3 then hf f i 3 else if w = 4 then hf f i 4 else if w = 5 then hf f i 5 else if w = 6 then heatsV (hf f i 0) (hf f i 1) else if w = 7 then losesV (hf f i 0) (hf f i 1) (hf f i 2) (f 6) else burnsV (hf f i 0)
def S_house (f : Nat → Int32) (k : Int32) : Rs := if inP k 0 6 then (if nh f < 8 then .inr (nI (nh f)) else .inl 1) else .inl 0
def S_of (f : Nat → Int32) (h w : Int32) : Rs := if isH f h then (if inP w 0 8 then .inr (ofV f (hk h) w) else .inl 0) else .inl 0
def S_change (f : Nat → Int32) (h w v : Int32) : Rs := if isH f h then (if inP w 0 4 then (if inP v (loV w) (hiV w) then .inr (hf f (hk h) (hk w)) else .inl 0) else .inl 0) else .inl 0
def S_steep (f : Nat → Int32) (i v : Int32) : Rs := if inP i 0 6 then (if inP v 0 9 then .inr (f (8 + hk i)) else .inl 0) else .inl 0
def S_weather (f : Nat → Int32) (w v : Int32) : Rs := if w = 0 then (if inP v 0 1 then .inr (f 5) else .inl 0) else if w = 1 then (if inP v 0 100 then .inr (f 6) else .inl 0) else .inl 0
def N_weather (f : Nat → Int32) (w v : Int32) : Nat → Int32 := upd f (if w = 0 then 5 else 6) v
def S_lend (f : Nat → Int32) (a b v : Int32) : Rs := if isH f a then (if isH f b then (if a = b then .inl 0 else if inP v 1 99 then (if hf f (hk a) 3 < v then .inl 4 else if hf f (hk b) 3 + v ≤ 99 then .inr (hf f (hk b) 3 + v) else .inl 4) else .inl 0) else .inl 0) else .inl 0
def N_lend (f : Nat → Int32) (a b : Nat) (v : Int32) : Nat → Int32 := uh (uh f a 3 (hf f a 3 - v)) b 3 (hf f b 3 + v)
def S_way (f : Nat → Int32) (a b : Int32) : Rs := if isH f a then (if isH f b then .inr (wayF f (hk a) (hk b)) else .inl 0) else .inl 0
def S_send (f : Nat → Int32) (h : Int32) : Rs := if isH f h then (if 0 < f 3 then .inl 4 else .inr (wayF f (hx f) (hk h))) else .inl 0
def S_quarters (f : Nat → Int32) (n : Int32) : Rs := if inP n 1 96 then (if 9999 - n < f 0 then .inl 4 else .inr (sumF (passN (hk n) f) 5 - sumF f 5)) else .inl 0
def S_now (f : Nat → Int32) (w : Int32) : Rs := if w = 0 then .inr (f 0) else if w = 1 then .inr (f 2) else if w = 2 then .inr (f 3) else if w = 3 then .inr (setF f) else if w = 4 then .inr (f 4) else if w = 5 then .inr (f 5) else if w = 6 then .inr (f 6) else .inl 0
def aheadV (f g : Nat → Int32) (w : Int32) : Int32 := if w = 0 then setF g else if w = 1 then lstF g else if w = 2 then g 4 - f 4 else if w = 3 then sumF g 5 - sumF f 5 else hf g (hk (w - 4)) 1
def S_ahead (f : Nat → Int32) (n w : Int32) : Rs := if inP n 0 96 then (if inP w 0 (3 + f 1) then (if 9999 - n < f 0 then .inl 4 else .inr (aheadV f (passN (hk n) f) w)) else .inl 0) else .inl 0
/-- the first of m numbers from i on -/
def fstN (p : Nat → Bool) : Nat → Nat → Option Nat
  | 0, _ => none
  | m + 1, i => if p i = true then some i else fstN p m (i + 1)
def rsO : Option Nat → Rs
  | some n => .inr (nI n)
  | none => .inl 3
def cldF (f : Nat → Int32) (i : Nat) : Bool := decide (coldV (hf f i 0) (hf f i 1) (hf f i 4))
def S_cold (f : Nat → Int32) (h : Int32) : Rs := if isH f h then (if 9999 - 96 < f 0 then .inl 4 else rsO (fstN (fun n => cldF (passN n f) (hk h)) 97 0)) else .inl 0
def S_bake (f : Nat → Int32) (h : Int32) : Rs := if isH f h then (if 0 < f 3 ∨ f 1 = 0 ∨ 9903 < f 0 then .inl 4 else rsO (fstN (fun n => decide (hf f (hk h) 5 < hf (passN n (goF f (hk h))) (hk h) 5)) 97 0)) else .inl 0
/-- the greatest of g 0, g 1, .. and where it stands first -/
def amax (g : Nat → Int32) : Nat → Int32 × Int32
  | 0 => (0, -1)
  | i + 1 => if (amax g i).2 < g i then (nI i, g i) else amax g i
def S_best (f : Nat → Int32) (n : Int32) : Rs := if inP n 1 96 then (if 0 < f 3 ∨ f 1 = 0 ∨ 9999 - n < f 0 then .inl 4 else .inr (amax (fun i => lstF (passN (hk n) (goF f i))) (nh f)).1) else .inl 0
def andN (g : Nat → Int32) : Nat → Int32
  | 0 => -1
  | i + 1 => andN g i &&& g i
def S_lost (f : Nat → Int32) (n : Int32) : Rs := if inP n 1 96 then (if 0 < f 3 ∨ f 1 = 0 ∨ 9999 - n < f 0 then .inl 4 else .inr (andN (fun i => setF (passN (hk n) (goF f i))) (nh f))) else .inl 0
def stayP (f : Nat → Int32) (i n k : Nat) : Bool := !cldF (passN n (upd (passN k (passN (hk (wayF f (hx f) i)) (goF f i))) 2 (-1))) i
def S_stay (f : Nat → Int32) (h n : Int32) : Rs := if isH f h then (if inP n 0 40 then (if 0 < f 3 ∨ f 1 = 0 ∨ 9800 < f 0 then .inl 4 else rsO (fstN (stayP f (hk h) (hk n)) 49 0)) else .inl 0) else .inl 0
def lstP (f : Nat → Int32) (i j n v : Nat) : Bool := !cldF (passN n (uh f i j (nI v))) i
def S_logs (f : Nat → Int32) (h n : Int32) : Rs := if isH f h then (if inP n 1 96 then (if 9999 - n < f 0 then .inl 4 else rsO (fstN (lstP f (hk h) 3 (hk n)) 100 0)) else .inl 0) else .inl 0
def S_wall (f : Nat → Int32) (h n : Int32) : Rs := if isH f h then (if inP n 1 96 then (if 9999 - n < f 0 then .inl 4 else rsO (fstN (lstP f (hk h) 2 (hk n)) 40 1)) else .inl 0) else .inl 0
def wal5 (w : Int32) : Int32 := if w + 5 < 40 then w + 5 else 40
def S_straw (f : Nat → Int32) (n : Int32) : Rs := if inP n 1 96 then (if f 1 = 0 then .inl 4 else if 9999 - n < f 0 then .inl 4 else .inr (amax (fun i => lstF (passN (hk n) (uh f i 2 (wal5 (hf f i 2))))) (nh f)).1) else .inl 0
def S_kindFor (f : Nat → Int32) (h n : Int32) : Rs := if isH f h then (if inP n 1 96 then (if 9999 - n < f 0 then .inl 4 else .inr (amax (fun k => hf (passN (hk n) (uh f (hk h) 0 (nI k))) (hk h) 1) 7).1) else .inl 0) else .inl 0
def S_round (f : Nat → Int32) (s : Int32) : Rs := if inP s 1 12 then (if 0 < f 3 ∨ f 1 = 0 ∨ 9700 < f 0 then .inl 4 else .inr (rnA s id f 400 (nh f))) else .inl 0
def S_takes (f : Nat → Int32) (s : Int32) : Rs := if inP s 1 12 then (if 0 < f 3 ∨ f 1 = 0 ∨ 9700 < f 0 then .inl 4 else .inr (rnV s id f (nh f) 0 - f 0)) else .inl 0
def S_pace (f : Nat → Int32) : Rs := if 0 < f 3 ∨ f 1 = 0 ∨ 9700 < f 0 then .inl 4 else .inr ((amax (fun k => rnA (nI (k+1)) id f 400 (nh f)) 12).1 + 1)
def swN (f : Nat → Int32) (i : Nat) : Nat → Int32
  | 0 => 0
  | j + 1 => swN f i j + wayF f i j
def amin (g : Nat → Int32) : Nat → Int32 × Int32
  | 0 => (0, -1)
  | i + 1 => if (amin g i).2 < 0 ∨ g i < (amin g i).2 then (nI i, g i) else amin g i
def S_middle (f : Nat → Int32) : Rs := if f 1 = 0 then .inl 3 else .inr (amin (fun i => swN f i (nh f)) (nh f)).1
/-- one call: a draw, the way there, two quarters -/
def callF (f : Nat → Int32) : Nat → Int32 :=
  let g := drawF f
  let r := iush (g 7) 8
  let b := hk (r - r / f 1 * f 1)
  passN (hk (wayF g (hx g) b + 2)) (goF g b)
def callN : Nat → (Nat → Int32) → Nat → Int32
  | 0, f => f
  | i + 1, f => callF (callN i f)
/-- the post of an act of the system -/
def PX (σ : Sg) (S : Rs) (g : Nat → Int32) : Option Value → Sg → Prop := fun r u => r = some (.int (rsI S)) ∧ EqX (us (us σ 0 (nsF (σ 0) g S)) 62 (rsT (σ 62) S)) u
theorem PX_fail {σ u : Sg} {S : Rs} {g : Nat → Int32} {j : Nat} (hS : S = .inl j) (hu : EqX σ u) : PX σ S g (some (.int (-1000001 - nI j))) (us u 62 (upd (u 62) j (u 62 j + 1))) := by
  subst hS
  refine ⟨rfl, ?_⟩
  show EqX (us (us σ 0 (σ 0)) 62 (upd (σ 62) j (σ 62 j + 1))) _
  rw [us_id, hu 62 (by omega)]
  exact hu.both
theorem PX_ok {σ u : Sg} {S : Rs} {g : Nat → Int32} {v : Int32} (hS : S = .inr v) (hu : EqX (us σ 0 g) u) : PX σ S g (some (.int v)) u := by
  subst hS
  refine ⟨rfl, ?_⟩
  show EqX (us (us σ 0 g) 62 (σ 62)) u
  have e : us (us σ 0 g) 62 (σ 62) = us σ 0 g := by
    have q := us_id (us σ 0 g) 62
    rw [us_n (by omega)] at q; exact q
  rw [e]; exact hu
theorem PX_rd {σ u : Sg} {S : Rs} {v : Int32} (hS : S = .inr v) (hu : EqX σ u) : PX σ S (σ 0) (some (.int v)) u := PX_ok hS (by rw [us_id]; exact hu)
theorem hk_nI {i : Nat} (h : i < 8) : hk (nI i) = i := nI_clamp (by omega)
theorem lo_b {f : Nat → Int32} (h : nh f = 8) (hc : Can f) : f 1 = 8 := by rw [hc.1, h]; rfl
