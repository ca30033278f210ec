/-! THE MEMORY: all cells of the system and of the reference, numbered; their contents as one function ρ (cell, slot) -/
abbrev classes : List vw_C := [(RX0, TX0, 2), (RX1, TX1, 6), (RX2, TX2, 7), (RX3, TX3, 3), (RX4, TX4, 2), (RX5, TX5, 13), (RX6, TX6, 2), (RX7, TX7, 0), (RX8, TX8, 11), (RX9, TX9, 26)]
/-- what is fixed: classes' numbers, the array classes of int, House, Sheet, the first address of ours, which wish there is, the cells' addresses, the texts' -/
abbrev En : Type := va_G × ClassId × ClassId × ClassId × Nat × Nat × (Nat → Nat) × (Nat → Nat) × (Nat → Nat)
abbrev eD (E : En) : va_G := E.1
abbrev eI (E : En) : ClassId := E.2.1
abbrev eH (E : En) : ClassId := E.2.2.1
abbrev eS (E : En) : ClassId := E.2.2.2.1
abbrev eB (E : En) : Nat := E.2.2.2.2.1
abbrev eW (E : En) : Nat := E.2.2.2.2.2.1
abbrev ad (E : En) : Nat → Nat := E.2.2.2.2.2.2.1
abbrev eK (E : En) : Nat → Nat := E.2.2.2.2.2.2.2.1
abbrev eV (E : En) : Nat → Nat := E.2.2.2.2.2.2.2.2
def eA (E : En) : Nat → Prop := fun q => eB E ≤ q
abbrev tysE (E : En) : List (ClassId × FieldType) := [(eI E, .int), (eH E, .object RX1), (eS E, .object RX3)]
abbrev Sg : Type := Nat → Nat → Int32
def arI (E : En) (n : Nat) (f : Nat → Int32) : va_E := .inl (eI E, n, .inl f)
/-- a cell by its number and contents -/
def celf (E : En) (c : Nat) (f : Nat → Int32) : va_E :=
  if c < 60 then
    match c % 12 with
    | 0 => .inr (5, [.ref (ad E (c+1)), .ref (ad E (c+2)), .ref (ad E (c+3)), .int (f 3), .int (f 4), .int (f 5), .int (f 6), .int (f 7), .int (f 8), .int (f 9), .int (f 10), .int (f 11), .int (f 12)])
    | 1 => .inl (eH E, 8, .inr (.inr (.inr (.inr (fun i => if i < 8 then some (ad E (c+3+i)) else none)))))
    | 2 => arI E 7 f
    | 3 => arI E 10 f
    | _ => .inr (1, [.int (f 0), .int (f 1), .int (f 2), .int (f 3), .int (f 4), .int (f 5)])
  else
    match c with
    | 60 => .inr (8, [.ref (ad E 0), .ref (ad E 12), .ref (ad E 24), .ref (ad E 36), .ref (ad E 48), .ref (ad E 61), .ref (ad E 62), .ref (ad E 63), .ref (ad E 64), .int (f 9), .int (f 10)])
    | 61 => .inl (eS E, 4, .inr (.inr (.inr (.inr (fun i => if i < 4 then some (ad E (65+i)) else none)))))
    | 62 => arI E 7 f
    | 63 => arI E 120 f
    | 64 => .inr (2, [.ref (ad E 63), .ref (ad E 24), .int (f 2), .int (f 3), .int (f 4), .int (f 5), .int (f 6)])
    | 65 => .inr (3, [.ref (ad E 69), .int (f 1), .int (f 2)])
    | 66 => .inr (3, [.ref (ad E 70), .int (f 1), .int (f 2)])
    | 67 => .inr (3, [.ref (ad E 71), .int (f 1), .int (f 2)])
    | 68 => .inr (3, [.ref (ad E 72), .int (f 1), .int (f 2)])
    | 69 => arI E 40 f
    | 70 => arI E 40 f
    | 71 => arI E 40 f
    | 72 => arI E 40 f
    | 73 => .inr (9, [.ref (ad E 74), .ref (ad E 75), .ref (ad E 76), .ref (ad E 77), .int (f 4), .int (f 5), .int (f 6), .int (f 7), .int (f 8), .int (f 9), .ref (ad E 78), .ref (ad E 79), .int (f 12), .int (f 13), .int (f 14), .int (f 15), .ref (ad E 80), .int (f 17), .int (f 18), .int (f 19), .int (f 20), .int (f 21), .ref (ad E 81), .ref (ad E 82), .ref (ad E 83), .ref (ad E 84)])
    | 74 => arI E 73 f
    | 75 => arI E 73 f
    | 76 => arI E 73 f
    | 77 => arI E 7 f
    | 78 => arI E 146 f
    | 79 => arI E 2 f
    | 80 => arI E 120 f
    | 81 => arI E 4 f
    | 82 => arI E 4 f
    | 83 => arI E 160 f
    | 84 => arI E 40 f
    | _ => match eW E with
      | 1 => .inr (6, [.int (f 0), .int (f 1)])
      | 2 => .inr (4, [.int (f 0), .int (f 1)])
      | 3 => .inr (0, [.ref (ad E 65), .int (f 1)])
      | 4 => .inr (0, [.ref (ad E 66), .int (f 1)])
      | 5 => .inr (0, [.ref (ad E 67), .int (f 1)])
      | _ => .inr (0, [.ref (ad E 68), .int (f 1)])
/-- how many cells there are: the wish is the last -/
def eN (E : En) : Nat := if eW E = 0 then 85 else 86
def wld (E : En) (ρ : Sg) : va_W := (List.range (eN E)).map (fun c => (ad E c, celf E c (ρ c)))
/-- the memory holds ρ, at apart addresses of ours -/
def PR (E : En) (ρ : Sg) (s : State) (H : Heap) : Prop := va_K (eD E) classes (tysE E) s ∧ va_P (eD E) classes (wld E ρ) H ∧ va_D (eA E) (wld E ρ)
/-- one cell's contents anew -/
def us (ρ : Sg) (c : Nat) (f : Nat → Int32) : Sg := fun c' => if c' = c then f else ρ c'
theorem us_s (ρ : Sg) (c : Nat) (f : Nat → Int32) : us ρ c f c = f := if_pos rfl
theorem us_n {ρ : Sg} {c c' : Nat} {f : Nat → Int32} (h : c' ≠ c) : us ρ c f c' = ρ c' := if_neg h
theorem us_us (ρ : Sg) (c : Nat) (f g : Nat → Int32) : us (us ρ c f) c g = us ρ c g := by
  funext c'; unfold us; split <;> rfl
theorem us_id (ρ : Sg) (c : Nat) : us ρ c (ρ c) = ρ := by
  funext c'; unfold us; split
  · rename_i h; rw [h]
  · rfl
theorem wld_get {E : En} {ρ : Sg} {c : Nat} (h : c < eN E) : (wld E ρ)[c]? = some (ad E c, celf E c (ρ c)) := by
  unfold wld
  rw [List.getElem?_map, List.getElem?_range h]
  rfl
theorem wld_set {E : En} {ρ : Sg} {c : Nat} {f : Nat → Int32} (h : c < eN E) : (wld E ρ).set c (ad E c, celf E c f) = wld E (us ρ c f) := by
  apply List.ext_getElem?
  intro i
  by_cases hi : i = c
  · subst hi
    rw [wld_get h, us_s, List.getElem?_set_self (by unfold wld; rw [List.length_map, List.length_range]; exact h)]
  · rw [List.getElem?_set_ne (Ne.symm hi)]
    by_cases hl : i < eN E
    · rw [wld_get hl, wld_get hl, us_n hi]
    · rw [List.getElem?_eq_none (by unfold wld; rw [List.length_map, List.length_range]; omega), List.getElem?_eq_none (by unfold wld; rw [List.length_map, List.length_range]; omega)]
theorem PR.one {E : En} {ρ : Sg} {s : State} {H : Heap} (h : PR E ρ s H) {c : Nat} (hc : c < eN E) {e : va_E} (he : celf E c (ρ c) = e) : va_P (eD E) classes [(ad E c, e)] H := by
  intro k q hk
  have hz : k < 1 := (List.getElem?_eq_some_iff.mp hk).1
  rw [show k = 0 by omega] at hk
  cases hk
  rw [← he]
  exact h.2.1 c _ (wld_get hc)
theorem PR.moved {E : En} {ρ : Sg} {u U : State} {H : Heap} (hvm : u.vm.Alike U.vm) (h : PR E ρ u H) : PR E ρ U H := ⟨va_K.moved hvm h.1, h.2⟩
abbrev RP (x : Cx) (E : En) (ρ : Sg) : Heap → Prop := fun H => PR E ρ (xs x) H
/-- reading a field -/
theorem rdF {x : Cx} {E : En} {ρ : Sg} {c ci j N : Nat} {Cn : String} {T : u_T} {fs : List Value} {v : Value} (hc : c < eN E) (he : celf E c (ρ c) = .inr (ci, fs)) (hcl : classes[ci]? = some (Cn, T, N)) (hv : fs[j]? = some v) : RdF (xs x) (RP x E ρ) (ad E c) Cn T N j v :=
  fun H hP => ⟨eD E, classes, tysE E, ci, fs, hP.1, hP.one hc he, hcl, hv⟩
theorem wrF {x : Cx} {E : En} {ρ : Sg} {c ci j N : Nat} {Cn : String} {T : u_T} {fs : List Value} {v : Value} {g : Nat → Int32} (hc : c < eN E) (he : celf E c (ρ c) = .inr (ci, fs)) (hcl : classes[ci]? = some (Cn, T, N)) (hj : j < fs.length) (hg : celf E c g = .inr (ci, fs.set j v)) : WrF (xs x) (eA E) (RP x E ρ) (ad E c) Cn T N j v (RP x E (us ρ c g)) :=
  fun H hP => ⟨eD E, classes, tysE E, wld E ρ, c, ci, fs, hP.1, hP.2.1, hP.2.2, by rw [wld_get hc, he], hcl, hj, fun H1 h1 => by
    have e := wld_set (ρ := ρ) (f := g) hc
    rw [hg] at e
    exact ⟨hP.1, by rw [← e]; exact h1, by rw [← e]; exact hP.2.2.set (wld_get hc)⟩⟩
theorem rdA {x : Cx} {E : En} {ρ : Sg} {c nn q : Nat} (hc : c < eN E) (he : celf E c (ρ c) = arI E nn (ρ c)) : RdA (xs x) (RP x E ρ) (ad E c) nn q (ρ c q) :=
  fun H hP => ⟨eD E, classes, tysE E, eI E, 0, ρ c, hP.1, hP.one hc he, rfl, rfl⟩
theorem rdL {x : Cx} {E : En} {ρ : Sg} {c nn : Nat} (hc : c < eN E) (he : celf E c (ρ c) = arI E nn (ρ c)) : RdL (xs x) (RP x E ρ) (ad E c) nn :=
  fun H hP => ⟨eD E, classes, tysE E, eI E, 0, ρ c, hP.1, hP.one hc he, rfl⟩
theorem rdQ {x : Cx} {E : En} {ρ : Sg} {c nn t0 : Nat} {cA : ClassId} {Cn : String} {f : Nat → Option Nat} (hc : c < eN E) (he : celf E c (ρ c) = .inl (cA, nn, .inr (.inr (.inr (.inr f))))) (ht : (tysE E)[t0]? = some (cA, .object Cn)) : RdQ (xs x) (RP x E ρ) (ad E c) nn Cn f :=
  fun H hP => ⟨eD E, classes, tysE E, cA, t0, hP.1, hP.one hc he, ht⟩
theorem wrA {x : Cx} {E : En} {ρ : Sg} {c nn i : Nat} {v : Int32} (hc : c < eN E) (he : ∀ f, celf E c f = arI E nn f) : WrA (xs x) (eA E) (RP x E ρ) (ad E c) nn i v (RP x E (us ρ c (upd (ρ c) i v))) :=
  fun H hP => ⟨eD E, classes, tysE E, wld E ρ, c, eI E, 0, ρ c, hP.1, hP.2.1, hP.2.2, by rw [wld_get hc, he]; rfl, rfl, fun H1 h1 => by
    have e := wld_set (ρ := ρ) (f := upd (ρ c) i v) hc
    rw [he] at e
    exact ⟨hP.1, by rw [← e]; exact h1, by rw [← e]; exact hP.2.2.set (wld_get hc)⟩⟩
/-- a receiver -/
def IsO (s : State) (P : Heap → Prop) (a : Nat) (Cn : String) : Prop := ∀ H, P H → ∃ cell : Cell, H[a]? = some cell ∧ cell.vm.isStatics = false ∧ s.vm.findClass Cn = some cell.cls
theorem isO {x : Cx} {E : En} {ρ : Sg} {c ci N : Nat} {Cn : String} {T : u_T} {fs : List Value} (hc : c < eN E) (he : celf E c (ρ c) = .inr (ci, fs)) (hcl : classes[ci]? = some (Cn, T, N)) : IsO (xs x) (RP x E ρ) (ad E c) Cn :=
  fun H hP => va_recv (q := (Cn, T, N)) hP.1 (hP.one hc he) hcl (q0 := 0) rfl
