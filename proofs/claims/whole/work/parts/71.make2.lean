/-! ROWS FOR ARRAYS THAT ARE MADE, over cells in a row -/
theorem ra_int {U : State} {c d : ClassId} (h : va_RA U c .int) (h' : va_RA U d .int) : c = d := by
  have a : U.vm.findClass ("[" ++ FieldType.int.toString) = some c := h
  have b : U.vm.findClass ("[" ++ FieldType.int.toString) = some d := h'
  rw [a] at b
  exact Option.some.inj b
theorem ra_obj {U : State} {c d : ClassId} {C : String} (h : va_RA U c (.object C)) (h' : va_RA U d (.object C)) : c = d := by
  obtain ⟨_, _, -, -, -, a⟩ := h
  obtain ⟨_, _, -, -, -, b⟩ := h'
  rw [a] at b
  exact Option.some.inj b
section MAKE2
variable {x : Cx} {cc : ByteArray} {own : String} {R : Room} {E : En} {k n pc pc' tgt : Nat} {L : List (Option Value)} {st : List Value}
theorem V_newI (C : CX x cc own R) (hE : CE E (xs x) (xs x).heap) {ws : va_W} {nn : Nat} {i : Int32} (hi : i = nI nn) (hnn : Nat.ble nn 1000 = true) (hd : D1 cc pc (.newarray .int) 2 pc') (harr : Cond.arrayClass .int ∈ lw_gd) (hc : Nat.ble (k + 1) R.cells = true) (hs : Nat.ble (n + nn) R.slots = true)
    (h : ∀ q : Nat, V x (eA E) (WP x E (ws ++ [(q, arI E nn (fun _ => 0))])) (k + 1) (n + nn) pc' L (.ref q :: st)) : V x (eA E) (WP x E ws) k n pc L (.int i :: st) := by
  subst hi
  obtain ⟨p, l, e, R', s, m, args, below, meth, c, Q⟩ := x
  obtain ⟨hx, hb, hR, hown, hts⟩ := C
  obtain ⟨hd, rfl⟩ := hd
  have hR : R' = R := hR
  subst hR
  have hnn := Nat.le_of_ble_eq_true hnn
  intro H locs ls hP hS hL
  refine va_newa (atype := .int) (ty := .int) (n := nI nn) (N' := nn) (a0 := (nn, .inl (fun _ => 0))) hx hb (hts _ harr) rfl hP.1 hP.2.1 hP.2.2 hS (fun q hq => Nat.le_trans hE.2 hq) (fun cA => rfl) (nI_pos (by omega)) (nI_clamp (by omega)) (by show nn * 4 ≤ _; omega) (Nat.le_of_ble_eq_true hc) (Nat.le_of_ble_eq_true hs) hd ?_
  intro q cA H1 hK h1 h2 h3
  have e1 : cA = eI E := ra_int (hK.2 3 (cA, .int) rfl).2 (hK.2 0 (eI E, .int) rfl).2
  subst e1
  exact h q H1 locs ls ⟨hP.1, h1, h2⟩ h3 hL
theorem V_newQ (C : CX x cc own R) (hE : CE E (xs x) (xs x).heap) {ws : va_W} {nn t0 idx : Nat} {i : Int32} {cQ : ClassId} {Cn : String} (hi : i = nI nn) (hnn : Nat.ble nn 1000 = true) (ht : (tysE E)[t0]? = some (cQ, .object Cn)) (hd : D1 cc pc (.anewarray idx) 3 pc') (hcl : Cond.classLink own idx Cn ∈ lw_gd) (hov : va_AO Cn (xs x)) (hc : Nat.ble (k + 1) R.cells = true) (hs : Nat.ble (n + nn) R.slots = true)
    (h : ∀ q : Nat, V x (eA E) (WP x E (ws ++ [(q, .inl (cQ, nn, .inr (.inr (.inr (.inr (fun _ => none))))))])) (k + 1) (n + nn) pc' L (.ref q :: st)) : V x (eA E) (WP x E ws) k n pc L (.int i :: st) := by
  subst hi
  obtain ⟨p, l, e, R', s, m, args, below, meth, c, Q⟩ := x
  obtain ⟨hx, hb, hR, hown, hts⟩ := C
  obtain ⟨hd, rfl⟩ := hd
  have hR : R' = R := hR
  subst hR
  have hnn := Nat.le_of_ble_eq_true hnn
  intro H locs ls hP hS hL
  refine va_newq (n := nI nn) (N' := nn) hx hb hown (hts _ hcl) hov hP.1 hP.2.1 hP.2.2 hS (fun q hq => Nat.le_trans hE.2 hq) (nI_pos (by omega)) (nI_clamp (by omega)) (by omega) (Nat.le_of_ble_eq_true hc) (Nat.le_of_ble_eq_true hs) hd ?_
  intro q cA H1 hK h1 h2 h3
  have hlt : t0 < 3 := (List.getElem?_eq_some_iff.mp ht).1
  have e1 : cA = cQ := ra_obj (hK.2 3 (cA, .object Cn) rfl).2 (hK.2 t0 (cQ, .object Cn) (by rw [List.getElem?_append_left hlt]; exact ht)).2
  subst e1
  exact h q H1 locs ls ⟨hP.1, h1, h2⟩ h3 hL
theorem V_aastW (C : CX x cc own R) {ws : va_W} {nn t0 k0 k1 ci j a v : Nat} {i : Int32} {cQ : ClassId} {r : vw_C} {vs : List Value} {f : Nat → Option Nat} (hi : i = nI j) (hj : j < nn) (hnn : nn < 2147483648) (ha : ws[k0]? = some (a, .inl (cQ, nn, .inr (.inr (.inr (.inr f)))))) (ht : (tysE E)[t0]? = some (cQ, .object r.1)) (hv : ws[k1]? = some (v, .inr (ci, vs))) (hcl : classes[ci]? = some r) (hd : D1 cc pc .aastore 1 pc')
    (h : V x (eA E) (WP x E (ws.set k0 (a, .inl (cQ, nn, .inr (.inr (.inr (.inr (va_up f j (some v))))))))) k n pc' L st) : V x (eA E) (WP x E ws) k n pc L (.ref v :: .int i :: .ref a :: st) := by
  subst hi
  obtain ⟨p, l, e, R', s, m, args, below, meth, c, Q⟩ := x
  obtain ⟨hx, hb, hR, hown, hts⟩ := C
  obtain ⟨hd, rfl⟩ := hd
  intro H locs ls hP hS hL
  refine va_astq hx hb hP.1 hP.2.1 hP.2.2 hS k0 t0 k1 ci ha ht hv hcl (vp_in_nI hj (by omega)) hd (fun H1 locs1 h1 h2 h3 => ?_)
  rw [nI_clamp (by omega)] at h1 h2
  exact h H1 locs1 ls ⟨hP.1, h1, h2⟩ h3 hL
end MAKE2
section MAKE3
variable {x : Cx} {E : En}
theorem rdAW {ws : va_W} {k0 a nn q : Nat} {f : Nat → Int32} (hk : ws[k0]? = some (a, arI E nn f)) : RdA (xs x) (WP x E ws) a nn q (f q) :=
  fun H hP => ⟨eD E, classes, tysE E, eI E, 0, f, hP.1, va_P.one hP.2.1 hk, rfl, rfl⟩
theorem rdLW {ws : va_W} {k0 a nn : Nat} {f : Nat → Int32} (hk : ws[k0]? = some (a, arI E nn f)) : RdL (xs x) (WP x E ws) a nn :=
  fun H hP => ⟨eD E, classes, tysE E, eI E, 0, f, hP.1, va_P.one hP.2.1 hk, rfl⟩
theorem wrAW {ws : va_W} {k0 a nn i : Nat} {f : Nat → Int32} {v : Int32} (hk : ws[k0]? = some (a, arI E nn f)) : WrA (xs x) (eA E) (WP x E ws) a nn i v (WP x E (ws.set k0 (a, arI E nn (upd f i v)))) :=
  fun H hP => ⟨eD E, classes, tysE E, ws, k0, eI E, 0, f, hP.1, hP.2.1, hP.2.2, hk, rfl, fun H1 h1 => ⟨hP.1, h1, hP.2.2.set hk⟩⟩
theorem rdQW {ws : va_W} {k0 a nn t0 : Nat} {cQ : ClassId} {Cn : String} {f : Nat → Option Nat} (hk : ws[k0]? = some (a, .inl (cQ, nn, .inr (.inr (.inr (.inr f)))))) (ht : (tysE E)[t0]? = some (cQ, .object Cn)) : RdQ (xs x) (WP x E ws) a nn Cn f :=
  fun H hP => ⟨eD E, classes, tysE E, cQ, t0, hP.1, va_P.one hP.2.1 hk, ht⟩
end MAKE3
