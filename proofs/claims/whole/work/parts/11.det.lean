/-! contracts that say exactly what comes -/
def bI (p : Prop) [Decidable p] : Int32 := if p then 1 else 0
theorem bI_t {p : Prop} [Decidable p] (h : p) : bI p = 1 := if_pos h
theorem bI_f {p : Prop} [Decidable p] (h : ¬ p) : bI p = 0 := if_neg h
theorem bI_01 (p : Prop) [Decidable p] : bI p = 0 ∨ bI p = 1 := by by_cases h : p
                                                                   · exact Or.inr (bI_t h)
                                                                   · exact Or.inl (bI_f h)
theorem bI_0 {p : Prop} [Decidable p] : bI p = 0 ↔ ¬ p := by by_cases h : p
                                                             · rw [bI_t h]; simp [h]
                                                             · rw [bI_f h]; simp [h]
theorem bI_congr {p q : Prop} [Decidable p] [Decidable q] (h : p ↔ q) : bI p = bI q := by
  by_cases hp : p
  · rw [bI_t hp, bI_t (h.mp hp)]
  · rw [bI_f hp, bI_f (fun hq => hp (h.mpr hq))]
/-- what every picture has -/
def CA (σ : Sg) : Prop := (∀ v, v < 5 → Can (σ v)) ∧ (∀ c, 74 ≤ c → c ≤ 76 → Can (σ c)) ∧ Can (σ 10) ∧ Can (σ 11) ∧ ∀ v, v < 5 → (σ (5+v) 1 = 0 ∨ σ (5+v) 1 = 1)
theorem CA_of {E : En} {σ : Sg} {s : State} {H : Heap} (h : PA E σ s H) : CA σ := ⟨fun _ hv => canV h hv, fun _ h1 h2 => canM h h1 h2, by obtain ⟨ρ, g, -⟩ := h; exact g.2.2.2.1.1, by obtain ⟨ρ, g, -⟩ := h; exact g.2.2.2.2.1, fun _ hv => chill01 h hv⟩
abbrev MD (l : Launch) (y : MethodName) (cc : ByteArray) (nL : Nat) (ret : Option FieldType) (rm : Room) (E : En) (av : List Value) (σ : Sg) (r0 : Option Value) (σ0 : Sg) : Prop :=
  MG l y cc nL ret rm 0 0 E av (PA E σ) (fun r (u : Sg) => r = r0 ∧ u = σ0) (fun u => PA E u)
abbrev RTD (x : Cx) (ret : Option FieldType) (E : En) (r0 : Option Value) (σ0 : Sg) : Prop := RT x ret E (fun r (u : Sg) => r = r0 ∧ u = σ0) (fun u => PA E u) 0 0
theorem MD_of {l : Launch} {y : MethodName} {cc : ByteArray} {nL : Nat} {ret : Option FieldType} {rm : Room} {E : En} {av : List Value} {σ : Sg} {r0 : Option Value} {σ0 : Sg}
    (hy : plainName y.cls = true) (hn : Nat.ble (lst0 av).length nL = true)
    (body : ∀ x : Cx, CX x cc y.cls rm → CE E (xs x) (xs x).heap → RTD x ret E r0 σ0 → CA σ → V x (eA E) (AP x E σ) 0 0 0 (lst nL av) []) : MD l y cc nL ret rm E av σ r0 σ0 :=
  MG_of hy hn fun x C hE hT => V_use fun _ hP => body x C hE hT (CA_of hP)
/-- contracts with a relation, over the picture; nothing is made -/
abbrev MN (l : Launch) (y : MethodName) (cc : ByteArray) (nL : Nat) (ret : Option FieldType) (rm : Room) (E : En) (av : List Value) (σ : Sg) (post : Option Value → Sg → Prop) : Prop :=
  MG l y cc nL ret rm 0 0 E av (PA E σ) post (fun u => PA E u)
abbrev RTN (x : Cx) (ret : Option FieldType) (E : En) (post : Option Value → Sg → Prop) : Prop := RT x ret E post (fun u => PA E u) 0 0
theorem MN_of {l : Launch} {y : MethodName} {cc : ByteArray} {nL : Nat} {ret : Option FieldType} {rm : Room} {E : En} {av : List Value} {σ : Sg} {post : Option Value → Sg → Prop}
    (hy : plainName y.cls = true) (hn : Nat.ble (lst0 av).length nL = true)
    (body : ∀ x : Cx, CX x cc y.cls rm → CE E (xs x) (xs x).heap → RTN x ret E post → CA σ → V x (eA E) (AP x E σ) 0 0 0 (lst nL av) []) : MN l y cc nL ret rm E av σ post :=
  MG_of hy hn fun x C hE hT => V_use fun _ hP => body x C hE hT (CA_of hP)
def ROb (rm : Room) (ynL : Nat) (R : Room) (nn : Nat) (As rest : List Value) : Bool := Nat.ble (rm.frames + 1) R.frames && Nat.ble (8 + (ynL + 11) + rm.locals) R.locals && rm.cells == 0 && rm.slots == 0 && As.length == nn && Nat.ble (rest.map fun v => v.category).sum 8
section DET
variable {x : Cx} {cc : ByteArray} {own : String} {R : Room} {E : En} {k n pc pc' tgt : Nat} {L : List (Option Value)} {st : List Value} {σ : Sg}
theorem V_cn (C : CX x cc own R) (hE : CE E (xs x) (xs x).heap) {idx nn ynL : Nat} {Cn : String} {b : Nat} {As rest : List Value} {y : MethodName} {ycc : ByteArray} {ret : Option FieldType} {rm : Room} {post : Option Value → Sg → Prop}
    (hd : D1 cc pc (.invokevirtual idx) 3 pc') (hM : MN (xl x) y ycc ynL ret rm E (.ref b :: As) σ post) (hk : KV Cn y ycc ynL ret nn) (hl : Cond.methodLink own idx y ∈ lw_gd) (ho : IsO (xs x) (AP x E σ) b Cn) (hst : st = As.reverse ++ .ref b :: rest) (hro : ROb rm ynL R nn As rest = true) (hkc : (Nat.ble k R.cells && Nat.ble n R.slots) = true)
    (h : ∀ (r : Option Value) (u : Sg), post r u → V x (eA E) (AP x E u) k n pc' L (r.toList ++ rest)) : V x (eA E) (AP x E σ) k n pc L st := by
  simp only [ROb, Bool.and_eq_true, Nat.ble_eq, beq_iff_eq] at hro
  simp only [Bool.and_eq_true, Nat.ble_eq] at hkc
  exact V_call C hE hd hM hk hl ho ⟨hro.1.1.1.1.1, hro.1.1.1.1.2⟩ ⟨hro.1.1.1.2, hro.1.1.2⟩ hro.1.2 hkc hst hro.2 PM_A (fun _ => PM_A) h
theorem V_cv (C : CX x cc own R) (hE : CE E (xs x) (xs x).heap) {idx nn ynL : Nat} {Cn : String} {b : Nat} {As rest : List Value} {y : MethodName} {ycc : ByteArray} {ret : Option FieldType} {rm : Room} {v : Value} {σ0 : Sg}
    (hd : D1 cc pc (.invokevirtual idx) 3 pc') (hM : MD (xl x) y ycc ynL ret rm E (.ref b :: As) σ (some v) σ0) (hk : KV Cn y ycc ynL ret nn) (hl : Cond.methodLink own idx y ∈ lw_gd) (ho : IsO (xs x) (AP x E σ) b Cn) (hst : st = As.reverse ++ .ref b :: rest) (hro : ROb rm ynL R nn As rest = true) (hkc : (Nat.ble k R.cells && Nat.ble n R.slots) = true)
    (h : V x (eA E) (AP x E σ0) k n pc' L (v :: rest)) : V x (eA E) (AP x E σ) k n pc L st := by
  refine V_cn C hE hd hM hk hl ho hst hro hkc ?_
  rintro r u ⟨rfl, rfl⟩
  exact h
theorem V_cv0 (C : CX x cc own R) (hE : CE E (xs x) (xs x).heap) {idx nn ynL : Nat} {Cn : String} {b : Nat} {As rest : List Value} {y : MethodName} {ycc : ByteArray} {ret : Option FieldType} {rm : Room} {σ0 : Sg}
    (hd : D1 cc pc (.invokevirtual idx) 3 pc') (hM : MD (xl x) y ycc ynL ret rm E (.ref b :: As) σ none σ0) (hk : KV Cn y ycc ynL ret nn) (hl : Cond.methodLink own idx y ∈ lw_gd) (ho : IsO (xs x) (AP x E σ) b Cn) (hst : st = As.reverse ++ .ref b :: rest) (hro : ROb rm ynL R nn As rest = true) (hkc : (Nat.ble k R.cells && Nat.ble n R.slots) = true)
    (h : V x (eA E) (AP x E σ0) k n pc' L rest) : V x (eA E) (AP x E σ) k n pc L st := by
  refine V_cn C hE hd hM hk hl ho hst hro hkc ?_
  rintro r u ⟨rfl, rfl⟩
  exact h
theorem V_csn (C : CX x cc own R) (hE : CE E (xs x) (xs x).heap) {idx nn ynL : Nat} {As rest : List Value} {y : MethodName} {ycc : ByteArray} {ret : Option FieldType} {rm : Room} {post : Option Value → Sg → Prop}
    (hd : D1 cc pc (.invokestatic idx) 3 pc') (hM : MN (xl x) y ycc ynL ret rm E As σ post) (hk : KS own y ycc ynL ret nn) (hl : Cond.methodLink own idx y ∈ lw_gd) (hst : st = As.reverse ++ rest) (hro : ROb rm ynL R nn As rest = true) (hkc : (Nat.ble k R.cells && Nat.ble n R.slots) = true)
    (h : ∀ (r : Option Value) (u : Sg), post r u → V x (eA E) (AP x E u) k n pc' L (r.toList ++ rest)) : V x (eA E) (AP x E σ) k n pc L st := by
  simp only [ROb, Bool.and_eq_true, Nat.ble_eq, beq_iff_eq] at hro
  simp only [Bool.and_eq_true, Nat.ble_eq] at hkc
  exact V_callS C hE hd hM hk hl ⟨hro.1.1.1.1.1, hro.1.1.1.1.2⟩ ⟨hro.1.1.1.2, hro.1.1.2⟩ hro.1.2 hkc hst hro.2 PM_A (fun _ => PM_A) h
theorem V_cs (C : CX x cc own R) (hE : CE E (xs x) (xs x).heap) {idx nn ynL : Nat} {As rest : List Value} {y : MethodName} {ycc : ByteArray} {ret : Option FieldType} {rm : Room} {v : Value} {σ0 : Sg}
    (hd : D1 cc pc (.invokestatic idx) 3 pc') (hM : MD (xl x) y ycc ynL ret rm E As σ (some v) σ0) (hk : KS own y ycc ynL ret nn) (hl : Cond.methodLink own idx y ∈ lw_gd) (hst : st = As.reverse ++ rest) (hro : ROb rm ynL R nn As rest = true) (hkc : (Nat.ble k R.cells && Nat.ble n R.slots) = true)
    (h : V x (eA E) (AP x E σ0) k n pc' L (v :: rest)) : V x (eA E) (AP x E σ) k n pc L st := by
  refine V_csn C hE hd hM hk hl hst hro hkc ?_
  rintro r u ⟨rfl, rfl⟩
  exact h
theorem V_ifeq_b (C : CX x cc own R) {A : Nat → Prop} {P : Heap → Prop} {p : Prop} [Decidable p] (hd : DJ cc pc (.ifCond .eq) pc' tgt) (kt : ¬ p → V x A P k n tgt L st) (kf : p → V x A P k n pc' L st) : V x A P k n pc L (.int (bI p) :: st) :=
  V_if_eq C hd (fun c => kt (bI_0.mp c)) (fun c => kf (Classical.byContradiction fun q => c (bI_0.mpr q)))
theorem V_ifne_b (C : CX x cc own R) {A : Nat → Prop} {P : Heap → Prop} {p : Prop} [Decidable p] (hd : DJ cc pc (.ifCond .ne) pc' tgt) (kt : p → V x A P k n tgt L st) (kf : ¬ p → V x A P k n pc' L st) : V x A P k n pc L (.int (bI p) :: st) :=
  V_if_ne C hd (fun c => kt (Classical.byContradiction fun q => c (bI_0.mpr q))) (fun c => kf (bI_0.mp c))
theorem V_iretD (C : CX x cc own R) {a r0 : Int32} {σ0 : Sg} (hd : D1 cc pc .ireturn 1 pc') (hT : RTD x (some .int) E (some (.int r0)) σ0) (hr : a = r0) (hs : σ = σ0) : V x (eA E) (AP x E σ) 0 0 pc L [.int a] :=
  V_iret C (u := σ) hd hT ⟨by rw [hr], hs⟩ (fun _ h => h) PM_A
theorem nar_b (p : Prop) [Decidable p] : narrow .boolean (.int (bI p)) = .int (bI p) := by
  rcases bI_01 p with h | h <;> rw [h] <;> rfl
theorem fit_b (p : Prop) [Decidable p] : fits .boolean (.int (bI p)) = true := by
  rcases bI_01 p with h | h <;> rw [h] <;> rfl
theorem V_zretD (C : CX x cc own R) {a : Int32} {p : Prop} [Decidable p] {σ0 : Sg} (hd : D1 cc pc .ireturn 1 pc') (hT : RTD x (some .boolean) E (some (.int (bI p))) σ0) (hr : a = bI p) (hs : σ = σ0) : V x (eA E) (AP x E σ) 0 0 pc L [.int a] :=
  V_zret C (u := σ) hd hT (by rw [hr]; exact nar_b p) ⟨by rw [hr], hs⟩ (fun _ h => h) PM_A
theorem V_retD (C : CX x cc own R) {σ0 : Sg} (hd : D1 cc pc .return_ 1 pc') (hT : RTD x none E none σ0) (hs : σ = σ0) : V x (eA E) (AP x E σ) 0 0 pc L [] :=
  V_ret C (u := σ) hd hT ⟨rfl, hs⟩ (fun _ h => h) PM_A
theorem V_aretD (C : CX x cc own R) {a : Nat} {v : Value} {σ0 : Sg} {nm : String} (hd : D1 cc pc .areturn 1 pc') (hT : RTD x (some (.object nm)) E (some v) σ0) (hr : .ref a = v) (hs : σ = σ0) : V x (eA E) (AP x E σ) 0 0 pc L [.ref a] :=
  V_aret C (u := σ) hd hT (Or.inr ⟨a, rfl⟩) ⟨by rw [hr], hs⟩ (fun _ h => h) PM_A
theorem V_aretN (C : CX x cc own R) {v : Value} {σ0 : Sg} {nm : String} (hd : D1 cc pc .areturn 1 pc') (hT : RTD x (some (.object nm)) E (some v) σ0) (hr : .null = v) (hs : σ = σ0) : V x (eA E) (AP x E σ) 0 0 pc L [.null] :=
  V_aret C (u := σ) hd hT (Or.inl rfl) ⟨by rw [hr], hs⟩ (fun _ h => h) PM_A
end DET
/-- a list of words by its parts -/
theorem in_of {ws : List Cond} (h1 : ∀ w ∈ ws, w ∈ lw_tbl) (h2 : ws.all goodWord = true) : ∀ w ∈ ws, w ∈ lw_gd := fun w hw => List.mem_filter.mpr ⟨h1 w hw, List.all_eq_true.mp h2 w hw⟩
