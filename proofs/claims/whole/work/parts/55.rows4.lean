/-! ROWS FOR WHAT IS MADE, for nest mates and for abstract methods -/
theorem dc_moved {y : MethodName} {u U : State} (hvm : u.vm.Alike U.vm) (h : va_Nw (.declares y) u) : va_Nw (.declares y) U := by
  have h1 : (Cond.declares y).before #[] (u.setVm U.vm) = true := by
    rw [Cond.declares_setVm hvm]
    exact h
  have e := Cond.onTables_vm (A := #[]) (A' := #[]) (U := u) (U' := U) U.vm (Cond.declares y) rfl
  have hU : U.setVm U.vm = U := rfl
  rw [hU] at e
  unfold va_Nw
  rw [← e]
  exact h1
def yWgu : MethodName := ⟨RX7, "givesUp", "(LSledgeStove$Village;)Z"⟩
def yWlk : MethodName := ⟨RX7, "look", "(LSledgeStove$Village;I)V"⟩
def DC (s : State) : Prop := va_Nw (.declares yWgu) s ∧ va_Nw (.declares yWlk) s
theorem DC.moved {u U : State} (hvm : u.vm.Alike U.vm) (h : DC u) : DC U := ⟨dc_moved hvm h.1, dc_moved hvm h.2⟩
/-- the picture, and what the tables say of the wishes -/
def PT (E : En) (σ : Sg) (s : State) (H : Heap) : Prop := PA E σ s H ∧ DC s
theorem PM_T {E : En} {σ : Sg} : PM (PT E σ) := fun _ _ _ hvm h => ⟨PM_A _ _ _ hvm h.1, h.2.moved hvm⟩
abbrev TP (x : Cx) (E : En) (σ : Sg) : Heap → Prop := fun H => PT E σ (xs x) H
/-- cells in a row -/
def PW (E : En) (ws : va_W) (s : State) (H : Heap) : Prop := va_K (eD E) classes (tysE E) s ∧ va_P (eD E) classes ws H ∧ va_D (eA E) ws
theorem PM_W {E : En} {ws : va_W} : PM (PW E ws) := fun _ _ _ hvm h => ⟨va_K.moved hvm h.1, h.2⟩
abbrev WP (x : Cx) (E : En) (ws : va_W) : Heap → Prop := fun H => PW E ws (xs x) H
theorem va_P.one {D : va_G} {cl : List vw_C} {ws : va_W} {H : Heap} (h : va_P D cl ws H) {k : Nat} {q : Nat × va_E} (hk : ws[k]? = some q) : va_P D cl [q] H := by
  intro i z hz
  have hi : i < 1 := (List.getElem?_eq_some_iff.mp hz).1
  rw [show i = 0 by omega] at hz
  cases hz
  exact h k _ hk
theorem rdW {x : Cx} {E : En} {ws : va_W} {k ci j N : Nat} {a : Nat} {Cn : String} {T : u_T} {fs : List Value} {v : Value} (hk : ws[k]? = some (a, .inr (ci, fs))) (hcl : classes[ci]? = some (Cn, T, N)) (hv : fs[j]? = some v) : RdF (xs x) (WP x E ws) a Cn T N j v :=
  fun H hP => ⟨eD E, classes, tysE E, ci, fs, hP.1, va_P.one hP.2.1 hk, hcl, hv⟩
theorem wrW {x : Cx} {E : En} {ws : va_W} {k ci j N : Nat} {a : Nat} {Cn : String} {T : u_T} {fs : List Value} {v : Value} (hk : ws[k]? = some (a, .inr (ci, fs))) (hcl : classes[ci]? = some (Cn, T, N)) (hj : j < fs.length) : WrF (xs x) (eA E) (WP x E ws) a Cn T N j v (WP x E (ws.set k (a, .inr (ci, fs.set j v)))) :=
  fun H hP => ⟨eD E, classes, tysE E, ws, k, ci, fs, hP.1, hP.2.1, hP.2.2, hk, hcl, hj, fun H1 h1 => ⟨hP.1, h1, hP.2.2.set hk⟩⟩
section MAKE
variable {x : Cx} {cc : ByteArray} {own : String} {R : Room} {E : En} {k n pc pc' tgt : Nat} {L : List (Option Value)} {st : List Value} {σ : Sg}
theorem V_objInit (C : CX x cc own R) {A : Nat → Prop} {P : Heap → Prop} {a idx : Nat} (hd : D1 cc pc (.invokespecial idx) 3 pc') (hl : Cond.methodLink own idx Lib.objectInit ∈ lw_gd) (w1 : Cond.instanceMethod Lib.objectInit ∈ lw_gd) (w2 : Cond.code Lib.objectInit ⟨#[0xb1]⟩ 1 none ∈ lw_gd) (hf : Nat.ble 1 R.frames = true) (hlo : Nat.ble ((st.map fun v => v.category).sum + 12) R.locals = true) (h : V x A P k n pc' L st) : V x A P k n pc L (.ref a :: st) := by
  obtain ⟨p, l, e, R', s, m, args, below, meth, c, Q⟩ := x
  obtain ⟨hx, hb, hR, hown, hts⟩ := C
  obtain ⟨hd, rfl⟩ := hd
  have hR : R' = R := hR
  subst hR
  intro H locs ls hP hS hL
  exact W.objInit hx hb hown (hts _ hl) (hts _ w1) (hts _ w2) rfl hL.2.1 rfl hd (Nat.le_of_ble_eq_true hf) (by have := Nat.le_of_ble_eq_true hlo; show 2 * 0 + _ + 12 ≤ _; omega) (h H locs ls hP hS hL)
theorem V_new (C : CX x cc own R) (hE : CE E (xs x) (xs x).heap) {ws : va_W} {Cn : String} {T : u_T} {N ci idx : Nat} {ty : Nat → FieldType} {fs : List Value} (hd : D1 cc pc (.new idx) 3 pc') (hin : ∀ w ∈ u_ws Cn T N, w ∈ lw_gd) (hty : ∀ k, k < N → parseFieldDescriptor (T k).2.2.1 = some (ty k)) (hl : Cond.classLink own idx Cn ∈ lw_gd) (hi : Cond.instantiable Cn N ∈ lw_gd) (hini : Cond.initialized Cn ∈ lw_gd) (hcl : classes[ci]? = some (Cn, T, N)) (hfs : ∀ j, j < N → defaultValue (ty j) = vp_V fs j) (hc : Nat.ble (k + 1) R.cells = true) (hs : Nat.ble (n + N) R.slots = true)
    (h : ∀ q : Nat, V x (eA E) (WP x E (ws ++ [(q, .inr (ci, fs))])) (k + 1) (n + N) pc' L (.ref q :: st)) : V x (eA E) (WP x E ws) k n pc L st := by
  obtain ⟨p, l, e, R', s, m, args, below, meth, c, Q⟩ := x
  obtain ⟨hx, hb, hR, hown, hts⟩ := C
  obtain ⟨hd, rfl⟩ := hd
  have hR : R' = R := hR
  subst hR
  intro H locs ls hP hS hL
  exact va_new hx hb hts hin ty hty hown (hts _ hl) (hts _ hi) (hts _ hini) hP.1 hP.2.1 hP.2.2 hS (fun q hq => Nat.le_trans hE.2 hq) hcl hfs (Nat.le_of_ble_eq_true hc) (Nat.le_of_ble_eq_true hs) hd (fun q H1 h1 h2 h3 => h q H1 locs ls ⟨hP.1, h1, h2⟩ h3 hL)
/-- what the tables say of a private member of a nest mate -/
def KN (y : MethodName) (ycc : ByteArray) (ynL : Nat) (ret : Option FieldType) (nn : Nat) : Prop := Cond.initialized y.cls ∈ lw_gd ∧ Cond.code y ycc ynL ret ∈ lw_gd ∧ (y.cls ≠ "java/lang/invoke/MethodHandle" ∧ y.cls ≠ "java/lang/invoke/VarHandle" ∧ (parseMethodDescriptor y.desc).map (fun d => d.parameters.length) = some nn)
theorem V_callIN (C : CX x cc own R) (hE : CE E (xs x) (xs x).heap) {idx nn ynL mc ms : Nat} {host : String} {b : Nat} {As rest : List Value} {y : MethodName} {ycc : ByteArray} {rm : Room} {P : State → Heap → Prop} {S : Type} {post : Option Value → S → Prop} {P' : S → State → Heap → Prop}
    (hd : D1 cc pc (.invokespecial idx) 3 pc') (hM : MG (xl x) y ycc ynL none rm mc ms E (.ref b :: As) P post P') (hk : KN y ycc ynL none nn) (hl : Cond.methodLinkNest own idx y host ∈ lw_nw) (hin : y.name = "<init>" ∧ Cond.instanceMethod y ∈ lw_gd) (hro : RO rm ynL R) (hcc : rm.cells = mc ∧ rm.slots = ms) (hnn : As.length = nn) (hc : k + mc ≤ R.cells ∧ n + ms ≤ R.slots) (hst : st = As.reverse ++ .ref b :: rest) (hrest : (rest.map fun v => v.category).sum ≤ 8) (hPM : PM P) (hPM' : ∀ u, PM (P' u))
    (kk : ∀ (r : Option Value) (u : S), post r u → V x (eA E) (fun H => P' u (xs x) H) (k + mc) (n + ms) pc' L (r.toList ++ rest)) : V x (eA E) (fun H => P (xs x) H) k n pc L st := by
  obtain ⟨p, l, e, R', s, m, args, below, meth, c, Q⟩ := x
  obtain ⟨hx, hb, hR, hown, hts⟩ := C
  obtain ⟨hd, rfl⟩ := hd
  obtain ⟨k3, k4, k5⟩ := hk
  have hR : R' = R := hR
  subst hR
  subst hst
  intro H locs ls hPH hS hL
  have hG : GoodIn lw_gd (.code y ycc ynL none :: lw_gd) := fun w hw => lw_gd_ok w (by
    simp only [List.mem_cons] at hw
    rcases hw with rfl | h <;> assumption)
  refine callG (va_runIN (As := As) (rest := rest) (nL := c.maxLocals) ⟨hx, hb, rfl, hown, hts⟩ hM ⟨va_cnB nn hts hG rfl hcc.1 hcc.2 (hE.nw _ hl) (hts _ k3) k5 hro, hin.1, hts _ hin.2⟩ ⟨?_, ?_⟩ rfl hnn (by rw [hL.2.1]) rfl (lv_room hrest) hd hc) hS (fun _ h => h) ?_
  · intro a U g mk q
    exact ⟨q.1, hPM _ _ _ (Vm.Alike.refl U.vm) q.2.1, XS.same (u := U) rfl q.2.2.1, q.2.2.2⟩
  · intro U hU hW
    refine ⟨rfl, by rw [hU]; exact hPM _ _ _ hW.alike hPH, ?_, by rw [hU]; exact Nat.le_trans hE.2 hS.1⟩
    rw [hU]
    exact (hE.1.kept (fun a h1 h2 => hS.2.1 a h1 h2)).warm hW
  · intro r u t H1 locs1 ht hvm hp hB hS1
    exact kk r u hp H1 locs1 ls (by rw [← ht]; exact hPM' u _ _ _ hvm.symm hB) hS1 hL
theorem V_callSN (C : CX x cc own R) (hE : CE E (xs x) (xs x).heap) {idx nn ynL mc ms : Nat} {host : String} {As rest : List Value} {y : MethodName} {ycc : ByteArray} {ret : Option FieldType} {rm : Room} {P : State → Heap → Prop} {S : Type} {post : Option Value → S → Prop} {P' : S → State → Heap → Prop}
    (hd : D1 cc pc (.invokestatic idx) 3 pc') (hM : MG (xl x) y ycc ynL ret rm mc ms E As P post P') (hk : KN y ycc ynL ret nn) (hl : Cond.methodLinkNest own idx y host ∈ lw_nw) (hin : Cond.static y ∈ lw_gd) (hro : RO rm ynL R) (hcc : rm.cells = mc ∧ rm.slots = ms) (hnn : As.length = nn) (hc : k + mc ≤ R.cells ∧ n + ms ≤ R.slots) (hst : st = As.reverse ++ rest) (hrest : (rest.map fun v => v.category).sum ≤ 8) (hPM : PM P) (hPM' : ∀ u, PM (P' u))
    (kk : ∀ (r : Option Value) (u : S), post r u → V x (eA E) (fun H => P' u (xs x) H) (k + mc) (n + ms) pc' L (r.toList ++ rest)) : V x (eA E) (fun H => P (xs x) H) k n pc L st := by
  obtain ⟨p, l, e, R', s, m, args, below, meth, c, Q⟩ := x
  obtain ⟨hx, hb, hR, hown, hts⟩ := C
  obtain ⟨hd, rfl⟩ := hd
  obtain ⟨k3, k4, k5⟩ := hk
  have hR : R' = R := hR
  subst hR
  subst hst
  intro H locs ls hPH hS hL
  have hG : GoodIn lw_gd (.code y ycc ynL ret :: lw_gd) := fun w hw => lw_gd_ok w (by
    simp only [List.mem_cons] at hw
    rcases hw with rfl | h <;> assumption)
  refine callG (va_runSN (As := As) (rest := rest) (nL := c.maxLocals) ⟨hx, hb, rfl, hown, hts⟩ hM ⟨va_cnB nn hts hG rfl hcc.1 hcc.2 (hE.nw _ hl) (hts _ k3) k5 hro, hts _ hin, trivial⟩ ⟨?_, ?_⟩ rfl hnn (by rw [hL.2.1]) rfl (lv_room hrest) hd hc) hS (fun _ h => h) ?_
  · intro a U g mk q
    exact ⟨q.1, hPM _ _ _ (Vm.Alike.refl U.vm) q.2.1, XS.same (u := U) rfl q.2.2.1, q.2.2.2⟩
  · intro U hU hW
    refine ⟨rfl, by rw [hU]; exact hPM _ _ _ hW.alike hPH, ?_, by rw [hU]; exact Nat.le_trans hE.2 hS.1⟩
    rw [hU]
    exact (hE.1.kept (fun a h1 h2 => hS.2.1 a h1 h2)).warm hW
  · intro r u t H1 locs1 ht hvm hp hB hS1
    exact kk r u hp H1 locs1 ls (by rw [← ht]; exact hPM' u _ _ _ hvm.symm hB) hS1 hL
/-- what the tables say of a method that a class has for an abstract one -/
def KA (Cn owner : String) (y0 y : MethodName) (ycc : ByteArray) (ynL : Nat) (ret : Option FieldType) (nn : Nat) : Prop := Cond.sameMethod y0.cls owner y0.name y0.desc ∈ lw_gd ∧ Cond.selects Cn y0 y ∈ lw_gd ∧ Cond.instanceMethod y ∈ lw_gd ∧ Cond.initialized y.cls ∈ lw_gd ∧ Cond.code y ycc ynL ret ∈ lw_gd ∧ (owner ≠ "java/lang/invoke/MethodHandle" ∧ owner ≠ "java/lang/invoke/VarHandle" ∧ (parseMethodDescriptor y0.desc).map (fun d => d.parameters.length) = some nn)
theorem V_callA (C : CX x cc own R) (hE : CE E (xs x) (xs x).heap) {idx nn ynL mc ms : Nat} {Cn owner : String} {b : Nat} {As rest : List Value} {y0 y : MethodName} {ycc : ByteArray} {ret : Option FieldType} {rm : Room} {P : State → Heap → Prop} {S : Type} {post : Option Value → S → Prop} {P' : S → State → Heap → Prop}
    (hd : D1 cc pc (.invokevirtual idx) 3 pc') (hM : MG (xl x) y ycc ynL ret rm mc ms E (.ref b :: As) P post P') (hk : KA Cn owner y0 y ycc ynL ret nn) (hl : Cond.methodLink own idx y0 ∈ lw_gd) (hz : va_Nw (.declares ⟨owner, y0.name, y0.desc⟩) (xs x)) (ho : IsO (xs x) (fun H => P (xs x) H) b Cn) (hro : RO rm ynL R) (hcc : rm.cells = mc ∧ rm.slots = ms) (hnn : As.length = nn) (hc : k + mc ≤ R.cells ∧ n + ms ≤ R.slots) (hst : st = As.reverse ++ .ref b :: rest) (hrest : (rest.map fun v => v.category).sum ≤ 8) (hPM : PM P) (hPM' : ∀ u, PM (P' u))
    (kk : ∀ (r : Option Value) (u : S), post r u → V x (eA E) (fun H => P' u (xs x) H) (k + mc) (n + ms) pc' L (r.toList ++ rest)) : V x (eA E) (fun H => P (xs x) H) k n pc L st := by
  obtain ⟨p, l, e, R', s, m, args, below, meth, c, Q⟩ := x
  obtain ⟨hx, hb, hR, hown, hts⟩ := C
  obtain ⟨hd, rfl⟩ := hd
  obtain ⟨k1, k2, k3, k4, k5, k6⟩ := hk
  have hR : R' = R := hR
  subst hR
  subst hst
  intro H locs ls hPH hS hL
  have hG : GoodIn lw_gd (va_wsU own idx Cn owner y0 y (.code y ycc ynL ret :: lw_gd)) := fun w hw => lw_gd_ok w (by
    unfold va_wsU at hw
    simp only [List.cons_append, List.nil_append, List.mem_cons] at hw
    rcases hw with rfl | rfl | rfl | rfl | rfl | rfl | h <;> assumption)
  refine callG (va_runU (As := As) (rest := rest) (nL := c.maxLocals) ⟨hx, hb, rfl, hown, hts⟩ hM (va_cwA nn hts hG rfl hcc.1 hcc.2 hz k6 hro) ⟨?_, ho H hPH, ?_⟩ rfl hnn (by rw [hL.2.1]) rfl (lv_room hrest) hd hc) hS (fun _ h => h) ?_
  · intro a U g mk q
    exact ⟨q.1, hPM _ _ _ (Vm.Alike.refl U.vm) q.2.1, XS.same (u := U) rfl q.2.2.1, q.2.2.2⟩
  · intro U hU hW
    refine ⟨rfl, by rw [hU]; exact hPM _ _ _ hW.alike hPH, ?_, by rw [hU]; exact Nat.le_trans hE.2 hS.1⟩
    rw [hU]
    exact (hE.1.kept (fun a h1 h2 => hS.2.1 a h1 h2)).warm hW
  · intro r u t H1 locs1 ht hvm hp hB hS1
    exact kk r u hp H1 locs1 ls (by rw [← ht]; exact hPM' u _ _ _ hvm.symm hB) hS1 hL
theorem V_ca (C : CX x cc own R) (hE : CE E (xs x) (xs x).heap) {idx nn ynL : Nat} {Cn owner : String} {b : Nat} {As rest : List Value} {y0 y : MethodName} {ycc : ByteArray} {ret : Option FieldType} {rm : Room} {v : Value} {σ0 : Sg}
    (hd : D1 cc pc (.invokevirtual idx) 3 pc') (hM : MD (xl x) y ycc ynL ret rm E (.ref b :: As) σ (some v) σ0) (hk : KA Cn owner y0 y ycc ynL ret nn) (hl : Cond.methodLink own idx y0 ∈ lw_gd) (hz : va_Nw (.declares ⟨owner, y0.name, y0.desc⟩) (xs x)) (ho : IsO (xs x) (AP x E σ) b Cn) (hst : st = As.reverse ++ .ref b :: rest) (hro : ROb rm ynL R nn As rest = true) (hkc : (Nat.ble k R.cells && Nat.ble n R.slots) = true)
    (h : V x (eA E) (AP x E σ0) k n pc' L (v :: rest)) : V x (eA E) (AP x E σ) k n pc L st := by
  simp only [ROb, Bool.and_eq_true, Nat.ble_eq, beq_iff_eq] at hro
  simp only [Bool.and_eq_true, Nat.ble_eq] at hkc
  refine V_callA C hE hd hM hk hl hz ho ⟨hro.1.1.1.1.1, hro.1.1.1.1.2⟩ ⟨hro.1.1.1.2, hro.1.1.2⟩ hro.1.2 hkc hst hro.2 PM_A (fun _ => PM_A) ?_
  rintro r u ⟨rfl, rfl⟩
  exact h
theorem V_ca0 (C : CX x cc own R) (hE : CE E (xs x) (xs x).heap) {idx nn ynL : Nat} {Cn owner : String} {b : Nat} {As rest : List Value} {y0 y : MethodName} {ycc : ByteArray} {ret : Option FieldType} {rm : Room} {σ0 : Sg}
    (hd : D1 cc pc (.invokevirtual idx) 3 pc') (hM : MD (xl x) y ycc ynL ret rm E (.ref b :: As) σ none σ0) (hk : KA Cn owner y0 y ycc ynL ret nn) (hl : Cond.methodLink own idx y0 ∈ lw_gd) (hz : va_Nw (.declares ⟨owner, y0.name, y0.desc⟩) (xs x)) (ho : IsO (xs x) (AP x E σ) b Cn) (hst : st = As.reverse ++ .ref b :: rest) (hro : ROb rm ynL R nn As rest = true) (hkc : (Nat.ble k R.cells && Nat.ble n R.slots) = true)
    (h : V x (eA E) (AP x E σ0) k n pc' L rest) : V x (eA E) (AP x E σ) k n pc L st := by
  simp only [ROb, Bool.and_eq_true, Nat.ble_eq, beq_iff_eq] at hro
  simp only [Bool.and_eq_true, Nat.ble_eq] at hkc
  refine V_callA C hE hd hM hk hl hz ho ⟨hro.1.1.1.1.1, hro.1.1.1.1.2⟩ ⟨hro.1.1.1.2, hro.1.1.2⟩ hro.1.2 hkc hst hro.2 PM_A (fun _ => PM_A) ?_
  rintro r u ⟨rfl, rfl⟩
  exact h
theorem V_cSN (C : CX x cc own R) (hE : CE E (xs x) (xs x).heap) {idx nn ynL : Nat} {host : String} {As rest : List Value} {y : MethodName} {ycc : ByteArray} {ret : Option FieldType} {rm : Room} {v : Value} {σ0 : Sg}
    (hd : D1 cc pc (.invokestatic idx) 3 pc') (hM : MD (xl x) y ycc ynL ret rm E As σ (some v) σ0) (hk : KN y ycc ynL ret nn) (hl : Cond.methodLinkNest own idx y host ∈ lw_nw) (hin : Cond.static y ∈ lw_gd) (hst : st = As.reverse ++ rest) (hro : ROb rm ynL R nn As rest = true) (hkc : (Nat.ble k R.cells && Nat.ble n R.slots) = true)
    (h : V x (eA E) (AP x E σ0) k n pc' L (v :: rest)) : V x (eA E) (AP x E σ) k n pc L st := by
  simp only [ROb, Bool.and_eq_true, Nat.ble_eq, beq_iff_eq] at hro
  simp only [Bool.and_eq_true, Nat.ble_eq] at hkc
  refine V_callSN C hE hd hM hk hl hin ⟨hro.1.1.1.1.1, hro.1.1.1.1.2⟩ ⟨hro.1.1.1.2, hro.1.1.2⟩ hro.1.2 hkc hst hro.2 PM_A (fun _ => PM_A) ?_
  rintro r u ⟨rfl, rfl⟩
  exact h
end MAKE
/-- the wish's cell -/
theorem eN_86 {E : En} (h : eW E ≠ 0) : eN E = 86 := if_neg h
theorem ABS_85 {σ ρ : Sg} (h : ABS σ ρ) : σ 85 = ρ 85 := h.2.1 85 (by omega) (by omega) (by omega) (by omega) (by omega)
theorem rd85 {x : Cx} {E : En} {σ : Sg} {fs : List Value} {ci j N : Nat} {Cn : String} {T : u_T} {w : Value} (hw : eW E ≠ 0) (he : celf E 85 (σ 85) = .inr (ci, fs)) (hcl : classes[ci]? = some (Cn, T, N)) (hv : fs[j]? = some w) : RdF (xs x) (AP x E σ) (ad E 85) Cn T N j w :=
  ardF fun ρ h => rdF (by rw [eN_86 hw]; omega) (by rw [← ABS_85 h]; exact he) hcl hv
theorem wr85 {x : Cx} {E : En} {σ : Sg} {fs : List Value} {ci j N : Nat} {Cn : String} {T : u_T} {y : Int32} (hw : eW E ≠ 0) (he : celf E 85 (σ 85) = .inr (ci, fs)) (hcl : classes[ci]? = some (Cn, T, N)) (hj : j < fs.length) (hg : celf E 85 (upd (σ 85) j y) = .inr (ci, fs.set j (.int y))) : WrF (xs x) (eA E) (AP x E σ) (ad E 85) Cn T N j (.int y) (AP x E (us σ 85 (upd (σ 85) j y))) :=
  awrF fun ρ h => ⟨_, abs_other h rfl, wrF (by rw [eN_86 hw]; omega) (by rw [← ABS_85 h]; exact he) hcl hj hg⟩
theorem iso85 {x : Cx} {E : En} {σ : Sg} {fs : List Value} {ci N : Nat} {Cn : String} {T : u_T} (hw : eW E ≠ 0) (he : celf E 85 (σ 85) = .inr (ci, fs)) (hcl : classes[ci]? = some (Cn, T, N)) : IsO (xs x) (AP x E σ) (ad E 85) Cn :=
  aisO fun ρ h => isO (by rw [eN_86 hw]; omega) (by rw [← ABS_85 h]; exact he) hcl
theorem cel85_1 {E : En} (h : eW E = 1) (f : Nat → Int32) : celf E 85 f = .inr (6, [.int (f 0), .int (f 1)]) := by
  show (match eW E with | 1 => _ | 2 => _ | 3 => _ | 4 => _ | 5 => _ | _ => _) = _
  rw [h] <;> rfl
theorem cel85_2 {E : En} (h : eW E = 2) (f : Nat → Int32) : celf E 85 f = .inr (4, [.int (f 0), .int (f 1)]) := by
  show (match eW E with | 1 => _ | 2 => _ | 3 => _ | 4 => _ | 5 => _ | _ => _) = _
  rw [h] <;> rfl
theorem cel85_3 {E : En} {s : Nat} (h : eW E = 3 + s) (hs : s < 4) (f : Nat → Int32) : celf E 85 f = .inr (0, [.ref (ad E (shc s)), .int (f 1)]) := by
  show (match eW E with | 1 => _ | 2 => _ | 3 => _ | 4 => _ | 5 => _ | _ => _) = _
  rw [h]
  rcases (show s = 0 ∨ s = 1 ∨ s = 2 ∨ s = 3 by omega) with rfl | rfl | rfl | rfl <;> rfl
