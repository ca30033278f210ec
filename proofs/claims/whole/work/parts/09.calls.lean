/-! CONTRACTS AND CALLS -/
def nTx : Nat := 15
def lenTx : List Nat := [5, 6, 8, 4, 5, 5, 6, 4, 4, 4, 5, 5, 3, 3, 4]
def bytTx : List (List Int32) := [[104, 111, 117, 115, 101], [106, 111, 105, 110, 101, 100], [100, 114, 97, 117, 103, 104, 116, 121], [100, 101, 101, 112], [101, 109, 112, 116, 121], [112, 114, 111, 117, 100], [115, 109, 105, 116, 104, 121], [119, 97, 114, 109], [119, 97, 108, 108], [108, 111, 103, 115], [98, 111, 117, 110, 100], [115, 116, 101, 101, 112], [111, 117, 116], [105, 99, 101], [116, 104, 97, 119]]
def idxTx : List Nat := [69, 71, 73, 75, 77, 79, 81, 87, 93, 95, 97, 47, 56, 61, 63]
def txTx : List String := ["house", "joined", "draughty", "deep", "empty", "proud", "smithy", "warm", "wall", "logs", "bound", "steep", "out", "ice", "thaw"]
/-- texts and the JDK's statics, as the law's start gives them -/
def XS (E : En) (s : State) (H : Heap) : Prop := vk_S nTx lenTx bytTx (eK E) (eV E) (eA E) s H ∧ (∀ i, i < nTx → vk_R RX2 (idxTx.getD i 0) (txTx.getD i "") (eK E i) s) ∧ va_Z "java/lang/String" "COMPACT_STRINGS" "Z" (.int 1) (eA E) s H ∧ va_Zq "jdk/internal/util/Preconditions" "SIOOBE_FORMATTER" "Ljava/util/function/BiFunction;" (eA E) s H ∧ NW s
theorem XS.kept {E : En} {s : State} {H H1 : Heap} (h : XS E s H) (hq : ∀ a : Nat, a < H.size → ¬ eA E a → H1[a]? = H[a]?) : XS E s H1 := ⟨h.1.kept hq, h.2.1, h.2.2.1.kept hq, h.2.2.2.1.kept hq, h.2.2.2.2⟩
theorem XS.warm {E : En} {s U : State} {H : Heap} (hW : s.WarmedH U.vm) (h : XS E s H) : XS E U H := ⟨vk_S.moved hW.alike h.1, fun i hi => (h.2.1 i hi).warm hW, va_Z.moved hW.alike h.2.2.1, va_Zq.moved hW.alike h.2.2.2.1, h.2.2.2.2.warm hW⟩
theorem XS.same {E : En} {u U : State} {H : Heap} (hv : U.vm = u.vm) (h : XS E u H) : XS E U H := ⟨vk_S.moved (hv ▸ Vm.Alike.refl _) h.1, fun i hi => (h.2.1 i hi).same hv, va_Z.moved (hv ▸ Vm.Alike.refl _) h.2.2.1, va_Zq.moved (hv ▸ Vm.Alike.refl _) h.2.2.2.1, h.2.2.2.2.same hv⟩
/-- what holds at the start of every method of ours, beside the memory -/
def CE (E : En) (s : State) (H : Heap) : Prop := XS E s H ∧ eB E ≤ H.size
theorem CE.nw {E : En} {s : State} {H : Heap} (h : CE E s H) : NW s := h.1.2.2.2.2
def QG {S : Type} (post : Option Value → S → Prop) (B : S → State → Prop) (A : Nat → Prop) : Array Value → State → Outcome → State → Prop := fun _ st oc t => (∃ (r : Option Value) (u : S), oc = .returned r ∧ post r u ∧ B u t) ∧ va_F A st t
/-- a picture that goes with the machine's tables -/
def PM (P : State → Heap → Prop) : Prop := ∀ (u U : State) (H : Heap), u.vm.Alike U.vm → P u H → P U H
theorem PM_R {E : En} {ρ : Sg} : PM (PR E ρ) := fun _ _ _ hvm h => h.moved hvm
/-- a contract: from P, with the arguments av, the method returns r with post r u, and P' u holds -/
def MG (l : Launch) (y : MethodName) (cc : ByteArray) (nL : Nat) (ret : Option FieldType) (rm : Room) (mc ms : Nat) (E : En) (av : List Value) (P : State → Heap → Prop) {S : Type} (post : Option Value → S → Prop) (P' : S → State → Heap → Prop) : Prop :=
  Met l y (.code y cc nL ret :: lw_gd) rm (va_Pc av (fun U => P U U.heap ∧ CE E U U.heap)) (QG post (fun u t => P' u t t.heap) (eA E)) mc ms (eA E)
/-- how a method ends -/
def RT (x : Cx) (ret : Option FieldType) (E : En) {S : Type} (post : Option Value → S → Prop) (P' : S → State → Heap → Prop) (mc ms : Nat) : Prop :=
  match x with
  | (_, _, _, _, s, _, args, below, meth, _, Q) => Q = MQ below (QG post (fun u t => P' u t t.heap) (eA E)) args s mc ms (eA E) ∧ meth.sig.returnType = ret ∧ meth.locks = false
def lst0 : List Value → List (Option Value)
  | [] => []
  | v :: vs => if v.category = 2 then some v :: none :: lst0 vs else some v :: lst0 vs
def lst (nL : Nat) (av : List Value) : List (Option Value) := lst0 av ++ List.replicate (nL - (lst0 av).length) none
theorem lvL_app : ∀ (a b : List (Option Value)) (i : Nat), lvL i (a ++ b) = lvL i a ++ lvL (i + a.length) b := by
  intro a
  induction a with
  | nil => intro b i; simp [lvL]
  | cons o a ih =>
    intro b i
    cases o with
    | none => simp only [List.cons_append, lvL, ih, List.length_cons]; rw [show i + 1 + a.length = i + (a.length + 1) by omega]
    | some v => simp only [List.cons_append, lvL, ih, List.length_cons]; rw [show i + 1 + a.length = i + (a.length + 1) by omega]
theorem lvL_none (n i : Nat) : lvL i (List.replicate n none) = [] := by
  induction n generalizing i with
  | zero => rfl
  | succ n ih => simp only [List.replicate_succ, lvL, ih]
theorem lvL_lst0 : ∀ (av : List Value) (i : Nat), lvL i (lst0 av) = lv_args i av := by
  intro av
  induction av with
  | nil => intro i; rfl
  | cons v vs ih =>
    intro i
    by_cases hc : v.category = 2
    · simp only [lst0, hc, if_true, lvL, lv_args, ih]
    · simp only [lst0, hc, if_false, lvL, lv_args, ih]
theorem lst0_len : ∀ (av : List Value), (lst0 av).length = (lg_sl av).length := by
  intro av
  induction av with
  | nil => rfl
  | cons v vs ih =>
    by_cases hc : v.category = 2
    · simp only [lst0, hc, if_true, List.length_cons, ih]; simp [lg_sl, hc, ih]
    · simp only [lst0, hc, if_false, List.length_cons, ih]; simp [lg_sl, hc, ih]
theorem MG_of {l : Launch} {y : MethodName} {cc : ByteArray} {nL : Nat} {ret : Option FieldType} {rm : Room} {mc ms : Nat} {E : En} {av : List Value} {P : State → Heap → Prop} {S : Type} {post : Option Value → S → Prop} {P' : S → State → Heap → Prop}
    (hy : plainName y.cls = true) (hn : Nat.ble (lst0 av).length nL = true)
    (body : ∀ x : Cx, CX x cc y.cls rm → CE E (xs x) (xs x).heap → RT x ret E post P' mc ms → V x (eA E) (fun H => P (xs x) H) 0 0 0 (lst nL av) []) : MG l y cc nL ret rm mc ms E av P post P' := by
  refine Met.ofW hy rfl ?_
  intro p e s m args below meth c s₁ B hml hv
  obtain ⟨rfl, hP, hE⟩ := hv
  have hts := atoms_spec (ws := .code y cc nL ret :: lw_gd) B.pre
  have hb := body (p, l, e, rm, s, m, av.toArray, below, meth, c, _) ⟨B.exec, B.bytes, rfl, findClass_of_methodNamed B.named, fun w hw => hts w (List.mem_cons_of_mem _ hw)⟩ hE ⟨rfl, B.returns, B.notSynchronized⟩
  have hn' : (lg_sl av).length ≤ nL := by rw [← lst0_len]; exact Nat.le_of_ble_eq_true hn
  have hl := lv_entry av (n := nL) hn'
  rw [lg_entry_eq]
  refine hb s.heap [] _ hP va_S.rf ?_
  refine ⟨?_, ?_⟩
  · rw [hml]; simp only [lst, List.length_append, List.length_replicate, lst0_len]; omega
  · rw [hml]; unfold lst; rw [lvL_app, lvL_none, List.append_nil, lvL_lst0]; exact hl
section CALLS
variable {x : Cx} {cc : ByteArray} {own : String} {R : Room} {E : En} {k n pc pc' tgt : Nat} {L : List (Option Value)} {st : List Value}
theorem V_iret (C : CX x cc own R) {S : Type} {post : Option Value → S → Prop} {P' : S → State → Heap → Prop} {u : S} {a : Int32} {P : Heap → Prop} (hd : D1 cc pc .ireturn 1 pc') (hT : RT x (some .int) E post P' k n) (hp : post (some (.int a)) u) (hP : ∀ H, P H → P' u (xs x) H) (hM : PM (P' u)) : V x (eA E) P k n pc L [.int a] := by
  obtain ⟨p, l, e, R', s, m, args, below, meth, c, Q⟩ := x
  obtain ⟨hx, hb, hR, hown, hts⟩ := C
  obtain ⟨rfl, hr, hlk⟩ := hT
  intro H locs ls hPH hS hL
  exact W.iret hx hb hr (fun t ht hW => ⟨⟨_, u, rfl, hp, by show P' u t t.heap; rw [ht]; exact hM _ _ _ hW.alike (hP H hPH)⟩, hS.F ht⟩) hS.2.2 hd.1 hlk
theorem V_zret (C : CX x cc own R) {S : Type} {post : Option Value → S → Prop} {P' : S → State → Heap → Prop} {u : S} {a : Int32} {P : Heap → Prop} (hd : D1 cc pc .ireturn 1 pc') (hT : RT x (some .boolean) E post P' k n) (hn : narrow .boolean (.int a) = .int a) (hp : post (some (.int a)) u) (hP : ∀ H, P H → P' u (xs x) H) (hM : PM (P' u)) : V x (eA E) P k n pc L [.int a] := by
  obtain ⟨p, l, e, R', s, m, args, below, meth, c, Q⟩ := x
  obtain ⟨hx, hb, hR, hown, hts⟩ := C
  obtain ⟨rfl, hr, hlk⟩ := hT
  intro H locs ls hPH hS hL
  exact W.zret hx hb hr hn (fun t ht hW => ⟨⟨_, u, rfl, hp, by show P' u t t.heap; rw [ht]; exact hM _ _ _ hW.alike (hP H hPH)⟩, hS.F ht⟩) hS.2.2 hd.1 hlk
theorem V_ret (C : CX x cc own R) {S : Type} {post : Option Value → S → Prop} {P' : S → State → Heap → Prop} {u : S} {P : Heap → Prop} (hd : D1 cc pc .return_ 1 pc') (hT : RT x none E post P' k n) (hp : post none u) (hP : ∀ H, P H → P' u (xs x) H) (hM : PM (P' u)) : V x (eA E) P k n pc L [] := by
  obtain ⟨p, l, e, R', s, m, args, below, meth, c, Q⟩ := x
  obtain ⟨hx, hb, hR, hown, hts⟩ := C
  obtain ⟨rfl, hr, hlk⟩ := hT
  intro H locs ls hPH hS hL
  exact W.vret hx hb hr (fun t ht hW => ⟨⟨_, u, rfl, hp, by show P' u t t.heap; rw [ht]; exact hM _ _ _ hW.alike (hP H hPH)⟩, hS.F ht⟩) hS.2.2 hd.1 hlk
theorem V_aret (C : CX x cc own R) {S : Type} {post : Option Value → S → Prop} {P' : S → State → Heap → Prop} {u : S} {v : Value} {nm : String} {P : Heap → Prop} (hd : D1 cc pc .areturn 1 pc') (hT : RT x (some (.object nm)) E post P' k n) (hv : v = .null ∨ ∃ a, v = .ref a) (hp : post (some v) u) (hP : ∀ H, P H → P' u (xs x) H) (hM : PM (P' u)) : V x (eA E) P k n pc L [v] := by
  obtain ⟨p, l, e, R', s, m, args, below, meth, c, Q⟩ := x
  obtain ⟨hx, hb, hR, hown, hts⟩ := C
  obtain ⟨rfl, hr, hlk⟩ := hT
  intro H locs ls hPH hS hL
  exact W.aret hx hb hr (Or.inl ⟨nm, rfl⟩) hv (fun t ht hW => ⟨⟨_, u, rfl, hp, by show P' u t t.heap; rw [ht]; exact hM _ _ _ hW.alike (hP H hPH)⟩, hS.F ht⟩) hS.2.2 hd.1 hlk
theorem V_lret (C : CX x cc own R) {S : Type} {post : Option Value → S → Prop} {P' : S → State → Heap → Prop} {u : S} {a : Int64} {P : Heap → Prop} (hd : D1 cc pc .lreturn 1 pc') (hT : RT x (some .long) E post P' k n) (hp : post (some (.long a)) u) (hP : ∀ H, P H → P' u (xs x) H) (hM : PM (P' u)) : V x (eA E) P k n pc L [.long a] := by
  obtain ⟨p, l, e, R', s, m, args, below, meth, c, Q⟩ := x
  obtain ⟨hx, hb, hR, hown, hts⟩ := C
  obtain ⟨rfl, hr, hlk⟩ := hT
  intro H locs ls hPH hS hL
  exact W.lret hx hb hr (fun t ht hW => ⟨⟨_, u, rfl, hp, by show P' u t t.heap; rw [ht]; exact hM _ _ _ hW.alike (hP H hPH)⟩, hS.F ht⟩) hS.2.2 hd.1 hlk
theorem callG {p : Program} {l : Launch} {e : Env} {R : Room} {s : State} {m : MethodId} {args : Array Value} {below : List Frame} {meth : Method} {c : Code} {H : Heap} {locs : List Loc} {Q : State → Prop} {ls : Array Slot} {rest st0 : List Value} {a : Array Value} {A : Nat → Prop} {H0 : Heap} {mc ms : Nat} {free : Addr → Prop} {S : Type} {post : Option Value → S → Prop} {B : S → State → Prop}
    (hr : va_Run p l e R s m args below meth c H locs k n mc ms (F0 m pc ls st0) rest (QG post B A a) free) (hS : va_S A H0 H locs) (hf : ∀ q, free q → A q)
    (kk : ∀ (r : Option Value) (u : S) (t : State) (H1 : Heap) (locs1 : List Loc), t.heap = H1 → s.vm.Alike t.vm → post r u → B u t → va_S A H0 H1 locs1 → W p l e R s m args below meth c H1 locs1 (k + mc) (n + ms) Q (F0 m (pc + 3) ls (r.toList ++ rest))) : W p l e R s m args below meth c H locs k n Q (F0 m pc ls st0) := by
  intro T hT X
  obtain ⟨v, st₀, t, T', L, h0, X', hL, e1, e2, ⟨⟨r, u, hv, hp, hb⟩, hz, hk⟩, st⟩ := hr T hT X
  cases hv
  rw [h0] at hz hk
  obtain ⟨t2, a1, b1⟩ := kk v u t T'.heap (locs ++ L) e1.symm (by rw [← e2]; exact X'.warmed.alike) hp hb
    ⟨Nat.le_trans hS.1 (by rw [e1]; exact hz), fun q h1 h2 => by rw [e1, hk q (Nat.lt_of_lt_of_le h1 hS.1) h2]; exact hS.2.1 q h1 h2, fun q hq => by
      rcases List.mem_append.mp hq with h | h
      · exact hS.2.2 q h
      · exact hf _ (hL q h)⟩ T' rfl X'
  exact ⟨t2, st t2 a1, b1⟩
/-- what the tables say of a method that is called on an object -/
def KV (Cn : String) (y : MethodName) (ycc : ByteArray) (ynL : Nat) (ret : Option FieldType) (nn : Nat) : Prop := Cond.instanceMethod y ∈ lw_gd ∧ Cond.selects Cn y y ∈ lw_gd ∧ Cond.initialized Cn ∈ lw_gd ∧ Cond.code y ycc ynL ret ∈ lw_gd ∧ (y.cls = Cn ∧ y.cls ≠ "java/lang/invoke/MethodHandle" ∧ y.cls ≠ "java/lang/invoke/VarHandle" ∧ (parseMethodDescriptor y.desc).map (fun d => d.parameters.length) = some nn)
/-- of a static one -/
def KS (Cn : String) (y : MethodName) (ycc : ByteArray) (ynL : Nat) (ret : Option FieldType) (nn : Nat) : Prop := Cond.static y ∈ lw_gd ∧ Cond.initialized Cn ∈ lw_gd ∧ Cond.code y ycc ynL ret ∈ lw_gd ∧ (y.cls = Cn ∧ y.cls ≠ "java/lang/invoke/MethodHandle" ∧ y.cls ≠ "java/lang/invoke/VarHandle" ∧ (parseMethodDescriptor y.desc).map (fun d => d.parameters.length) = some nn)
/-- the callee's room fits -/
def RO (rm : Room) (ynL : Nat) (R : Room) : Prop := rm.frames + 1 ≤ R.frames ∧ 8 + (ynL + 11) + rm.locals ≤ R.locals
theorem V_call (C : CX x cc own R) (hE : CE E (xs x) (xs x).heap) {idx nn ynL mc ms : Nat} {Cn : String} {b : Nat} {As rest : List Value} {y : MethodName} {ycc : ByteArray} {ret : Option FieldType} {rm : Room} {P : State → Heap → Prop} {S : Type} {post : Option Value → S → Prop} {P' : S → State → Heap → Prop}
    (hd : D1 cc pc (.invokevirtual idx) 3 pc') (hM : MG (xl x) y ycc ynL ret rm mc ms E (.ref b :: As) P post P') (hk : KV Cn y ycc ynL ret nn) (hl : Cond.methodLink own idx y ∈ lw_gd) (ho : IsO (xs x) (fun H => P (xs x) H) b Cn) (hro : RO rm ynL R) (hcc : rm.cells = mc ∧ rm.slots = ms) (hnn : As.length = nn) (hc : k + mc ≤ R.cells ∧ n + ms ≤ R.slots) (hst : st = As.reverse ++ .ref b :: rest) (hrest : (rest.map fun v => v.category).sum ≤ 8) (hPM : PM P) (hPM' : ∀ u, PM (P' u))
    (kk : ∀ (r : Option Value) (u : S), post r u → V x (eA E) (fun H => P' u (xs x) H) (k + mc) (n + ms) pc' L (r.toList ++ rest)) : V x (eA E) (fun H => P (xs x) H) k n pc L st := by
  obtain ⟨p, l, e, R', s, m, args, below, meth, c, Q⟩ := x
  obtain ⟨hx, hb, hR, hown, hts⟩ := C
  obtain ⟨hd, rfl⟩ := hd
  obtain ⟨k1, k2, k3, k4, k5⟩ := hk
  have hR : R' = R := hR
  subst hR
  subst hst
  intro H locs ls hPH hS hL
  have hG : GoodIn lw_gd (wsV own idx Cn y (.code y ycc ynL ret :: lw_gd)) := fun w hw => lw_gd_ok w (by
    unfold wsV at hw
    simp only [List.cons_append, List.nil_append, List.mem_cons] at hw
    rcases hw with rfl | rfl | rfl | rfl | rfl | h <;> assumption)
  refine callG (va_runV (As := As) (rest := rest) (nL := c.maxLocals) ⟨hx, hb, rfl, hown, hts⟩ hM (cwV nn hts hG rfl hcc.1 hcc.2 k5 hro) ⟨?_, ho H hPH, ?_⟩ rfl hnn (by rw [hL.2.1]) rfl (lv_room hrest) hd hc) hS (fun _ h => h) ?_
  · intro a U g mk q
    exact ⟨q.1, hPM _ _ _ (Vm.Alike.refl U.vm) q.2.1, XS.same (u := U) rfl q.2.2.1, q.2.2.2⟩
  · intro U hU hW
    refine ⟨rfl, by rw [hU]; exact hPM _ _ _ hW.alike hPH, ?_, by rw [hU]; exact Nat.le_trans hE.2 hS.1⟩
    rw [hU]
    exact (hE.1.kept (fun a h1 h2 => hS.2.1 a h1 h2)).warm hW
  · intro r u t H1 locs1 ht hvm hp hB hS1
    exact kk r u hp H1 locs1 ls (by rw [← ht]; exact hPM' u _ _ _ hvm.symm hB) hS1 hL
theorem V_callS (C : CX x cc own R) (hE : CE E (xs x) (xs x).heap) {idx nn ynL mc ms : Nat} {As rest : List Value} {y : MethodName} {ycc : ByteArray} {ret : Option FieldType} {rm : Room} {P : State → Heap → Prop} {S : Type} {post : Option Value → S → Prop} {P' : S → State → Heap → Prop}
    (hd : D1 cc pc (.invokestatic idx) 3 pc') (hM : MG (xl x) y ycc ynL ret rm mc ms E As P post P') (hk : KS own y ycc ynL ret nn) (hl : Cond.methodLink own idx y ∈ lw_gd) (hro : RO rm ynL R) (hcc : rm.cells = mc ∧ rm.slots = ms) (hnn : As.length = nn) (hc : k + mc ≤ R.cells ∧ n + ms ≤ R.slots) (hst : st = As.reverse ++ rest) (hrest : (rest.map fun v => v.category).sum ≤ 8) (hPM : PM P) (hPM' : ∀ u, PM (P' u))
    (kk : ∀ (r : Option Value) (u : S), post r u → V x (eA E) (fun H => P' u (xs x) H) (k + mc) (n + ms) pc' L (r.toList ++ rest)) : V x (eA E) (fun H => P (xs x) H) k n pc L st := by
  obtain ⟨p, l, e, R', s, m, args, below, meth, c, Q⟩ := x
  obtain ⟨hx, hb, hR, hown, hts⟩ := C
  obtain ⟨hd, rfl⟩ := hd
  obtain ⟨k1, k3, k4, k5⟩ := hk
  have hR : R' = R := hR
  subst hR
  subst hst
  intro H locs ls hPH hS hL
  have hG : GoodIn lw_gd (wsS own idx y (.code y ycc ynL ret :: lw_gd)) := fun w hw => lw_gd_ok w (by
    unfold wsS at hw
    simp only [List.cons_append, List.nil_append, List.mem_cons] at hw
    rcases hw with rfl | rfl | rfl | rfl | h <;> assumption)
  refine callG (va_runS (As := As) (rest := rest) (nL := c.maxLocals) ⟨hx, hb, rfl, hown, hts⟩ hM (cwS nn hts hG rfl hcc.1 hcc.2 k5 hro) ⟨?_, ?_⟩ rfl hnn (by rw [hL.2.1]) rfl (lv_room hrest) hd hc) hS (fun _ h => h) ?_
  · intro a U g mk q
    exact ⟨q.1, hPM _ _ _ (Vm.Alike.refl U.vm) q.2.1, XS.same (u := U) rfl q.2.2.1, q.2.2.2⟩
  · intro U hU hW
    refine ⟨rfl, by rw [hU]; exact hPM _ _ _ hW.alike hPH, ?_, by rw [hU]; exact Nat.le_trans hE.2 hS.1⟩
    rw [hU]
    exact (hE.1.kept (fun a h1 h2 => hS.2.1 a h1 h2)).warm hW
  · intro r u t H1 locs1 ht hvm hp hB hS1
    exact kk r u hp H1 locs1 ls (by rw [← ht]; exact hPM' u _ _ _ hvm.symm hB) hS1 hL
end CALLS
