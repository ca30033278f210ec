/-! THE JUDGEMENT V: a method's machine seen through a picture P of its heap, positional locals and a stack -/
abbrev Cx : Type := Program × Launch × Env × Room × State × MethodId × Array Value × List Frame × Method × Code × (State → Prop)
abbrev xP (x : Cx) : Program := x.1
abbrev xl (x : Cx) : Launch := x.2.1
abbrev xR (x : Cx) : Room := x.2.2.2.1
abbrev xs (x : Cx) : State := x.2.2.2.2.1
def stOK (L : List (Option Value)) (i : Nat) : Bool := Nat.blt i L.length && (i == 0 || match L[i-1]? with | some (some v) => v.category == 1 | _ => true)
def stOK2 (L : List (Option Value)) (i : Nat) : Bool := Nat.blt (i+1) L.length && (i == 0 || match L[i-1]? with | some (some v) => v.category == 1 | _ => true) && (match L[i+1]? with | some (some _) => false | _ => true)
def lvL : Nat → List (Option Value) → List (Nat × Value)
  | _, [] => []
  | i, none :: L => lvL (i + 1) L
  | i, some v :: L => (i, v) :: lvL (i + 1) L
theorem lvL_mem : ∀ (L : List (Option Value)) (i j : Nat) (v : Value), (j, v) ∈ lvL i L ↔ ∃ k, j = i + k ∧ L[k]? = some (some v) := by
  intro L
  induction L with
  | nil => intro i j v; simp [lvL]
  | cons o L ih =>
    intro i j v
    cases o with
    | none =>
      simp only [lvL, ih]
      constructor
      · rintro ⟨k, rfl, h⟩; exact ⟨k + 1, by omega, by simpa using h⟩
      · rintro ⟨k, rfl, h⟩
        cases k with
        | zero => simp at h
        | succ k => exact ⟨k, by omega, by simpa using h⟩
    | some w =>
      simp only [lvL, List.mem_cons, ih]
      constructor
      · rintro (h | ⟨k, rfl, h⟩)
        · obtain ⟨rfl, rfl⟩ := Prod.mk.inj h; exact ⟨0, by omega, by simp⟩
        · exact ⟨k + 1, by omega, by simpa using h⟩
      · rintro ⟨k, rfl, h⟩
        cases k with
        | zero =>
          have hw : w = v := by simpa using h
          exact Or.inl (by rw [hw]; simp)
        | succ k => exact Or.inr ⟨k, by omega, by simpa using h⟩
theorem stOK_lt {L : List (Option Value)} {i : Nat} (h : stOK L i = true) : i < L.length := by
  unfold stOK at h
  exact Nat.le_of_ble_eq_true (Bool.and_eq_true_iff.mp h).1
def LH (nL : Nat) (L : List (Option Value)) (ls : Array Slot) : Prop := L.length = nL ∧ lv_has ls nL (lvL 0 L)
theorem LH.at {nL : Nat} {L : List (Option Value)} {ls : Array Slot} (h : LH nL L ls) {i : Nat} {v : Value} (hi : L[i]? = some (some v)) : ls[i]? = some (.val v) :=
  h.2.2.2 (i, v) ((lvL_mem L 0 i v).mpr ⟨i, by omega, hi⟩)
theorem LH.st {nL : Nat} {L : List (Option Value)} {ls ls' : Array Slot} (h : LH nL L ls) {i : Nat} {v : Value} (ho : stOK L i = true)
    (h' : lv_has ls' nL ((i, v) :: (lvL 0 L).filter (fun q => !(q.1 == i) && !(q.1 + 1 == i && q.2.category == 2)))) : LH nL (L.set i (some v)) ls' := by
  have hlt := stOK_lt ho
  simp only [stOK, Bool.and_eq_true, Bool.or_eq_true] at ho
  refine ⟨by rw [List.length_set]; exact h.1, h'.1, h'.2.1, fun q hq => h'.2.2 q ?_⟩
  obtain ⟨j, w⟩ := q
  obtain ⟨k, hk, hw⟩ := (lvL_mem _ 0 j w).mp hq
  have hjk : k = j := by omega
  subst hjk
  by_cases hki : k = i
  · subst hki
    rw [List.getElem?_set_self hlt] at hw
    have : v = w := by simpa using hw
    subst this
    exact List.mem_cons_self
  · rw [List.getElem?_set_ne (Ne.symm hki)] at hw
    refine List.mem_cons_of_mem _ (List.mem_filter.mpr ⟨(lvL_mem L 0 k w).mpr ⟨k, by omega, hw⟩, ?_⟩)
    simp only [Bool.and_eq_true, Bool.not_eq_true', beq_eq_false_iff_ne, ne_eq]
    refine ⟨hki, ?_⟩
    by_cases hk1 : k + 1 = i
    · subst hk1
      rcases ho.2 with h0 | h0
      · simp at h0
      · simp only [Nat.add_sub_cancel, hw] at h0
        have h1 : w.category = 1 := by simpa using h0
        simp [h1]
    · simp [hk1]
def V (x : Cx) (A : Nat → Prop) (P : Heap → Prop) (k n pc : Nat) (L : List (Option Value)) (st : List Value) : Prop :=
  match x with
  | (p, l, e, R, s, m, args, below, meth, c, Q) => ∀ (H : Heap) (locs : List Loc) (ls : Array Slot), P H → va_S A s.heap H locs → LH c.maxLocals L ls → W p l e R s m args below meth c H locs k n Q (F0 m pc ls st)
/-- what holds of a method's machine all along -/
def CX (x : Cx) (cc : ByteArray) (own : String) (R : Room) : Prop :=
  match x with
  | (p, _, _, R', s, m, args, _, _, c, _) => p.tables.exec = Jvm.exec ∧ c.code = cc ∧ R' = R ∧ s.vm.findClass own = some m.cls ∧ ∀ w ∈ lw_gd, w.before args s = true
def NW (s : State) : Prop := ∀ w ∈ lw_nw, va_Nw w s
theorem NW.same {u U : State} (hv : U.vm = u.vm) (h : NW u) : NW U := by
  intro w hw
  have hn := (List.mem_filter.mp hw).2
  have h1 := h w hw
  cases w <;> first | (cases hn; done) | exact va_Nw.same rfl hv.symm h1
theorem NW.warm {s U : State} (hW : s.WarmedH U.vm) (h : NW s) : NW U := by
  intro w hw
  have hn := (List.mem_filter.mp hw).2
  have h1 := h w hw
  cases w <;> first | (cases hn; done) | exact h1.warmF hW | exact h1.warmM hW
section ROWS
variable {x : Cx} {cc : ByteArray} {own : String} {R : Room} {A : Nat → Prop} {P : Heap → Prop} {k n pc pc' tgt : Nat} {L : List (Option Value)} {st : List Value}
def iush (a b : Int32) : Int32 := (a.toUInt32 >>> (b.toUInt32 &&& Int32.toUInt32 31)).toInt32
theorem V_iload_n (C : CX x cc own R) {i : Fin 4} {a : Int32} (hd : D1 cc pc (.iload_n i) 1 pc') (hl : L[(i : Nat)]? = some (some (.int a))) (h : V x A P k n pc' L (.int a :: st)) : V x A P k n pc L (st) := by
  obtain ⟨p, l, e, R', s, m, args, below, meth, c, Q⟩ := x
  obtain ⟨hx, hb, hR, hown, hts⟩ := C
  obtain ⟨hd, rfl⟩ := hd
  intro H locs ls hP hS hL
  exact lv_iload_n hx hb hd rfl (hL.at hl) (h H locs ls hP hS hL)
theorem V_iload (C : CX x cc own R) {i : Nat} {a : Int32} (hd : D1 cc pc (.iload i) 2 pc') (hl : L[i]? = some (some (.int a))) (h : V x A P k n pc' L (.int a :: st)) : V x A P k n pc L (st) := by
  obtain ⟨p, l, e, R', s, m, args, below, meth, c, Q⟩ := x
  obtain ⟨hx, hb, hR, hown, hts⟩ := C
  obtain ⟨hd, rfl⟩ := hd
  intro H locs ls hP hS hL
  exact lv_iload hx hb hd (hL.at hl) (h H locs ls hP hS hL)
theorem V_aload_n (C : CX x cc own R) {i : Fin 4} {a : Nat} (hd : D1 cc pc (.aload_n i) 1 pc') (hl : L[(i : Nat)]? = some (some (.ref a))) (h : V x A P k n pc' L (.ref a :: st)) : V x A P k n pc L (st) := by
  obtain ⟨p, l, e, R', s, m, args, below, meth, c, Q⟩ := x
  obtain ⟨hx, hb, hR, hown, hts⟩ := C
  obtain ⟨hd, rfl⟩ := hd
  intro H locs ls hP hS hL
  exact lv_aload_n hx hb hd rfl (hL.at hl) (h H locs ls hP hS hL)
theorem V_aload (C : CX x cc own R) {i : Nat} {a : Nat} (hd : D1 cc pc (.aload i) 2 pc') (hl : L[i]? = some (some (.ref a))) (h : V x A P k n pc' L (.ref a :: st)) : V x A P k n pc L (st) := by
  obtain ⟨p, l, e, R', s, m, args, below, meth, c, Q⟩ := x
  obtain ⟨hx, hb, hR, hown, hts⟩ := C
  obtain ⟨hd, rfl⟩ := hd
  intro H locs ls hP hS hL
  exact lv_aload hx hb hd (hL.at hl) (h H locs ls hP hS hL)
theorem V_lload_n (C : CX x cc own R) {i : Fin 4} {a : Int64} (hd : D1 cc pc (.lload_n i) 1 pc') (hl : L[(i : Nat)]? = some (some (.long a))) (h : V x A P k n pc' L (.long a :: st)) : V x A P k n pc L (st) := by
  obtain ⟨p, l, e, R', s, m, args, below, meth, c, Q⟩ := x
  obtain ⟨hx, hb, hR, hown, hts⟩ := C
  obtain ⟨hd, rfl⟩ := hd
  intro H locs ls hP hS hL
  exact lv_lload_n hx hb hd rfl (hL.at hl) (h H locs ls hP hS hL)
theorem V_lload (C : CX x cc own R) {i : Nat} {a : Int64} (hd : D1 cc pc (.lload i) 2 pc') (hl : L[i]? = some (some (.long a))) (h : V x A P k n pc' L (.long a :: st)) : V x A P k n pc L (st) := by
  obtain ⟨p, l, e, R', s, m, args, below, meth, c, Q⟩ := x
  obtain ⟨hx, hb, hR, hown, hts⟩ := C
  obtain ⟨hd, rfl⟩ := hd
  intro H locs ls hP hS hL
  exact lv_lload hx hb hd (hL.at hl) (h H locs ls hP hS hL)
theorem V_aload_nN (C : CX x cc own R) {i : Fin 4} (hd : D1 cc pc (.aload_n i) 1 pc') (hl : L[(i : Nat)]? = some (some .null)) (h : V x A P k n pc' L (.null :: st)) : V x A P k n pc L (st) := by
  obtain ⟨p, l, e, R', s, m, args, below, meth, c, Q⟩ := x
  obtain ⟨hx, hb, hR, hown, hts⟩ := C
  obtain ⟨hd, rfl⟩ := hd
  intro H locs ls hP hS hL
  exact lv_aload_nN hx hb hd rfl (hL.at hl) (h H locs ls hP hS hL)
theorem V_aloadN (C : CX x cc own R) {i : Nat} (hd : D1 cc pc (.aload i) 2 pc') (hl : L[i]? = some (some .null)) (h : V x A P k n pc' L (.null :: st)) : V x A P k n pc L (st) := by
  obtain ⟨p, l, e, R', s, m, args, below, meth, c, Q⟩ := x
  obtain ⟨hx, hb, hR, hown, hts⟩ := C
  obtain ⟨hd, rfl⟩ := hd
  intro H locs ls hP hS hL
  exact lv_aloadN hx hb hd (hL.at hl) (h H locs ls hP hS hL)
theorem V_istore_n (C : CX x cc own R) {i : Fin 4} {a : Int32} (hd : D1 cc pc (.istore_n i) 1 pc') (ho : stOK L (i : Nat) = true) (h : V x A P k n pc' (L.set (i : Nat) (some (.int a))) (st)) : V x A P k n pc L (.int a :: st) := by
  obtain ⟨p, l, e, R', s, m, args, below, meth, c, Q⟩ := x
  obtain ⟨hx, hb, hR, hown, hts⟩ := C
  obtain ⟨hd, rfl⟩ := hd
  intro H locs ls hP hS hL
  exact lv_istore_n hx hb hd rfl hL.2 (by rw [← hL.1]; exact stOK_lt ho) rfl (fun ls hl => h H locs ls hP hS (hL.st ho hl))
theorem V_istore (C : CX x cc own R) {i : Nat} {a : Int32} (hd : D1 cc pc (.istore i) 2 pc') (ho : stOK L i = true) (h : V x A P k n pc' (L.set i (some (.int a))) (st)) : V x A P k n pc L (.int a :: st) := by
  obtain ⟨p, l, e, R', s, m, args, below, meth, c, Q⟩ := x
  obtain ⟨hx, hb, hR, hown, hts⟩ := C
  obtain ⟨hd, rfl⟩ := hd
  intro H locs ls hP hS hL
  exact lv_istore hx hb hd hL.2 (by rw [← hL.1]; exact stOK_lt ho) rfl (fun ls hl => h H locs ls hP hS (hL.st ho hl))
theorem V_astore_n (C : CX x cc own R) {i : Fin 4} {a : Nat} (hd : D1 cc pc (.astore_n i) 1 pc') (ho : stOK L (i : Nat) = true) (h : V x A P k n pc' (L.set (i : Nat) (some (.ref a))) (st)) : V x A P k n pc L (.ref a :: st) := by
  obtain ⟨p, l, e, R', s, m, args, below, meth, c, Q⟩ := x
  obtain ⟨hx, hb, hR, hown, hts⟩ := C
  obtain ⟨hd, rfl⟩ := hd
  intro H locs ls hP hS hL
  exact lv_astore_n hx hb hd rfl hL.2 (by rw [← hL.1]; exact stOK_lt ho) rfl (fun ls hl => h H locs ls hP hS (hL.st ho hl))
theorem V_astore (C : CX x cc own R) {i : Nat} {a : Nat} (hd : D1 cc pc (.astore i) 2 pc') (ho : stOK L i = true) (h : V x A P k n pc' (L.set i (some (.ref a))) (st)) : V x A P k n pc L (.ref a :: st) := by
  obtain ⟨p, l, e, R', s, m, args, below, meth, c, Q⟩ := x
  obtain ⟨hx, hb, hR, hown, hts⟩ := C
  obtain ⟨hd, rfl⟩ := hd
  intro H locs ls hP hS hL
  exact lv_astore hx hb hd hL.2 (by rw [← hL.1]; exact stOK_lt ho) rfl (fun ls hl => h H locs ls hP hS (hL.st ho hl))
theorem V_astore_nN (C : CX x cc own R) {i : Fin 4} (hd : D1 cc pc (.astore_n i) 1 pc') (ho : stOK L (i : Nat) = true) (h : V x A P k n pc' (L.set (i : Nat) (some .null)) (st)) : V x A P k n pc L (.null :: st) := by
  obtain ⟨p, l, e, R', s, m, args, below, meth, c, Q⟩ := x
  obtain ⟨hx, hb, hR, hown, hts⟩ := C
  obtain ⟨hd, rfl⟩ := hd
  intro H locs ls hP hS hL
  exact lv_astore_nN hx hb hd rfl hL.2 (by rw [← hL.1]; exact stOK_lt ho) rfl (fun ls hl => h H locs ls hP hS (hL.st ho hl))
theorem V_astoreN (C : CX x cc own R) {i : Nat} (hd : D1 cc pc (.astore i) 2 pc') (ho : stOK L i = true) (h : V x A P k n pc' (L.set i (some .null)) (st)) : V x A P k n pc L (.null :: st) := by
  obtain ⟨p, l, e, R', s, m, args, below, meth, c, Q⟩ := x
  obtain ⟨hx, hb, hR, hown, hts⟩ := C
  obtain ⟨hd, rfl⟩ := hd
  intro H locs ls hP hS hL
  exact lv_astoreN hx hb hd hL.2 (by rw [← hL.1]; exact stOK_lt ho) rfl (fun ls hl => h H locs ls hP hS (hL.st ho hl))
theorem V_iinc (C : CX x cc own R) {i : Nat} {z : Int} {a : Int32} (b : Int32) (hd : D1 cc pc (.iinc i z) 3 pc') (hl : L[i]? = some (some (.int a))) (hv : Int32.ofInt z = b) (ho : stOK L i = true) (h : V x A P k n pc' (L.set i (some (.int (a + b)))) (st)) : V x A P k n pc L (st) := by
  obtain ⟨p, l, e, R', s, m, args, below, meth, c, Q⟩ := x
  obtain ⟨hx, hb, hR, hown, hts⟩ := C
  obtain ⟨hd, rfl⟩ := hd
  intro H locs ls hP hS hL
  subst hv
  have hm : (i, Value.int a) ∈ lvL 0 L := (lvL_mem L 0 i _).mpr ⟨i, by omega, hl⟩
  obtain ⟨q, hq⟩ := List.getElem?_of_mem hm
  exact lv_iinc hx hb hd hL.2 hq rfl (by rw [← hL.1]; exact stOK_lt ho) rfl (fun ls hl => h H locs ls hP hS (hL.st ho hl))
theorem V_iconst (C : CX x cc own R) {z : Int} (a : Int32) (hd : D1 cc pc (.iconst z) 1 pc') (hv : Int32.ofInt z = a) (h : V x A P k n pc' L (.int a :: st)) : V x A P k n pc L (st) := by
  obtain ⟨p, l, e, R', s, m, args, below, meth, c, Q⟩ := x
  obtain ⟨hx, hb, hR, hown, hts⟩ := C
  obtain ⟨hd, rfl⟩ := hd
  intro H locs ls hP hS hL
  exact lv_iconst hx hb hd hv (h H locs ls hP hS hL)
theorem V_bipush (C : CX x cc own R) {z : Int} (a : Int32) (hd : D1 cc pc (.bipush z) 2 pc') (hv : (Int8.ofInt z).toInt32 = a) (h : V x A P k n pc' L (.int a :: st)) : V x A P k n pc L (st) := by
  obtain ⟨p, l, e, R', s, m, args, below, meth, c, Q⟩ := x
  obtain ⟨hx, hb, hR, hown, hts⟩ := C
  obtain ⟨hd, rfl⟩ := hd
  intro H locs ls hP hS hL
  exact lv_bipush hx hb hd hv (h H locs ls hP hS hL)
theorem V_sipush (C : CX x cc own R) {z : Int} (a : Int32) (hd : D1 cc pc (.sipush z) 3 pc') (hv : (Int16.ofInt z).toInt32 = a) (h : V x A P k n pc' L (.int a :: st)) : V x A P k n pc L (st) := by
  obtain ⟨p, l, e, R', s, m, args, below, meth, c, Q⟩ := x
  obtain ⟨hx, hb, hR, hown, hts⟩ := C
  obtain ⟨hd, rfl⟩ := hd
  intro H locs ls hP hS hL
  exact lv_sipush hx hb hd hv (h H locs ls hP hS hL)
theorem V_ldc (C : CX x cc own R) {i : Nat} {a : Int32} (hd : D1 cc pc (.ldc i) 2 pc') (hw : Cond.constant own i a ∈ lw_gd) (h : V x A P k n pc' L (.int a :: st)) : V x A P k n pc L (st) := by
  obtain ⟨p, l, e, R', s, m, args, below, meth, c, Q⟩ := x
  obtain ⟨hx, hb, hR, hown, hts⟩ := C
  obtain ⟨hd, rfl⟩ := hd
  intro H locs ls hP hS hL
  exact lv_ldc hx hb hown (hts _ hw) hd (h H locs ls hP hS hL)
theorem V_ldc_w (C : CX x cc own R) {i : Nat} {a : Int32} (hd : D1 cc pc (.ldc_w i) 3 pc') (hw : Cond.constant own i a ∈ lw_gd) (h : V x A P k n pc' L (.int a :: st)) : V x A P k n pc L (st) := by
  obtain ⟨p, l, e, R', s, m, args, below, meth, c, Q⟩ := x
  obtain ⟨hx, hb, hR, hown, hts⟩ := C
  obtain ⟨hd, rfl⟩ := hd
  intro H locs ls hP hS hL
  exact lv_ldcw hx hb hown (hts _ hw) hd (h H locs ls hP hS hL)
theorem V_ldc2 (C : CX x cc own R) {i : Nat} {a : Int64} (hd : D1 cc pc (.ldc2_w i) 3 pc') (hw : Cond.constantLong own i a ∈ lw_gd) (h : V x A P k n pc' L (.long a :: st)) : V x A P k n pc L (st) := by
  obtain ⟨p, l, e, R', s, m, args, below, meth, c, Q⟩ := x
  obtain ⟨hx, hb, hR, hown, hts⟩ := C
  obtain ⟨hd, rfl⟩ := hd
  intro H locs ls hP hS hL
  exact lv_ldc2 hx hb hown (hts _ hw) hd (h H locs ls hP hS hL)
theorem V_null (C : CX x cc own R)  (hd : D1 cc pc .aconst_null 1 pc')  (h : V x A P k n pc' L (.null :: st)) : V x A P k n pc L (st) := by
  obtain ⟨p, l, e, R', s, m, args, below, meth, c, Q⟩ := x
  obtain ⟨hx, hb, hR, hown, hts⟩ := C
  obtain ⟨hd, rfl⟩ := hd
  intro H locs ls hP hS hL
  exact lv_null hx hb hd (h H locs ls hP hS hL)
theorem V_iadd (C : CX x cc own R) {a b : Int32} (hd : D1 cc pc .iadd 1 pc')  (h : V x A P k n pc' L (.int (a + b) :: st)) : V x A P k n pc L (.int b :: .int a :: st) := by
  obtain ⟨p, l, e, R', s, m, args, below, meth, c, Q⟩ := x
  obtain ⟨hx, hb, hR, hown, hts⟩ := C
  obtain ⟨hd, rfl⟩ := hd
  intro H locs ls hP hS hL
  exact lv_iadd hx hb hd (h H locs ls hP hS hL)
theorem V_isub (C : CX x cc own R) {a b : Int32} (hd : D1 cc pc .isub 1 pc')  (h : V x A P k n pc' L (.int (a - b) :: st)) : V x A P k n pc L (.int b :: .int a :: st) := by
  obtain ⟨p, l, e, R', s, m, args, below, meth, c, Q⟩ := x
  obtain ⟨hx, hb, hR, hown, hts⟩ := C
  obtain ⟨hd, rfl⟩ := hd
  intro H locs ls hP hS hL
  exact lv_isub hx hb hd (h H locs ls hP hS hL)
theorem V_imul (C : CX x cc own R) {a b : Int32} (hd : D1 cc pc .imul 1 pc')  (h : V x A P k n pc' L (.int (a * b) :: st)) : V x A P k n pc L (.int b :: .int a :: st) := by
  obtain ⟨p, l, e, R', s, m, args, below, meth, c, Q⟩ := x
  obtain ⟨hx, hb, hR, hown, hts⟩ := C
  obtain ⟨hd, rfl⟩ := hd
  intro H locs ls hP hS hL
  exact lv_imul hx hb hd (h H locs ls hP hS hL)
theorem V_iand (C : CX x cc own R) {a b : Int32} (hd : D1 cc pc .iand 1 pc')  (h : V x A P k n pc' L (.int (a &&& b) :: st)) : V x A P k n pc L (.int b :: .int a :: st) := by
  obtain ⟨p, l, e, R', s, m, args, below, meth, c, Q⟩ := x
  obtain ⟨hx, hb, hR, hown, hts⟩ := C
  obtain ⟨hd, rfl⟩ := hd
  intro H locs ls hP hS hL
  exact lv_iand hx hb hd (h H locs ls hP hS hL)
theorem V_ior (C : CX x cc own R) {a b : Int32} (hd : D1 cc pc .ior 1 pc')  (h : V x A P k n pc' L (.int (a ||| b) :: st)) : V x A P k n pc L (.int b :: .int a :: st) := by
  obtain ⟨p, l, e, R', s, m, args, below, meth, c, Q⟩ := x
  obtain ⟨hx, hb, hR, hown, hts⟩ := C
  obtain ⟨hd, rfl⟩ := hd
  intro H locs ls hP hS hL
  exact lv_ior hx hb hd (h H locs ls hP hS hL)
theorem V_ladd (C : CX x cc own R) {a b : Int64} (hd : D1 cc pc .ladd 1 pc')  (h : V x A P k n pc' L (.long (a + b) :: st)) : V x A P k n pc L (.long b :: .long a :: st) := by
  obtain ⟨p, l, e, R', s, m, args, below, meth, c, Q⟩ := x
  obtain ⟨hx, hb, hR, hown, hts⟩ := C
  obtain ⟨hd, rfl⟩ := hd
  intro H locs ls hP hS hL
  exact lv_ladd hx hb hd (h H locs ls hP hS hL)
theorem V_lsub (C : CX x cc own R) {a b : Int64} (hd : D1 cc pc .lsub 1 pc')  (h : V x A P k n pc' L (.long (a - b) :: st)) : V x A P k n pc L (.long b :: .long a :: st) := by
  obtain ⟨p, l, e, R', s, m, args, below, meth, c, Q⟩ := x
  obtain ⟨hx, hb, hR, hown, hts⟩ := C
  obtain ⟨hd, rfl⟩ := hd
  intro H locs ls hP hS hL
  exact lv_lsub hx hb hd (h H locs ls hP hS hL)
theorem V_lmul (C : CX x cc own R) {a b : Int64} (hd : D1 cc pc .lmul 1 pc')  (h : V x A P k n pc' L (.long (a * b) :: st)) : V x A P k n pc L (.long b :: .long a :: st) := by
  obtain ⟨p, l, e, R', s, m, args, below, meth, c, Q⟩ := x
  obtain ⟨hx, hb, hR, hown, hts⟩ := C
  obtain ⟨hd, rfl⟩ := hd
  intro H locs ls hP hS hL
  exact lv_lmul hx hb hd (h H locs ls hP hS hL)
theorem V_dup (C : CX x cc own R) {v : Value} (hd : D1 cc pc .dup 1 pc') (hv : v.category = 1) (h : V x A P k n pc' L (v :: v :: st)) : V x A P k n pc L (v :: st) := by
  obtain ⟨p, l, e, R', s, m, args, below, meth, c, Q⟩ := x
  obtain ⟨hx, hb, hR, hown, hts⟩ := C
  obtain ⟨hd, rfl⟩ := hd
  intro H locs ls hP hS hL
  exact lv_dup hx hb hd hv (h H locs ls hP hS hL)
theorem V_pop (C : CX x cc own R) {v : Value} (hd : D1 cc pc .pop 1 pc') (hv : v.category = 1) (h : V x A P k n pc' L (st)) : V x A P k n pc L (v :: st) := by
  obtain ⟨p, l, e, R', s, m, args, below, meth, c, Q⟩ := x
  obtain ⟨hx, hb, hR, hown, hts⟩ := C
  obtain ⟨hd, rfl⟩ := hd
  intro H locs ls hP hS hL
  exact lv_pop hx hb hd hv (h H locs ls hP hS hL)
theorem V_if_eq (C : CX x cc own R) {a : Int32} (hd : DJ cc pc (.ifCond .eq) pc' tgt) (kt : a = 0 → V x A P k n tgt L st) (kf : ¬ a = 0 → V x A P k n pc' L st) : V x A P k n pc L (.int a :: st) := by
  obtain ⟨p, l, e, R', s, m, args, below, meth, c, Q⟩ := x
  obtain ⟨hx, hb, hR, hown, hts⟩ := C
  obtain ⟨off, hd, rfl, ht⟩ := hd
  intro H locs ls hP hS hL
  exact lv_if_eq hx hb hd ht (fun q => kt q H locs ls hP hS hL) (fun q => kf q H locs ls hP hS hL)
theorem V_if_ne (C : CX x cc own R) {a : Int32} (hd : DJ cc pc (.ifCond .ne) pc' tgt) (kt : ¬ a = 0 → V x A P k n tgt L st) (kf : a = 0 → V x A P k n pc' L st) : V x A P k n pc L (.int a :: st) := by
  obtain ⟨p, l, e, R', s, m, args, below, meth, c, Q⟩ := x
  obtain ⟨hx, hb, hR, hown, hts⟩ := C
  obtain ⟨off, hd, rfl, ht⟩ := hd
  intro H locs ls hP hS hL
  exact lv_if_ne hx hb hd ht (fun q => kt q H locs ls hP hS hL) (fun q => kf q H locs ls hP hS hL)
theorem V_if_lt (C : CX x cc own R) {a : Int32} (hd : DJ cc pc (.ifCond .lt) pc' tgt) (kt : a < 0 → V x A P k n tgt L st) (kf : ¬ a < 0 → V x A P k n pc' L st) : V x A P k n pc L (.int a :: st) := by
  obtain ⟨p, l, e, R', s, m, args, below, meth, c, Q⟩ := x
  obtain ⟨hx, hb, hR, hown, hts⟩ := C
  obtain ⟨off, hd, rfl, ht⟩ := hd
  intro H locs ls hP hS hL
  exact lv_if_lt hx hb hd ht (fun q => kt q H locs ls hP hS hL) (fun q => kf q H locs ls hP hS hL)
theorem V_if_ge (C : CX x cc own R) {a : Int32} (hd : DJ cc pc (.ifCond .ge) pc' tgt) (kt : 0 ≤ a → V x A P k n tgt L st) (kf : ¬ 0 ≤ a → V x A P k n pc' L st) : V x A P k n pc L (.int a :: st) := by
  obtain ⟨p, l, e, R', s, m, args, below, meth, c, Q⟩ := x
  obtain ⟨hx, hb, hR, hown, hts⟩ := C
  obtain ⟨off, hd, rfl, ht⟩ := hd
  intro H locs ls hP hS hL
  exact lv_if_ge hx hb hd ht (fun q => kt q H locs ls hP hS hL) (fun q => kf q H locs ls hP hS hL)
theorem V_if_gt (C : CX x cc own R) {a : Int32} (hd : DJ cc pc (.ifCond .gt) pc' tgt) (kt : 0 < a → V x A P k n tgt L st) (kf : ¬ 0 < a → V x A P k n pc' L st) : V x A P k n pc L (.int a :: st) := by
  obtain ⟨p, l, e, R', s, m, args, below, meth, c, Q⟩ := x
  obtain ⟨hx, hb, hR, hown, hts⟩ := C
  obtain ⟨off, hd, rfl, ht⟩ := hd
  intro H locs ls hP hS hL
  exact lv_if_gt hx hb hd ht (fun q => kt q H locs ls hP hS hL) (fun q => kf q H locs ls hP hS hL)
theorem V_if_le (C : CX x cc own R) {a : Int32} (hd : DJ cc pc (.ifCond .le) pc' tgt) (kt : a ≤ 0 → V x A P k n tgt L st) (kf : ¬ a ≤ 0 → V x A P k n pc' L st) : V x A P k n pc L (.int a :: st) := by
  obtain ⟨p, l, e, R', s, m, args, below, meth, c, Q⟩ := x
  obtain ⟨hx, hb, hR, hown, hts⟩ := C
  obtain ⟨off, hd, rfl, ht⟩ := hd
  intro H locs ls hP hS hL
  exact lv_if_le hx hb hd ht (fun q => kt q H locs ls hP hS hL) (fun q => kf q H locs ls hP hS hL)
theorem V_icmp_eq (C : CX x cc own R) {a b : Int32} (hd : DJ cc pc (.if_icmp .eq) pc' tgt) (kt : a = b → V x A P k n tgt L st) (kf : ¬ a = b → V x A P k n pc' L st) : V x A P k n pc L (.int b :: .int a :: st) := by
  obtain ⟨p, l, e, R', s, m, args, below, meth, c, Q⟩ := x
  obtain ⟨hx, hb, hR, hown, hts⟩ := C
  obtain ⟨off, hd, rfl, ht⟩ := hd
  intro H locs ls hP hS hL
  exact lv_icmp_eq hx hb hd ht (fun q => kt q H locs ls hP hS hL) (fun q => kf q H locs ls hP hS hL)
theorem V_icmp_ne (C : CX x cc own R) {a b : Int32} (hd : DJ cc pc (.if_icmp .ne) pc' tgt) (kt : ¬ a = b → V x A P k n tgt L st) (kf : a = b → V x A P k n pc' L st) : V x A P k n pc L (.int b :: .int a :: st) := by
  obtain ⟨p, l, e, R', s, m, args, below, meth, c, Q⟩ := x
  obtain ⟨hx, hb, hR, hown, hts⟩ := C
  obtain ⟨off, hd, rfl, ht⟩ := hd
  intro H locs ls hP hS hL
  exact lv_icmp_ne hx hb hd ht (fun q => kt q H locs ls hP hS hL) (fun q => kf q H locs ls hP hS hL)
theorem V_icmp_lt (C : CX x cc own R) {a b : Int32} (hd : DJ cc pc (.if_icmp .lt) pc' tgt) (kt : a < b → V x A P k n tgt L st) (kf : ¬ a < b → V x A P k n pc' L st) : V x A P k n pc L (.int b :: .int a :: st) := by
  obtain ⟨p, l, e, R', s, m, args, below, meth, c, Q⟩ := x
  obtain ⟨hx, hb, hR, hown, hts⟩ := C
  obtain ⟨off, hd, rfl, ht⟩ := hd
  intro H locs ls hP hS hL
  exact lv_icmp_lt hx hb hd ht (fun q => kt q H locs ls hP hS hL) (fun q => kf q H locs ls hP hS hL)
theorem V_icmp_ge (C : CX x cc own R) {a b : Int32} (hd : DJ cc pc (.if_icmp .ge) pc' tgt) (kt : b ≤ a → V x A P k n tgt L st) (kf : ¬ b ≤ a → V x A P k n pc' L st) : V x A P k n pc L (.int b :: .int a :: st) := by
  obtain ⟨p, l, e, R', s, m, args, below, meth, c, Q⟩ := x
  obtain ⟨hx, hb, hR, hown, hts⟩ := C
  obtain ⟨off, hd, rfl, ht⟩ := hd
  intro H locs ls hP hS hL
  exact lv_icmp_ge hx hb hd ht (fun q => kt q H locs ls hP hS hL) (fun q => kf q H locs ls hP hS hL)
theorem V_icmp_gt (C : CX x cc own R) {a b : Int32} (hd : DJ cc pc (.if_icmp .gt) pc' tgt) (kt : b < a → V x A P k n tgt L st) (kf : ¬ b < a → V x A P k n pc' L st) : V x A P k n pc L (.int b :: .int a :: st) := by
  obtain ⟨p, l, e, R', s, m, args, below, meth, c, Q⟩ := x
  obtain ⟨hx, hb, hR, hown, hts⟩ := C
  obtain ⟨off, hd, rfl, ht⟩ := hd
  intro H locs ls hP hS hL
  exact lv_icmp_gt hx hb hd ht (fun q => kt q H locs ls hP hS hL) (fun q => kf q H locs ls hP hS hL)
theorem V_icmp_le (C : CX x cc own R) {a b : Int32} (hd : DJ cc pc (.if_icmp .le) pc' tgt) (kt : a ≤ b → V x A P k n tgt L st) (kf : ¬ a ≤ b → V x A P k n pc' L st) : V x A P k n pc L (.int b :: .int a :: st) := by
  obtain ⟨p, l, e, R', s, m, args, below, meth, c, Q⟩ := x
  obtain ⟨hx, hb, hR, hown, hts⟩ := C
  obtain ⟨off, hd, rfl, ht⟩ := hd
  intro H locs ls hP hS hL
  exact lv_icmp_le hx hb hd ht (fun q => kt q H locs ls hP hS hL) (fun q => kf q H locs ls hP hS hL)
theorem V_goto (C : CX x cc own R) (hd : DJ cc pc .goto pc' tgt) (h : V x A P k n tgt L st) : V x A P k n pc L st := by
  obtain ⟨p, l, e, R', s, m, args, below, meth, c, Q⟩ := x
  obtain ⟨hx, hb, hR, hown, hts⟩ := C
  obtain ⟨off, hd, rfl, ht⟩ := hd
  intro H locs ls hP hS hL
  exact lv_goto hx hb hd ht (h H locs ls hP hS hL)
theorem V_ifnull (C : CX x cc own R) {a : Nat} (hd : DJ cc pc .ifnull pc' tgt) (h : V x A P k n pc' L st) : V x A P k n pc L (.ref a :: st) := by
  obtain ⟨p, l, e, R', s, m, args, below, meth, c, Q⟩ := x
  obtain ⟨hx, hb, hR, hown, hts⟩ := C
  obtain ⟨off, hd, rfl, ht⟩ := hd
  intro H locs ls hP hS hL
  exact lv_ifnull hx hb hd (h H locs ls hP hS hL)
theorem V_ifnullN (C : CX x cc own R) (hd : DJ cc pc .ifnull pc' tgt) (h : V x A P k n tgt L st) : V x A P k n pc L (.null :: st) := by
  obtain ⟨p, l, e, R', s, m, args, below, meth, c, Q⟩ := x
  obtain ⟨hx, hb, hR, hown, hts⟩ := C
  obtain ⟨off, hd, rfl, ht⟩ := hd
  intro H locs ls hP hS hL
  exact lv_ifnullN hx hb hd ht (h H locs ls hP hS hL)
theorem V_ifnonnull (C : CX x cc own R) {a : Nat} (hd : DJ cc pc .ifnonnull pc' tgt) (h : V x A P k n tgt L st) : V x A P k n pc L (.ref a :: st) := by
  obtain ⟨p, l, e, R', s, m, args, below, meth, c, Q⟩ := x
  obtain ⟨hx, hb, hR, hown, hts⟩ := C
  obtain ⟨off, hd, rfl, ht⟩ := hd
  intro H locs ls hP hS hL
  exact lv_ifnonnull hx hb hd ht (h H locs ls hP hS hL)
theorem V_ifnonnullN (C : CX x cc own R) (hd : DJ cc pc .ifnonnull pc' tgt) (h : V x A P k n pc' L st) : V x A P k n pc L (.null :: st) := by
  obtain ⟨p, l, e, R', s, m, args, below, meth, c, Q⟩ := x
  obtain ⟨hx, hb, hR, hown, hts⟩ := C
  obtain ⟨off, hd, rfl, ht⟩ := hd
  intro H locs ls hP hS hL
  exact lv_ifnonnullN hx hb hd (h H locs ls hP hS hL)
theorem V_lconst (C : CX x cc own R) {z : Fin 2} (a : Int64) (hd : D1 cc pc (.lconst z) 1 pc') (hv : Int64.ofNat (z : Nat) = a) (h : V x A P k n pc' L (.long a :: st)) : V x A P k n pc L (st) := by
  obtain ⟨p, l, e, R', s, m, args, below, meth, c, Q⟩ := x
  obtain ⟨hx, hb, hR, hown, hts⟩ := C
  obtain ⟨hd, rfl⟩ := hd
  intro H locs ls hP hS hL
  exact lv_lconst hx hb hd hv (h H locs ls hP hS hL)
theorem V_ishl (C : CX x cc own R) {a b : Int32} (hd : D1 cc pc .ishl 1 pc')  (h : V x A P k n pc' L (.int (a <<< (b &&& 31)) :: st)) : V x A P k n pc L (.int b :: .int a :: st) := by
  obtain ⟨p, l, e, R', s, m, args, below, meth, c, Q⟩ := x
  obtain ⟨hx, hb, hR, hown, hts⟩ := C
  obtain ⟨hd, rfl⟩ := hd
  intro H locs ls hP hS hL
  exact lv_ishl hx hb hd (h H locs ls hP hS hL)
theorem V_ishr (C : CX x cc own R) {a b : Int32} (hd : D1 cc pc .ishr 1 pc')  (h : V x A P k n pc' L (.int (a >>> (b &&& 31)) :: st)) : V x A P k n pc L (.int b :: .int a :: st) := by
  obtain ⟨p, l, e, R', s, m, args, below, meth, c, Q⟩ := x
  obtain ⟨hx, hb, hR, hown, hts⟩ := C
  obtain ⟨hd, rfl⟩ := hd
  intro H locs ls hP hS hL
  exact lv_ishr hx hb hd (h H locs ls hP hS hL)
theorem V_iushr (C : CX x cc own R) {a b : Int32} (hd : D1 cc pc .iushr 1 pc')  (h : V x A P k n pc' L (.int (iush a b) :: st)) : V x A P k n pc L (.int b :: .int a :: st) := by
  obtain ⟨p, l, e, R', s, m, args, below, meth, c, Q⟩ := x
  obtain ⟨hx, hb, hR, hown, hts⟩ := C
  obtain ⟨hd, rfl⟩ := hd
  intro H locs ls hP hS hL
  exact lv_iushr hx hb hd rfl (h H locs ls hP hS hL)
theorem V_i2b (C : CX x cc own R) {a : Int32} (hd : D1 cc pc .i2b 1 pc')  (h : V x A P k n pc' L (.int a.toInt8.toInt32 :: st)) : V x A P k n pc L (.int a :: st) := by
  obtain ⟨p, l, e, R', s, m, args, below, meth, c, Q⟩ := x
  obtain ⟨hx, hb, hR, hown, hts⟩ := C
  obtain ⟨hd, rfl⟩ := hd
  intro H locs ls hP hS hL
  exact lv_i2b hx hb hd rfl (h H locs ls hP hS hL)
theorem V_i2s (C : CX x cc own R) {a : Int32} (hd : D1 cc pc .i2s 1 pc')  (h : V x A P k n pc' L (.int a.toInt16.toInt32 :: st)) : V x A P k n pc L (.int a :: st) := by
  obtain ⟨p, l, e, R', s, m, args, below, meth, c, Q⟩ := x
  obtain ⟨hx, hb, hR, hown, hts⟩ := C
  obtain ⟨hd, rfl⟩ := hd
  intro H locs ls hP hS hL
  exact lv_i2s hx hb hd rfl (h H locs ls hP hS hL)
theorem V_i2l (C : CX x cc own R) {a : Int32} (hd : D1 cc pc .i2l 1 pc')  (h : V x A P k n pc' L (.long a.toInt64 :: st)) : V x A P k n pc L (.int a :: st) := by
  obtain ⟨p, l, e, R', s, m, args, below, meth, c, Q⟩ := x
  obtain ⟨hx, hb, hR, hown, hts⟩ := C
  obtain ⟨hd, rfl⟩ := hd
  intro H locs ls hP hS hL
  exact lv_i2l hx hb hd rfl (h H locs ls hP hS hL)
theorem V_lcmp (C : CX x cc own R) {a b : Int64} (hd : D1 cc pc .lcmp 1 pc')  (h : V x A P k n pc' L (.int (lg_cmp a b) :: st)) : V x A P k n pc L (.long b :: .long a :: st) := by
  obtain ⟨p, l, e, R', s, m, args, below, meth, c, Q⟩ := x
  obtain ⟨hx, hb, hR, hown, hts⟩ := C
  obtain ⟨hd, rfl⟩ := hd
  intro H locs ls hP hS hL
  exact W.lcmp hx hb hd (h H locs ls hP hS hL)
theorem V_idiv (C : CX x cc own R) {a b : Int32} (hd : D1 cc pc .idiv 1 pc') (hne : ¬ b = 0) (h : V x A P k n pc' L (.int (a / b) :: st)) : V x A P k n pc L (.int b :: .int a :: st) := by
  obtain ⟨p, l, e, R', s, m, args, below, meth, c, Q⟩ := x
  obtain ⟨hx, hb, hR, hown, hts⟩ := C
  obtain ⟨hd, rfl⟩ := hd
  intro H locs ls hP hS hL
  exact lv_idiv hx hb hd hne (h H locs ls hP hS hL)
theorem V_irem (C : CX x cc own R) {a b : Int32} (hd : D1 cc pc .irem 1 pc') (hne : ¬ b = 0) (h : V x A P k n pc' L (.int (a - a / b * b) :: st)) : V x A P k n pc L (.int b :: .int a :: st) := by
  obtain ⟨p, l, e, R', s, m, args, below, meth, c, Q⟩ := x
  obtain ⟨hx, hb, hR, hown, hts⟩ := C
  obtain ⟨hd, rfl⟩ := hd
  intro H locs ls hP hS hL
  exact lv_irem hx hb hd hne (h H locs ls hP hS hL)
theorem V_dup2 (C : CX x cc own R) {v w : Value} (hd : D1 cc pc .dup2 1 pc') (hv : v.category = 1) (hw : w.category = 1) (h : V x A P k n pc' L (v :: w :: v :: w :: st)) : V x A P k n pc L (v :: w :: st) := by
  obtain ⟨p, l, e, R', s, m, args, below, meth, c, Q⟩ := x
  obtain ⟨hx, hb, hR, hown, hts⟩ := C
  obtain ⟨hd, rfl⟩ := hd
  intro H locs ls hP hS hL
  exact lv_dup2_11 hx hb hd hv hw (h H locs ls hP hS hL)
theorem V_tableIn (C : CX x cc own R) {dflt lo hi off : Int} {offs : Array Int} {len : Nat} {a : Int32} (hd : decode cc pc = .ok (.tableswitch dflt lo hi offs, len)) (h1 : ¬ a.toInt < lo) (h2 : ¬ hi < a.toInt) (ho : offs[(a.toInt - lo).toNat]? = some off) (ht : (pc : Int) + off = (tgt : Int)) (h : V x A P k n tgt L st) : V x A P k n pc L (.int a :: st) := by
  obtain ⟨p, l, e, R', s, m, args, below, meth, c, Q⟩ := x
  obtain ⟨hx, hb, hR, hown, hts⟩ := C
  intro H locs ls hP hS hL
  exact lv_tableIn hx hb hd h1 h2 ho ht (h H locs ls hP hS hL)
theorem V_tableOut (C : CX x cc own R) {dflt lo hi : Int} {offs : Array Int} {len : Nat} {a : Int32} (hd : decode cc pc = .ok (.tableswitch dflt lo hi offs, len)) (h1 : a.toInt < lo ∨ hi < a.toInt) (ht : (pc : Int) + dflt = (tgt : Int)) (h : V x A P k n tgt L st) : V x A P k n pc L (.int a :: st) := by
  obtain ⟨p, l, e, R', s, m, args, below, meth, c, Q⟩ := x
  obtain ⟨hx, hb, hR, hown, hts⟩ := C
  intro H locs ls hP hS hL
  exact lv_tableOut hx hb hd h1 ht (h H locs ls hP hS hL)
/-- the same place by another name of the numbers -/
theorem V_to {P' : Heap → Prop} {L' : List (Option Value)} {st' : List Value} (hP : ∀ H, P H → P' H) (hl : L = L') (hs : st = st') (h : V x A P' k n pc L' st') : V x A P k n pc L st := by
  subst hl; subst hs
  obtain ⟨p, l, e, R', s, m, args, below, meth, c, Q⟩ := x
  intro H locs ls hp hS hL
  exact h H locs ls (hP H hp) hS hL
theorem V_st {st' : List Value} (hs : st = st') (h : V x A P k n pc L st') : V x A P k n pc L st := hs ▸ h
theorem V_L {L' : List (Option Value)} (hl : L = L') (h : V x A P k n pc L' st) : V x A P k n pc L st := hl ▸ h
/-- what the picture says may be used -/
theorem V_use (h : ∀ H, P H → V x A P k n pc L st) : V x A P k n pc L st := by
  obtain ⟨p, l, e, R', s, m, args, below, meth, c, Q⟩ := x
  intro H locs ls hP hS hL
  exact h H hP H locs ls hP hS hL
theorem V_ex {α : Type} {P' : α → Heap → Prop} (hp : ∀ H, P H → ∃ a, P' a H) (h : ∀ a, V x A (P' a) k n pc L st) : V x A P k n pc L st := by
  obtain ⟨p, l, e, R', s, m, args, below, meth, c, Q⟩ := x
  intro H locs ls hP hS hL
  obtain ⟨a, ha⟩ := hp H hP
  exact h a H locs ls ha hS hL
theorem V_widen {k' n' : Nat} (hk : k ≤ k') (hn : n ≤ n') (h : V x A P k' n' pc L st) : V x A P k n pc L st := by
  obtain ⟨p, l, e, R', s, m, args, below, meth, c, Q⟩ := x
  intro H locs ls hP hS hL
  exact W.widen hk hn (h H locs ls hP hS hL)
/-! memory, by what the picture says of one cell -/
/-- at a lies an object of class (C, T, N) whose slot j holds v -/
def RdF (s : State) (P : Heap → Prop) (a : Nat) (C : String) (T : u_T) (N j : Nat) (v : Value) : Prop := ∀ H, P H → ∃ (D : va_G) (cl : List vw_C) (tys : List (ClassId × FieldType)) (ci : Nat) (fs : List Value), va_K D cl tys s ∧ va_P D cl [(a, .inr (ci, fs))] H ∧ cl[ci]? = some (C, T, N) ∧ fs[j]? = some v
/-- writing v into slot j of the object at a turns P into P' -/
def WrF (s : State) (A : Nat → Prop) (P : Heap → Prop) (a : Nat) (C : String) (T : u_T) (N j : Nat) (v : Value) (P' : Heap → Prop) : Prop := ∀ H, P H → ∃ (D : va_G) (cl : List vw_C) (tys : List (ClassId × FieldType)) (ws : va_W) (q0 ci : Nat) (fs : List Value), va_K D cl tys s ∧ va_P D cl ws H ∧ va_D A ws ∧ ws[q0]? = some (a, .inr (ci, fs)) ∧ cl[ci]? = some (C, T, N) ∧ j < fs.length ∧ ∀ H1 : Heap, va_P D cl (ws.set q0 (a, .inr (ci, fs.set j v))) H1 → P' H1
/-- at a lies an int array of nn places, that at q holds v -/
def RdA (s : State) (P : Heap → Prop) (a nn q : Nat) (v : Int32) : Prop := ∀ H, P H → ∃ (D : va_G) (cl : List vw_C) (tys : List (ClassId × FieldType)) (cA t0 : Nat) (f : Nat → Int32), va_K D cl tys s ∧ va_P D cl [(a, .inl (cA, nn, .inl f))] H ∧ tys[t0]? = some (cA, .int) ∧ f q = v
def RdL (s : State) (P : Heap → Prop) (a nn : Nat) : Prop := ∀ H, P H → ∃ (D : va_G) (cl : List vw_C) (tys : List (ClassId × FieldType)) (cA t0 : Nat) (f : Nat → Int32), va_K D cl tys s ∧ va_P D cl [(a, .inl (cA, nn, .inl f))] H ∧ tys[t0]? = some (cA, .int)
def RdQ (s : State) (P : Heap → Prop) (a nn : Nat) (C : String) (f : Nat → Option Nat) : Prop := ∀ H, P H → ∃ (D : va_G) (cl : List vw_C) (tys : List (ClassId × FieldType)) (cA t0 : Nat), va_K D cl tys s ∧ va_P D cl [(a, .inl (cA, nn, .inr (.inr (.inr (.inr f)))))] H ∧ tys[t0]? = some (cA, .object C)
def WrA (s : State) (A : Nat → Prop) (P : Heap → Prop) (a nn i : Nat) (v : Int32) (P' : Heap → Prop) : Prop := ∀ H, P H → ∃ (D : va_G) (cl : List vw_C) (tys : List (ClassId × FieldType)) (ws : va_W) (q0 cA t0 : Nat) (f : Nat → Int32), va_K D cl tys s ∧ va_P D cl ws H ∧ va_D A ws ∧ ws[q0]? = some (a, .inl (cA, nn, .inl f)) ∧ tys[t0]? = some (cA, .int) ∧ ∀ H1 : Heap, va_P D cl (ws.set q0 (a, .inl (cA, nn, .inl (upd f i v)))) H1 → P' H1
theorem va_S_sz {A : Nat → Prop} {H0 H : Heap} {locs : List Loc} (h : va_S A H0 H locs) : H0.size ≤ H.size := h.1
theorem V_get (C : CX x cc own R) {a j N idx : Nat} {ref Cn : String} {T : u_T} {v : Value} (hd : D1 cc pc (.getfield idx) 3 pc') (hr : RdF (xs x) P a Cn T N j v) (hin : ∀ w ∈ u_ws Cn T N, w ∈ lw_gd) (hk : j < N) (hl : Cond.fieldLink own idx ref (T j).2.1 (T j).2.2.1 ∈ lw_gd) (hs : (T j).1 = ref)
    (h : V x A P k n pc' L (v :: st)) : V x A P k n pc L (.ref a :: st) := by
  obtain ⟨p, l, e, R', s, m, args, below, meth, c, Q⟩ := x
  obtain ⟨hx, hb, hR, hown, hts⟩ := C
  obtain ⟨hd, rfl⟩ := hd
  intro H locs ls hP hS hL
  obtain ⟨D, cl, tys, ci, fs, hK, hp, hc, hv⟩ := hr H hP
  exact va_get hx hb hts hin hown hK hp 0 rfl hc j hk (hts _ hl) (fun y hy => by rw [← hs]; exact hy) hv hd (h H locs ls hP hS hL)
theorem V_getN (C : CX x cc own R) (hN : NW (xs x)) {a j N idx : Nat} {ref Cn host : String} {T : u_T} {v : Value} (hd : D1 cc pc (.getfield idx) 3 pc') (hr : RdF (xs x) P a Cn T N j v) (hin : ∀ w ∈ u_ws Cn T N, w ∈ lw_gd) (hk : j < N) (hl : Cond.fieldLinkNest own idx ref (T j).2.1 (T j).2.2.1 host ∈ lw_nw) (hs : (T j).1 = ref)
    (h : V x A P k n pc' L (v :: st)) : V x A P k n pc L (.ref a :: st) := by
  obtain ⟨p, l, e, R', s, m, args, below, meth, c, Q⟩ := x
  obtain ⟨hx, hb, hR, hown, hts⟩ := C
  obtain ⟨hd, rfl⟩ := hd
  intro H locs ls hP hS hL
  obtain ⟨D, cl, tys, ci, fs, hK, hp, hc, hv⟩ := hr H hP
  exact va_getN hx hb hts hin hown hK hp 0 rfl hc j hk (va_Nw.use rfl (hN _ hl)) (fun y hy => by rw [← hs]; exact hy) hv hd (h H locs ls hP hS hL)
/-- a class's field table, as a write wants it -/
def FT (Cn : String) (T : u_T) (N : Nat) (ty0 : Nat → FieldType) : Prop := (∀ w ∈ u_ws Cn T N, w ∈ lw_gd) ∧ (∀ j, j < N → parseFieldDescriptor (T j).2.2.1 = some (ty0 j)) ∧ (∀ a, a < N → ∀ b, b < N → a ≠ b → (T a).2.1 ≠ (T b).2.1)
theorem V_put (C : CX x cc own R) {a j N idx : Nat} {ref Cn : String} {T : u_T} {v : Value} {P' : Heap → Prop} {ty0 : Nat → FieldType} (hd : D1 cc pc (.putfield idx) 3 pc') (hr : WrF (xs x) A P a Cn T N j v P') (hF : FT Cn T N ty0) (hk : j < N) (hl : Cond.fieldLink own idx ref (T j).2.1 (T j).2.2.1 ∈ lw_gd) (hs : (T j).1 = ref) (hfin : (T j).2.2.2 = false) (hn : narrow (ty0 j) v = v) (hf : fits (ty0 j) v = true)
    (h : V x A P' k n pc' L st) : V x A P k n pc L (v :: .ref a :: st) := by
  obtain ⟨p, l, e, R', s, m, args, below, meth, c, Q⟩ := x
  obtain ⟨hx, hb, hR, hown, hts⟩ := C
  obtain ⟨hd, rfl⟩ := hd
  obtain ⟨hin, hty, hnm⟩ := hF
  intro H locs ls hP hS hL
  obtain ⟨D, cl, tys, ws, q0, ci, fs, hK, hp, hD, he, hc, hj, hH⟩ := hr H hP
  exact va_put hx hb hts hin ty0 hty hnm hown hK hp hD hS q0 he hc j hk (hts _ hl) (fun y hy => by rw [← hs]; exact hy) hfin (hty j hk) hn hf hj hd (fun H1 locs1 hp1 _ hS1 => h H1 locs1 ls (hH H1 hp1) hS1 hL)
theorem V_putN (C : CX x cc own R) (hN : NW (xs x)) {a j N idx : Nat} {ref Cn host : String} {T : u_T} {v : Value} {P' : Heap → Prop} {ty0 : Nat → FieldType} (hd : D1 cc pc (.putfield idx) 3 pc') (hr : WrF (xs x) A P a Cn T N j v P') (hF : FT Cn T N ty0) (hk : j < N) (hl : Cond.fieldLinkNest own idx ref (T j).2.1 (T j).2.2.1 host ∈ lw_nw) (hs : (T j).1 = ref) (hfin : (T j).2.2.2 = false) (hn : narrow (ty0 j) v = v) (hf : fits (ty0 j) v = true)
    (h : V x A P' k n pc' L st) : V x A P k n pc L (v :: .ref a :: st) := by
  obtain ⟨p, l, e, R', s, m, args, below, meth, c, Q⟩ := x
  obtain ⟨hx, hb, hR, hown, hts⟩ := C
  obtain ⟨hd, rfl⟩ := hd
  obtain ⟨hin, hty, hnm⟩ := hF
  intro H locs ls hP hS hL
  obtain ⟨D, cl, tys, ws, q0, ci, fs, hK, hp, hD, he, hc, hj, hH⟩ := hr H hP
  exact va_putN hx hb hts hin ty0 hty hnm hown hK hp hD hS q0 he hc j hk (va_Nw.use rfl (hN _ hl)) (fun y hy => by rw [← hs]; exact hy) hfin (hty j hk) hn hf hj hd (fun H1 locs1 hp1 _ hS1 => h H1 locs1 ls (hH H1 hp1) hS1 hL)
theorem V_iald (C : CX x cc own R) {a nn : Nat} {i v : Int32} (q : Nat) (hi : i = nI q) (hq : Nat.ble (q+1) nn = true) (hnn : Nat.ble nn 2147483647 = true) (hd : D1 cc pc .iaload 1 pc') (hr : RdA (xs x) P a nn q v) (h : V x A P k n pc' L (.int v :: st)) : V x A P k n pc L (.int i :: .ref a :: st) := by
  have hq := Nat.le_of_ble_eq_true hq
  have hnn := Nat.le_of_ble_eq_true hnn
  subst hi
  obtain ⟨p, l, e, R', s, m, args, below, meth, c, Q⟩ := x
  obtain ⟨hx, hb, hR, hown, hts⟩ := C
  obtain ⟨hd, rfl⟩ := hd
  intro H locs ls hP hS hL
  obtain ⟨D, cl, tys, cA, t0, f, hK, hp, ht, hv⟩ := hr H hP
  refine va_iald hx hb hK hp 0 t0 rfl ht (vp_in_nI hq (by omega)) hd ?_
  rw [nI_clamp (by omega), hv]
  exact h H locs ls hP hS hL
theorem V_ialdN (C : CX x cc own R) {a nn : Nat} {i v : Int32} (q : Nat) (hi : i = nI q) (hq : q < nn) (hnn : nn < 2147483648) (hd : D1 cc pc .iaload 1 pc') (hr : RdA (xs x) P a nn q v) (h : V x A P k n pc' L (.int v :: st)) : V x A P k n pc L (.int i :: .ref a :: st) :=
  V_iald C q hi (Nat.ble_eq_true_of_le hq) (Nat.ble_eq_true_of_le (by omega)) hd hr h
theorem V_aald (C : CX x cc own R) {a nn : Nat} {Cn : String} {f : Nat → Option Nat} {i : Int32} (hd : D1 cc pc .aaload 1 pc') (hr : RdQ (xs x) P a nn Cn f) (hin : vp_in i nn) (h : V x A P k n pc' L (va_rf (f i.toNatClampNeg) :: st)) : V x A P k n pc L (.int i :: .ref a :: st) := by
  obtain ⟨p, l, e, R', s, m, args, below, meth, c, Q⟩ := x
  obtain ⟨hx, hb, hR, hown, hts⟩ := C
  obtain ⟨hd, rfl⟩ := hd
  intro H locs ls hP hS hL
  obtain ⟨D, cl, tys, cA, t0, hK, hp, ht⟩ := hr H hP
  exact va_aldq hx hb hK hp 0 t0 rfl ht hin hd (h H locs ls hP hS hL)
theorem V_iast (C : CX x cc own R) {a nn : Nat} {i v : Int32} {P' : Heap → Prop} (q : Nat) (hi : i = nI q) (hq : Nat.ble (q+1) nn = true) (hnn : Nat.ble nn 2147483647 = true) (hd : D1 cc pc .iastore 1 pc') (hr : WrA (xs x) A P a nn q v P') (h : V x A P' k n pc' L st) : V x A P k n pc L (.int v :: .int i :: .ref a :: st) := by
  have hq := Nat.le_of_ble_eq_true hq
  have hnn := Nat.le_of_ble_eq_true hnn
  subst hi
  obtain ⟨p, l, e, R', s, m, args, below, meth, c, Q⟩ := x
  obtain ⟨hx, hb, hR, hown, hts⟩ := C
  obtain ⟨hd, rfl⟩ := hd
  intro H locs ls hP hS hL
  obtain ⟨D, cl, tys, ws, q0, cA, t0, f, hK, hp, hD, ha, ht, hH⟩ := hr H hP
  refine va_iast hx hb hK hp hD hS q0 t0 ha ht (vp_in_nI hq (by omega)) hd (fun H1 locs1 hp1 _ hS1 => h H1 locs1 ls (hH H1 ?_) hS1 hL)
  rw [nI_clamp (by omega)] at hp1
  exact hp1
theorem V_iastN (C : CX x cc own R) {a nn : Nat} {i v : Int32} {P' : Heap → Prop} (q : Nat) (hi : i = nI q) (hq : q < nn) (hnn : nn < 2147483648) (hd : D1 cc pc .iastore 1 pc') (hr : WrA (xs x) A P a nn q v P') (h : V x A P' k n pc' L st) : V x A P k n pc L (.int v :: .int i :: .ref a :: st) :=
  V_iast C q hi (Nat.ble_eq_true_of_le hq) (Nat.ble_eq_true_of_le (by omega)) hd hr h
theorem V_alen (C : CX x cc own R) {a nn : Nat} {v : Int32} (hd : D1 cc pc .arraylength 1 pc') (hr : RdL (xs x) P a nn) (hv : Int32.ofNat nn = v) (h : V x A P k n pc' L (.int v :: st)) : V x A P k n pc L (.ref a :: st) := by
  obtain ⟨p, l, e, R', s, m, args, below, meth, c, Q⟩ := x
  obtain ⟨hx, hb, hR, hown, hts⟩ := C
  obtain ⟨hd, rfl⟩ := hd
  intro H locs ls hP hS hL
  obtain ⟨D, cl, tys, cA, t0, f, hK, hp, ht⟩ := hr H hP
  exact va_alen hx hb hK hp 0 t0 rfl ht hv hd (h H locs ls hP hS hL)
theorem V_alenQ (C : CX x cc own R) {a nn : Nat} {Cn : String} {f : Nat → Option Nat} {v : Int32} (hd : D1 cc pc .arraylength 1 pc') (hr : RdQ (xs x) P a nn Cn f) (hv : Int32.ofNat nn = v) (h : V x A P k n pc' L (.int v :: st)) : V x A P k n pc L (.ref a :: st) := by
  obtain ⟨p, l, e, R', s, m, args, below, meth, c, Q⟩ := x
  obtain ⟨hx, hb, hR, hown, hts⟩ := C
  obtain ⟨hd, rfl⟩ := hd
  intro H locs ls hP hS hL
  obtain ⟨D, cl, tys, cA, t0, hK, hp, ht⟩ := hr H hP
  exact va_alen hx hb hK hp 0 t0 rfl ht hv hd (h H locs ls hP hS hL)
theorem V_mmin (C : CX x cc own R) {a b : Int32} {idx : Nat} (hd : D1 cc pc (.invokestatic idx) 3 pc') (hl : Cond.methodLink own idx Lib.Math.min.name ∈ lw_gd) (w1 : Cond.static Lib.Math.min.name ∈ lw_gd) (w2 : Cond.initialized "java/lang/Math" ∈ lw_gd) (w3 : Cond.code Lib.Math.min.name Lib.Math.min.code 2 (some .int) ∈ lw_gd) (hf : Nat.ble 1 R.frames = true) (hlo : Nat.ble ((st.map fun v => v.category).sum + 13) R.locals = true) (hk : k ≤ R.cells) (hn : n ≤ R.slots) (h : V x A P k n pc' L (.int (if b < a then b else a) :: st)) : V x A P k n pc L (.int b :: .int a :: st) := by
  obtain ⟨p, l, e, R', s, m, args, below, meth, c, Q⟩ := x
  obtain ⟨hx, hb, hR, hown, hts⟩ := C
  obtain ⟨hd, rfl⟩ := hd
  have hR : R' = R := hR
  subst hR
  intro H locs ls hP hS hL
  exact va_mmin hx hb hL.2.1.symm hown (hts _ hl) (hts _ w1) (hts _ w2) (hts _ w3) (Nat.le_of_ble_eq_true hf) (Nat.le_of_ble_eq_true hlo) hk hn hd (h H locs ls hP hS hL)
theorem V_mmax (C : CX x cc own R) {a b : Int32} {idx : Nat} (hd : D1 cc pc (.invokestatic idx) 3 pc') (hl : Cond.methodLink own idx Lib.Math.max.name ∈ lw_gd) (w1 : Cond.static Lib.Math.max.name ∈ lw_gd) (w2 : Cond.initialized "java/lang/Math" ∈ lw_gd) (w3 : Cond.code Lib.Math.max.name Lib.Math.max.code 2 (some .int) ∈ lw_gd) (hf : Nat.ble 1 R.frames = true) (hlo : Nat.ble ((st.map fun v => v.category).sum + 13) R.locals = true) (hk : k ≤ R.cells) (hn : n ≤ R.slots) (h : V x A P k n pc' L (.int (if a < b then b else a) :: st)) : V x A P k n pc L (.int b :: .int a :: st) := by
  obtain ⟨p, l, e, R', s, m, args, below, meth, c, Q⟩ := x
  obtain ⟨hx, hb, hR, hown, hts⟩ := C
  obtain ⟨hd, rfl⟩ := hd
  have hR : R' = R := hR
  subst hR
  intro H locs ls hP hS hL
  exact va_mmax hx hb hL.2.1.symm hown (hts _ hl) (hts _ w1) (hts _ w2) (hts _ w3) (Nat.le_of_ble_eq_true hf) (Nat.le_of_ble_eq_true hlo) hk hn hd (h H locs ls hP hS hL)
end ROWS
