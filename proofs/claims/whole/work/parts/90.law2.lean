/-! THE CLAIM OUT OF ONE WALK OF THE LAW'S BODY (the skeleton's heads), and the walk's own rows -/
def R_law : String := "SledgeStoveLaw"
def lw_P (b : Addr) (xs : List Int32) (args : Array Value) (s : State) : Prop := args = #[.ref b] ∧ s.IntsAt b xs ∧ xs.length ≤ 3072 ∧ (Jvm.Cond.and given_1 narrow_1).before args s = true
def lw_Q (_ : Array Value) (s : State) (o : Outcome) (t : State) : Prop := o = .returned (some (.int 1)) ∧ Framed s o t [] 600000 7302250
def lw_Z (below : List Frame) (a : Array Value) (s : State) : State → Prop := fun t => ∃ o, t.status = .running ∧ Ended t below o ∧ lw_Q a s o t
/-- the law's own end, with 1 on the stack, nothing written that was there before, its room as the claim has it -/
theorem lw_ret {p : Program} {l : Launch} {e : Env} {s : State} {m : MethodId} {below : List Frame} {meth : Method} {c : Code} {b : Nat} (hx : p.tables.exec = Jvm.exec) (hb : c.code = code) (hr : meth.sig.returnType = ret) (hlocks : meth.locks = false) {pc : Nat} {H : Heap} {ls : Array Slot} (hdg : decode code pc = .ok (.ireturn, 1)) : W p l e room_1 s m #[Value.ref b] below meth c H [] 600000 7302250 (lw_Z below #[Value.ref b] s) (F0 m pc ls [.int 1]) := by
  intro T hT X
  obtain ⟨fs, hret, hrun, hended, hW, hframe⟩ := X.leave (v := some (.int 1)) (hlocks := hlocks) (fun h => by rw [hr] at h; cases h)
  have hmeth' : T.vm.method? m = some meth := X.method'
  refine ⟨T.setFrames fs, ?_, .returned (some (.int 1)), hrun, hended, rfl, ⟨_, rfl⟩, hW, hframe⟩
  jvm_step X.here [X.here.top, hx, hb, hdg, hmeth', hr, ret, narrow_b1]
  (try refine ⟨rfl, ?_⟩); (try refine ⟨rfl, ?_⟩)
  first | (intro acts; rw [hret _ acts rfl rfl rfl]) | rw [hret _ _ rfl rfl rfl]
  exact Steps.refl _
/-- what holds at the law's entry: the machine, the code, the tables' words (any of lw_tbl by 'hts w (by decide +kernel)'), the script of L ints xs at the cell b, what the Statement gives of the start (any of its parts by flat_of_before) -/
def lw_At (p : Program) (s : State) (m : MethodId) (meth : Method) (c : Code) (b L : Nat) (xs : Nat → Int32) : Prop :=
  p.tables.exec = Jvm.exec ∧ c.code = code ∧ meth.sig.returnType = ret ∧ c.maxLocals = 4 ∧ s.vm.findClass R_law = some m.cls ∧ (∀ w ∈ lw_tbl, w.before #[Value.ref b] s = true) ∧ va_X b L xs s s.heap ∧ b < s.heap.size ∧ meth.locks = false ∧ (Jvm.Cond.and given_1 narrow_1).before #[Value.ref b] s = true
section LAW
variable {x : Cx} {cc : ByteArray} {own : String} {R : Room} {A : Nat → Prop} {P : Heap → Prop} {k n pc pc' : Nat} {L : List (Option Value)} {st : List Value}
theorem V_sld (C : CX x cc own R) {b Ln j : Nat} {ys : Nat → Int32} {i : Int32} (hX : va_X b Ln ys (xs x) (xs x).heap) (hbl : b < (xs x).heap.size) (hbA : ¬ A b) (hi : i = nI j) (hj : j < Ln) (hln : Ln ≤ 3072) (hd : D1 cc pc .iaload 1 pc') (h : V x A P k n pc' L (.int (ys j) :: st)) : V x A P k n pc L (.int i :: .ref b :: st) := by
  subst hi
  obtain ⟨p, l, e, R', s, m, args, below, meth, c, Q⟩ := x
  obtain ⟨hx, hb, hR, hown, hts⟩ := C
  obtain ⟨hd, rfl⟩ := hd
  intro H locs ls hP hS hL
  refine va_sld hx hb hX hbl hbA hS (vp_in_nI hj (by omega)) hd ?_
  rw [nI_clamp (by omega)]
  exact h H locs ls hP hS hL
theorem V_slen (C : CX x cc own R) {b Ln : Nat} {ys : Nat → Int32} (hX : va_X b Ln ys (xs x) (xs x).heap) (hbl : b < (xs x).heap.size) (hbA : ¬ A b) (hd : D1 cc pc .arraylength 1 pc') (h : V x A P k n pc' L (.int (nI Ln) :: st)) : V x A P k n pc L (.ref b :: st) := by
  obtain ⟨p, l, e, R', s, m, args, below, meth, c, Q⟩ := x
  obtain ⟨hx, hb, hR, hown, hts⟩ := C
  obtain ⟨hd, rfl⟩ := hd
  intro H locs ls hP hS hL
  exact va_slen hx hb hX hbl hbA hS hd (h H locs ls hP hS hL)
end LAW
/-- what holds all along the law's walk -/
def LX (x : Cx) (b Ln : Nat) (ys : Nat → Int32) (E : En) : Prop := CX x code RL room_1 ∧ CE E (xs x) (xs x).heap ∧ va_X b Ln ys (xs x) (xs x).heap ∧ b < (xs x).heap.size ∧ ¬ eA E b ∧ Ln ≤ 3072 ∧ DC (xs x) ∧ eW E = 0
abbrev LL (E : En) (b i : Nat) : List (Option Value) := [some (.ref b), some (.ref (ad E 60)), some (.ref (ad E 73)), some (.int (nI i))]
/-- the walk goes on behind a call that both sides answered alike -/
def LN (x : Cx) (E : En) (b i k n : Nat) : Prop := ∀ (u : Sg) (k' n' : Nat), Rel u → k' ≤ k + 1 → n' ≤ n + 2 → V x (eA E) (AP x E u) k' n' 1490 (LL E b i) []
theorem V_arg {x : Cx} {b Ln i k n pc p1 p2 p3 p4 p5 : Nat} {ys : Nat → Int32} {E : En} {P : Heap → Prop} {st : List Value} (h : LX x b Ln ys E) (j : Nat) (hi : i + 6 ≤ Ln) (d1 : D1 code pc (.aload_n 0) 1 p1) (d2 : D1 code p1 (.iload_n 3) 1 p2) (d3 : D1 code p2 (.iconst (j : Int)) 1 p3) (d4 : D1 code p3 .iadd 1 p4) (d5 : D1 code p4 .iaload 1 p5) (hj : j ≤ 5)
    (hv : V x (eA E) P k n p5 (LL E b i) (.int (ys (i + j)) :: st)) : V x (eA E) P k n pc (LL E b i) st := by
  obtain ⟨C, hE, hX, hbl, hbA, hln, -, -⟩ := h
  refine V_aload_n C d1 rfl ?_
  refine V_iload_n C d2 rfl ?_
  refine V_iconst C (nI j) d3 (by rcases (show j = 0 ∨ j = 1 ∨ j = 2 ∨ j = 3 ∨ j = 4 ∨ j = 5 by omega) with rfl | rfl | rfl | rfl | rfl | rfl <;> rfl) ?_
  refine V_iadd C d4 ?_
  exact V_sld C hX hbl hbA (nI_add _ _) (by omega) hln d5 hv
theorem lw_hkc {k n : Nat} (hk : k ≤ 1000) (hn : n ≤ 4000) : (Nat.ble k room_1.cells && Nat.ble n room_1.slots) = true := by
  rw [Bool.and_eq_true]
  exact ⟨Nat.ble_eq.mpr (show k ≤ 600000 by omega), Nat.ble_eq.mpr (show n ≤ 7302250 by omega)⟩
theorem lw_hcc {k n mc ms : Nat} (hk : k ≤ 1000) (hn : n ≤ 4000) (h1 : mc ≤ 1000) (h2 : ms ≤ 4000) : k + mc ≤ room_1.cells ∧ n + ms ≤ room_1.slots := ⟨show k + mc ≤ 600000 by omega, show n + ms ≤ 7302250 by omega⟩
