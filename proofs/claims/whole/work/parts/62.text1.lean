/-! the JDK over the literals -/
theorem q75 : Cond.initialized RJ0 ∈ lw_gd := gd 75 (by decide +kernel) rfl
theorem q76 : Cond.initialized RJ1 ∈ lw_gd := gd 76 (by decide +kernel) rfl
theorem q77 : Cond.initialized RJ3 ∈ lw_gd := gd 77 (by decide +kernel) rfl
theorem q702 : Cond.instanceMethod yJ0_length_8abf5 ∈ lw_gd := gd 702 (by decide +kernel) rfl
theorem q703 : Cond.selects RJ0 yJ0_length_8abf5 yJ0_length_8abf5 ∈ lw_gd := gd 703 (by decide +kernel) rfl
theorem q704 : Cond.code yJ0_length_8abf5 cJ0_length_8abf5 1 (some .int) ∈ lw_gd := gd 704 (by decide +kernel) rfl
theorem q705 : Cond.methodLink RJ0 335 yJ0_coder_7d493 ∈ lw_gd := gd 705 (by decide +kernel) rfl
theorem q706 : Cond.instanceMethod yJ0_coder_7d493 ∈ lw_gd := gd 706 (by decide +kernel) rfl
theorem q707 : Cond.selects RJ0 yJ0_coder_7d493 yJ0_coder_7d493 ∈ lw_gd := gd 707 (by decide +kernel) rfl
theorem q708 : Cond.code yJ0_coder_7d493 cJ0_coder_7d493 1 (some .byte) ∈ lw_gd := gd 708 (by decide +kernel) rfl
theorem q709 : Cond.fieldLink RJ0 38 "java/lang/String" "COMPACT_STRINGS" "Z" ∈ lw_gd := gd 709 (by decide +kernel) rfl
theorem q712 : Cond.instanceMethod yJ0_charAt_5068e ∈ lw_gd := gd 712 (by decide +kernel) rfl
theorem q713 : Cond.selects RJ0 yJ0_charAt_5068e yJ0_charAt_5068e ∈ lw_gd := gd 713 (by decide +kernel) rfl
theorem q714 : Cond.code yJ0_charAt_5068e cJ0_charAt_5068e 2 (some .char) ∈ lw_gd := gd 714 (by decide +kernel) rfl
theorem q715 : Cond.methodLink RJ0 492 yJ0_isLatin1_aae02 ∈ lw_gd := gd 715 (by decide +kernel) rfl
theorem q716 : Cond.instanceMethod yJ0_isLatin1_aae02 ∈ lw_gd := gd 716 (by decide +kernel) rfl
theorem q717 : Cond.selects RJ0 yJ0_isLatin1_aae02 yJ0_isLatin1_aae02 ∈ lw_gd := gd 717 (by decide +kernel) rfl
theorem q718 : Cond.code yJ0_isLatin1_aae02 cJ0_isLatin1_aae02 1 (some .boolean) ∈ lw_gd := gd 718 (by decide +kernel) rfl
theorem q719 : Cond.methodLink RJ0 495 yJ1_charAt_3b067 ∈ lw_gd := gd 719 (by decide +kernel) rfl
theorem q720 : Cond.static yJ1_charAt_3b067 ∈ lw_gd := gd 720 (by decide +kernel) rfl
theorem q721 : Cond.code yJ1_charAt_3b067 cJ1_charAt_3b067 2 (some .char) ∈ lw_gd := gd 721 (by decide +kernel) rfl
theorem q722 : Cond.methodLink RJ1 9 yJ0_checkIndex_df160 ∈ lw_gd := gd 722 (by decide +kernel) rfl
theorem q723 : Cond.static yJ0_checkIndex_df160 ∈ lw_gd := gd 723 (by decide +kernel) rfl
theorem q724 : Cond.code yJ0_checkIndex_df160 cJ0_checkIndex_df160 2 none ∈ lw_gd := gd 724 (by decide +kernel) rfl
theorem q725 : Cond.fieldLink RJ0 1053 "jdk/internal/util/Preconditions" "SIOOBE_FORMATTER" "Ljava/util/function/BiFunction;" ∈ lw_gd := gd 725 (by decide +kernel) rfl
theorem q727 : Cond.methodLink RJ0 1059 yJ3_checkIndex_8e157 ∈ lw_gd := gd 727 (by decide +kernel) rfl
theorem q728 : Cond.static yJ3_checkIndex_8e157 ∈ lw_gd := gd 728 (by decide +kernel) rfl
theorem q729 : Cond.code yJ3_checkIndex_8e157 cJ3_checkIndex_8e157 3 (some .int) ∈ lw_gd := gd 729 (by decide +kernel) rfl
theorem q1442 : Cond.fieldLink RJ0 9 "java/lang/String" "value" "[B" ∈ lw_gd := gd 1442 (by decide +kernel) rfl
theorem q1443 : Cond.fieldLink RJ0 15 "java/lang/String" "coder" "B" ∈ lw_gd := gd 1443 (by decide +kernel) rfl
def rmJ0_length_8abf5 : Room := { frames := 1, cells := 0, slots := 0, locals := 20 }
def rmJ0_coder_7d493 : Room := { frames := 0, cells := 0, slots := 0, locals := 0 }
def rmJ0_isLatin1_aae02 : Room := { frames := 0, cells := 0, slots := 0, locals := 0 }
def rmJ3_checkIndex_8e157 : Room := { frames := 0, cells := 0, slots := 0, locals := 0 }
def rmJ0_checkIndex_df160 : Room := { frames := 1, cells := 0, slots := 0, locals := 22 }
def rmJ1_charAt_3b067 : Room := { frames := 2, cells := 0, slots := 0, locals := 43 }
def rmJ0_charAt_5068e : Room := { frames := 3, cells := 0, slots := 0, locals := 64 }

section TXROWS
variable {x : Cx} {cc : ByteArray} {own : String} {R : Room} {E : En} {k n pc pc' tgt : Nat} {L : List (Option Value)} {st : List Value} {P : Heap → Prop} {σ : Sg}
theorem V_gets (C : CX x cc own R) {Cn fn fd : String} {v : Value} {idx : Nat} (hZ : va_Z Cn fn fd v (eA E) (xs x) (xs x).heap) (hd : D1 cc pc (.getstatic idx) 3 pc') (hl : Cond.fieldLink own idx Cn fn fd ∈ lw_gd) (h : V x (eA E) P k n pc' L (v :: st)) : V x (eA E) P k n pc L st := by
  obtain ⟨p, l, e, R', s, m, args, below, meth, c, Q⟩ := x
  obtain ⟨hx, hb, hR, hown, hts⟩ := C
  obtain ⟨hd, rfl⟩ := hd
  intro H locs ls hP hS hL
  exact va_gets hx hb hZ hS hown (hts _ hl) (fun _ q => q) hd (h H locs ls hP hS hL)
theorem V_gf (C : CX x cc own R) {Cn fn fd : String} {v : Value} {q idx : Nat} (hZ : va_OF Cn fn fd v q (eA E) (xs x) (xs x).heap) (hd : D1 cc pc (.getfield idx) 3 pc') (hl : Cond.fieldLink own idx Cn fn fd ∈ lw_gd) (h : V x (eA E) P k n pc' L (v :: st)) : V x (eA E) P k n pc L (.ref q :: st) := by
  obtain ⟨p, l, e, R', s, m, args, below, meth, c, Q⟩ := x
  obtain ⟨hx, hb, hR, hown, hts⟩ := C
  obtain ⟨hd, rfl⟩ := hd
  intro H locs ls hP hS hL
  exact vk_getf hx hb hZ hS hown (hts _ hl) (fun _ q => q) hd (h H locs ls hP hS hL)
theorem V_tlen (C : CX x cc own R) {ty : FieldType} {t N : Nat} {f : Nat → Value} {v : Int32} (hT : va_T ty t N f (eA E) (xs x) (xs x).heap) (hd : D1 cc pc .arraylength 1 pc') (hv : Int32.ofNat N = v) (h : V x (eA E) P k n pc' L (.int v :: st)) : V x (eA E) P k n pc L (.ref t :: st) := by
  obtain ⟨p, l, e, R', s, m, args, below, meth, c, Q⟩ := x
  obtain ⟨hx, hb, hR, hown, hts⟩ := C
  obtain ⟨hd, rfl⟩ := hd
  intro H locs ls hP hS hL
  exact va_tlen hx hb hT hS hv hd (h H locs ls hP hS hL)
theorem V_tbald (C : CX x cc own R) {t N j : Nat} {f : Nat → Value} {v : Value} (hT : va_T .byte t N f (eA E) (xs x) (xs x).heap) (hj : j < N) (hN : N < 2147483648) (hd : D1 cc pc .baload 1 pc') (hv : f j = v) (h : V x (eA E) P k n pc' L (v :: st)) : V x (eA E) P k n pc L (.int (nI j) :: .ref t :: st) := by
  obtain ⟨p, l, e, R', s, m, args, below, meth, c, Q⟩ := x
  obtain ⟨hx, hb, hR, hown, hts⟩ := C
  obtain ⟨hd, rfl⟩ := hd
  intro H locs ls hP hS hL
  exact va_tb hx hb hT hS (vp_in_nI hj (by omega)) (by rw [nI_clamp (by omega)]; exact hv) hd (h H locs ls hP hS hL)
theorem V_i2c (C : CX x cc own R) {a v : Int32} (hd : D1 cc pc .i2c 1 pc') (hv : (a.toUInt32 % 65536).toInt32 = v) (h : V x (eA E) P k n pc' L (.int v :: st)) : V x (eA E) P k n pc L (.int a :: st) := by
  obtain ⟨p, l, e, R', s, m, args, below, meth, c, Q⟩ := x
  obtain ⟨hx, hb, hR, hown, hts⟩ := C
  obtain ⟨hd, rfl⟩ := hd
  intro H locs ls hP hS hL
  exact lv_i2c hx hb hd hv (h H locs ls hP hS hL)
theorem V_ldcS (C : CX x cc own R) {idx q : Nat} {tx : String} (hd : D1 cc pc (.ldc idx) 2 pc') (hZ : vk_R own idx tx q (xs x)) (h : V x (eA E) P k n pc' L (.ref q :: st)) : V x (eA E) P k n pc L st := by
  obtain ⟨p, l, e, R', s, m, args, below, meth, c, Q⟩ := x
  obtain ⟨hx, hb, hR, hown, hts⟩ := C
  obtain ⟨hd, rfl⟩ := hd
  intro H locs ls hP hS hL
  exact va_ldcS hx hb hown hZ hd (h H locs ls hP hS hL)
theorem V_xret (C : CX x cc own R) {ty : FieldType} {S : Type} {post : Option Value → S → Prop} {P' : S → State → Heap → Prop} {u : S} {a : Int32} {P : Heap → Prop} (hd : D1 cc pc .ireturn 1 pc') (hT : RT x (some ty) E post P' k n) (hn : narrow ty (.int a) = .int a) (hp : post (some (.int a)) u) (hP : ∀ H, P H → P' u (xs x) H) (hM : PM (P' u)) : V x (eA E) P k n pc L [.int a] := by
  obtain ⟨p, l, e, R', s, m, args, below, meth, c, Q⟩ := x
  obtain ⟨hx, hb, hR, hown, hts⟩ := C
  obtain ⟨rfl, hr, hlk⟩ := hT
  intro H locs ls hPH hS hL
  exact W.zret hx hb hr hn (fun t ht hW => ⟨⟨_, u, rfl, hp, by show P' u t t.heap; rw [ht]; exact hM _ _ _ hW.alike (hP H hPH)⟩, hS.F ht⟩) hS.2.2 hd.1 hlk
theorem V_xretD (C : CX x cc own R) {ty : FieldType} {a : Int32} {σ0 : Sg} (hd : D1 cc pc .ireturn 1 pc') (hT : RTD x (some ty) E (some (.int a)) σ0) (hn : narrow ty (.int a) = .int a) (hs : σ = σ0) : V x (eA E) (AP x E σ) 0 0 pc L [.int a] :=
  V_xret C (u := σ) hd hT hn ⟨rfl, hs⟩ (fun _ h => h) PM_A
theorem V_callK (C : CX x cc own R) (hE : CE E (xs x) (xs x).heap) {i : Nat} (hi : i < nTx) {idx nn ynL mc ms : Nat} {As rest : List Value} {y : MethodName} {ycc : ByteArray} {ret : Option FieldType} {rm : Room} {P : State → Heap → Prop} {S : Type} {post : Option Value → S → Prop} {P' : S → State → Heap → Prop}
    (hd : D1 cc pc (.invokevirtual idx) 3 pc') (hM : MG (xl x) y ycc ynL ret rm mc ms E (.ref (eK E i) :: As) P post P') (hk : KV "java/lang/String" y ycc ynL ret nn) (hl : Cond.methodLink own idx y ∈ lw_gd) (hro : RO rm ynL R) (hcc : rm.cells = mc ∧ rm.slots = ms) (hnn : As.length = nn) (hc : k + mc ≤ R.cells ∧ n + ms ≤ R.slots) (hst : st = As.reverse ++ .ref (eK E i) :: rest) (hrest : (rest.map fun v => v.category).sum ≤ 8) (hPM : PM P) (hPM' : ∀ u, PM (P' u))
    (kk : ∀ (r : Option Value) (u : S), post r u → V x (eA E) (fun H => P' u (xs x) H) (k + mc) (n + ms) pc' L (r.toList ++ rest)) : V x (eA E) (fun H => P (xs x) H) k n pc L st := by
  obtain ⟨p, l, e, R', s, m, args, below, meth, c, Q⟩ := x
  obtain ⟨hx, hb, hR, hown, hts⟩ := C
  obtain ⟨hd, rfl⟩ := hd
  obtain ⟨k1, k2, k3, k4, k5⟩ := hk
  have hR : R' = R := hR
  subst hR
  subst hst
  intro H locs ls hPH hS hL
  have hG : GoodIn lw_gd (wsV own idx "java/lang/String" y (.code y ycc ynL ret :: lw_gd)) := fun w hw => lw_gd_ok w (by
    unfold wsV at hw
    simp only [List.cons_append, List.nil_append, List.mem_cons] at hw
    rcases hw with rfl | rfl | rfl | rfl | rfl | h <;> assumption)
  refine callG (va_runV (As := As) (rest := rest) (nL := c.maxLocals) ⟨hx, hb, rfl, hown, hts⟩ hM (cwV nn hts hG rfl hcc.1 hcc.2 k5 hro) ⟨?_, vk_recv hE.1.1 hi hS, ?_⟩ rfl hnn (by rw [hL.2.1]) rfl (lv_room hrest) hd hc) hS (fun _ h => h) ?_
  · intro a U g mk q
    exact ⟨q.1, hPM _ _ _ (Vm.Alike.refl U.vm) q.2.1, XS.same (u := U) rfl q.2.2.1, q.2.2.2⟩
  · intro U hU hW
    refine ⟨rfl, by rw [hU]; exact hPM _ _ _ hW.alike hPH, ?_, by rw [hU]; exact Nat.le_trans hE.2 hS.1⟩
    rw [hU]
    exact (hE.1.kept (fun a h1 h2 => hS.2.1 a h1 h2)).warm hW
  · intro r u t H1 locs1 ht hvm hp hB hS1
    exact kk r u hp H1 locs1 ls (by rw [← ht]; exact hPM' u _ _ _ hvm.symm hB) hS1 hL
theorem V_ck (C : CX x cc own R) (hE : CE E (xs x) (xs x).heap) {i : Nat} (hi : i < nTx) {idx nn ynL : Nat} {As rest : List Value} {y : MethodName} {ycc : ByteArray} {ret : Option FieldType} {rm : Room} {v : Value} {σ0 : Sg}
    (hd : D1 cc pc (.invokevirtual idx) 3 pc') (hM : MD (xl x) y ycc ynL ret rm E (.ref (eK E i) :: As) σ (some v) σ0) (hk : KV "java/lang/String" y ycc ynL ret nn) (hl : Cond.methodLink own idx y ∈ lw_gd) (hst : st = As.reverse ++ .ref (eK E i) :: rest) (hro : ROb rm ynL R nn As rest = true) (hkc : (Nat.ble k R.cells && Nat.ble n R.slots) = true)
    (h : V x (eA E) (AP x E σ0) k n pc' L (v :: rest)) : V x (eA E) (AP x E σ) k n pc L st := by
  simp only [ROb, Bool.and_eq_true, Nat.ble_eq, beq_iff_eq] at hro
  simp only [Bool.and_eq_true, Nat.ble_eq] at hkc
  refine V_callK C hE hi hd hM hk hl ⟨hro.1.1.1.1.1, hro.1.1.1.1.2⟩ ⟨hro.1.1.1.2, hro.1.1.2⟩ hro.1.2 hkc hst hro.2 PM_A (fun _ => PM_A) ?_
  rintro r u ⟨rfl, rfl⟩
  exact h
theorem V_co0 (C : CX x cc own R) (hE : CE E (xs x) (xs x).heap) {idx nn ynL : Nat} {As rest : List Value} {y : MethodName} {ycc : ByteArray} {ret : Option FieldType} {rm : Room} {σ0 : Sg}
    (hd : D1 cc pc (.invokestatic idx) 3 pc') (hM : MD (xl x) y ycc ynL ret rm E As σ none σ0) (hk : KO y ycc ynL ret nn) (hl : Cond.methodLink own idx y ∈ lw_gd) (hst : st = As.reverse ++ rest) (hro : ROb rm ynL R nn As rest = true) (hkc : (Nat.ble k R.cells && Nat.ble n R.slots) = true)
    (h : V x (eA E) (AP x E σ0) k n pc' L rest) : V x (eA E) (AP x E σ) k n pc L st := by
  simp only [ROb, Bool.and_eq_true, Nat.ble_eq, beq_iff_eq] at hro
  simp only [Bool.and_eq_true, Nat.ble_eq] at hkc
  refine V_callO C hE hd hM hk hl ⟨hro.1.1.1.1.1, hro.1.1.1.1.2⟩ ⟨hro.1.1.1.2, hro.1.1.2⟩ hro.1.2 hkc hst hro.2 PM_A (fun _ => PM_A) ?_
  rintro r u ⟨rfl, rfl⟩
  exact h
end TXROWS
/-- the byte of a literal -/
def chT (i j : Nat) : Int32 := (bytTx.getD i []).getD j 0
theorem chT_all : ∀ i, i < nTx → ∀ j, j < lenTx.getD i 0 → (((chT i j &&& 255).toUInt32 % 65536).toInt32 = chT i j ∧ narrow .char (.int (chT i j)) = .int (chT i j)) := by decide +kernel
theorem lenTx_b : ∀ i, i < nTx → lenTx.getD i 0 ≤ 8 := by decide +kernel
theorem lenTx_s : ∀ i, i < nTx → nI (lenTx.getD i 0) >>> ((0 : Int32) &&& 31) = nI (lenTx.getD i 0) := by decide +kernel

theorem c_coder {l : Launch} {E : En} {σ : Sg} {i : Nat} (hi : i < nTx) : MD l yJ0_coder_7d493 cJ0_coder_7d493 1 (some .byte) rmJ0_coder_7d493 E [.ref (eK E i)] σ (some (.int 0)) σ := by
  refine MD_of (by decide +kernel) rfl fun x C hE hT hcan => ?_
  have C : CX x cJ0_coder_7d493 RJ0 rmJ0_coder_7d493 := C
  refine V_L (L' := [some (.ref (eK E i))]) rfl ?_
  refine V_gets C hE.1.2.2.1 dJ0_coder_7d493_0 q709 ?_
  refine V_if_eq C dJ0_coder_7d493_3 (fun c => absurd c (by decide)) (fun _ => ?_)
  refine V_aload_n C dJ0_coder_7d493_6 rfl ?_
  refine V_gf C (hE.1.1.1 i hi).2.1 dJ0_coder_7d493_7 q1443 ?_
  refine V_goto C dJ0_coder_7d493_10 ?_
  exact V_xretD C dJ0_coder_7d493_14 hT (by decide) rfl
theorem c_isLatin1 {l : Launch} {E : En} {σ : Sg} {i : Nat} (hi : i < nTx) : MD l yJ0_isLatin1_aae02 cJ0_isLatin1_aae02 1 (some .boolean) rmJ0_isLatin1_aae02 E [.ref (eK E i)] σ (some (.int 1)) σ := by
  refine MD_of (by decide +kernel) rfl fun x C hE hT hcan => ?_
  have C : CX x cJ0_isLatin1_aae02 RJ0 rmJ0_isLatin1_aae02 := C
  refine V_L (L' := [some (.ref (eK E i))]) rfl ?_
  refine V_gets C hE.1.2.2.1 dJ0_isLatin1_aae02_0 q709 ?_
  refine V_if_eq C dJ0_isLatin1_aae02_3 (fun c => absurd c (by decide)) (fun _ => ?_)
  refine V_aload_n C dJ0_isLatin1_aae02_6 rfl ?_
  refine V_gf C (hE.1.1.1 i hi).2.1 dJ0_isLatin1_aae02_7 q1443 ?_
  refine V_if_ne C dJ0_isLatin1_aae02_10 (fun c => absurd rfl c) (fun _ => ?_)
  refine V_iconst C 1 dJ0_isLatin1_aae02_13 (by decide) ?_
  refine V_goto C dJ0_isLatin1_aae02_14 ?_
  exact V_xretD C dJ0_isLatin1_aae02_18 hT (by decide) rfl
theorem kyJ0_coder_7d493 : KV "java/lang/String" yJ0_coder_7d493 cJ0_coder_7d493 1 (some .byte) 0 := ⟨q706, q707, q75, q708, by decide +kernel⟩
theorem kyJ0_isLatin1_aae02 : KV "java/lang/String" yJ0_isLatin1_aae02 cJ0_isLatin1_aae02 1 (some .boolean) 0 := ⟨q716, q717, q75, q718, by decide +kernel⟩
theorem c_length {l : Launch} {E : En} {σ : Sg} {i : Nat} (hi : i < nTx) : MD l yJ0_length_8abf5 cJ0_length_8abf5 1 (some .int) rmJ0_length_8abf5 E [.ref (eK E i)] σ (some (.int (nI (lenTx.getD i 0)))) σ := by
  refine MD_of (by decide +kernel) rfl fun x C hE hT hcan => ?_
  have C : CX x cJ0_length_8abf5 RJ0 rmJ0_length_8abf5 := C
  refine V_L (L' := [some (.ref (eK E i))]) rfl ?_
  refine V_aload_n C dJ0_length_8abf5_0 rfl ?_
  refine V_gf C (hE.1.1.1 i hi).2.2.1 dJ0_length_8abf5_1 q1442 ?_
  refine V_tlen C (v := nI (lenTx.getD i 0)) (hE.1.1.1 i hi).2.2.2 dJ0_length_8abf5_4 rfl ?_
  refine V_aload_n C dJ0_length_8abf5_5 rfl ?_
  refine V_ck C hE hi dJ0_length_8abf5_6 (c_coder hi) kyJ0_coder_7d493 q705 rfl rfl rfl ?_
  refine V_ishr C dJ0_length_8abf5_9 ?_
  exact V_iretD C dJ0_length_8abf5_10 hT (lenTx_s i hi) rfl
theorem kyJ0_length_8abf5 : KV "java/lang/String" yJ0_length_8abf5 cJ0_length_8abf5 1 (some .int) 0 := ⟨q702, q703, q75, q704, by decide +kernel⟩
theorem c_pchkN {l : Launch} {E : En} {σ : Sg} {j N : Nat} (hj : j < N) (hN : N < 2147483648) : MD l yJ3_checkIndex_8e157 cJ3_checkIndex_8e157 3 (some .int) rmJ3_checkIndex_8e157 E [.int (nI j), .int (nI N), .null] σ (some (.int (nI j))) σ := by
  refine MD_of (by decide +kernel) rfl fun x C hE hT hcan => ?_
  have C : CX x cJ3_checkIndex_8e157 RJ3 rmJ3_checkIndex_8e157 := C
  refine V_L (L' := [some (.int (nI j)), some (.int (nI N)), some (.null)]) rfl ?_
  refine V_iload_n C dJ3_checkIndex_8e157_0 rfl ?_
  refine V_if_lt C dJ3_checkIndex_8e157_1 (fun c => absurd c (nI_pos (by omega))) (fun _ => ?_)
  refine V_iload_n C dJ3_checkIndex_8e157_4 rfl ?_
  refine V_iload_n C dJ3_checkIndex_8e157_5 rfl ?_
  refine V_icmp_lt C dJ3_checkIndex_8e157_6 (fun _ => ?_) (fun c => absurd (nI_lt hj (by omega)) c)
  refine V_iload_n C dJ3_checkIndex_8e157_16 rfl ?_
  exact V_iretD C dJ3_checkIndex_8e157_17 hT rfl rfl
theorem c_pchkR {l : Launch} {E : En} {σ : Sg} {j N : Nat} {q : Nat} (hj : j < N) (hN : N < 2147483648) : MD l yJ3_checkIndex_8e157 cJ3_checkIndex_8e157 3 (some .int) rmJ3_checkIndex_8e157 E [.int (nI j), .int (nI N), .ref q] σ (some (.int (nI j))) σ := by
  refine MD_of (by decide +kernel) rfl fun x C hE hT hcan => ?_
  have C : CX x cJ3_checkIndex_8e157 RJ3 rmJ3_checkIndex_8e157 := C
  refine V_L (L' := [some (.int (nI j)), some (.int (nI N)), some (.ref q)]) rfl ?_
  refine V_iload_n C dJ3_checkIndex_8e157_0 rfl ?_
  refine V_if_lt C dJ3_checkIndex_8e157_1 (fun c => absurd c (nI_pos (by omega))) (fun _ => ?_)
  refine V_iload_n C dJ3_checkIndex_8e157_4 rfl ?_
  refine V_iload_n C dJ3_checkIndex_8e157_5 rfl ?_
  refine V_icmp_lt C dJ3_checkIndex_8e157_6 (fun _ => ?_) (fun c => absurd (nI_lt hj (by omega)) c)
  refine V_iload_n C dJ3_checkIndex_8e157_16 rfl ?_
  exact V_iretD C dJ3_checkIndex_8e157_17 hT rfl rfl
theorem kyJ3_checkIndex_8e157 : KO yJ3_checkIndex_8e157 cJ3_checkIndex_8e157 3 (some .int) 3 := ⟨q728, q77, q729, by decide +kernel⟩
theorem c_chk {l : Launch} {E : En} {σ : Sg} {j N : Nat} (hj : j < N) (hN : N < 2147483648) : MD l yJ0_checkIndex_df160 cJ0_checkIndex_df160 2 none rmJ0_checkIndex_df160 E [.int (nI j), .int (nI N)] σ none σ := by
  refine MD_of (by decide +kernel) rfl fun x C hE hT hcan => ?_
  have C : CX x cJ0_checkIndex_df160 RJ0 rmJ0_checkIndex_df160 := C
  refine V_L (L' := [some (.int (nI j)), some (.int (nI N))]) rfl ?_
  refine V_iload_n C dJ0_checkIndex_df160_0 rfl ?_
  refine V_iload_n C dJ0_checkIndex_df160_1 rfl ?_
  rcases hE.1.2.2.2.1 with hz | ⟨q, hz⟩
  · refine V_gets C hz dJ0_checkIndex_df160_2 q725 ?_
    refine V_co C hE dJ0_checkIndex_df160_5 (c_pchkN hj hN) kyJ3_checkIndex_8e157 q727 rfl rfl rfl ?_
    refine V_pop C dJ0_checkIndex_df160_8 rfl ?_
    exact V_retD C dJ0_checkIndex_df160_9 hT rfl
  · refine V_gets C hz dJ0_checkIndex_df160_2 q725 ?_
    refine V_co C hE dJ0_checkIndex_df160_5 (c_pchkR hj hN) kyJ3_checkIndex_8e157 q727 rfl rfl rfl ?_
    refine V_pop C dJ0_checkIndex_df160_8 rfl ?_
    exact V_retD C dJ0_checkIndex_df160_9 hT rfl
theorem kyJ0_checkIndex_df160 : KO yJ0_checkIndex_df160 cJ0_checkIndex_df160 2 none 2 := ⟨q723, q75, q724, by decide +kernel⟩
theorem c_lat {l : Launch} {E : En} {σ : Sg} {i j : Nat} (hi : i < nTx) (hj : j < lenTx.getD i 0) : MD l yJ1_charAt_3b067 cJ1_charAt_3b067 2 (some .char) rmJ1_charAt_3b067 E [.ref (eV E i), .int (nI j)] σ (some (.int (chT i j))) σ := by
  refine MD_of (by decide +kernel) rfl fun x C hE hT hcan => ?_
  have C : CX x cJ1_charAt_3b067 RJ1 rmJ1_charAt_3b067 := C
  refine V_L (L' := [some (.ref (eV E i)), some (.int (nI j))]) rfl ?_
  have hN := lenTx_b i hi
  refine V_iload_n C dJ1_charAt_3b067_0 rfl ?_
  refine V_aload_n C dJ1_charAt_3b067_1 rfl ?_
  refine V_tlen C (v := nI (lenTx.getD i 0)) (hE.1.1.1 i hi).2.2.2 dJ1_charAt_3b067_2 rfl ?_
  refine V_co0 C hE dJ1_charAt_3b067_3 (c_chk hj (by omega)) kyJ0_checkIndex_df160 q722 rfl rfl rfl ?_
  refine V_aload_n C dJ1_charAt_3b067_6 rfl ?_
  refine V_iload_n C dJ1_charAt_3b067_7 rfl ?_
  refine V_tbald C (v := .int (chT i j)) (hE.1.1.1 i hi).2.2.2 hj (by omega) dJ1_charAt_3b067_8 rfl ?_
  refine V_sipush C 255 dJ1_charAt_3b067_9 (by decide) ?_
  refine V_iand C dJ1_charAt_3b067_12 ?_
  refine V_i2c C dJ1_charAt_3b067_13 (chT_all i hi j hj).1 ?_
  exact V_xretD C dJ1_charAt_3b067_14 hT (chT_all i hi j hj).2 rfl
theorem kyJ1_charAt_3b067 : KO yJ1_charAt_3b067 cJ1_charAt_3b067 2 (some .char) 2 := ⟨q720, q76, q721, by decide +kernel⟩
theorem c_charAt {l : Launch} {E : En} {σ : Sg} {i j : Nat} (hi : i < nTx) (hj : j < lenTx.getD i 0) : MD l yJ0_charAt_5068e cJ0_charAt_5068e 2 (some .char) rmJ0_charAt_5068e E [.ref (eK E i), .int (nI j)] σ (some (.int (chT i j))) σ := by
  refine MD_of (by decide +kernel) rfl fun x C hE hT hcan => ?_
  have C : CX x cJ0_charAt_5068e RJ0 rmJ0_charAt_5068e := C
  refine V_L (L' := [some (.ref (eK E i)), some (.int (nI j))]) rfl ?_
  refine V_aload_n C dJ0_charAt_5068e_0 rfl ?_
  refine V_ck C hE hi dJ0_charAt_5068e_1 (c_isLatin1 hi) kyJ0_isLatin1_aae02 q715 rfl rfl rfl ?_
  refine V_if_eq C dJ0_charAt_5068e_4 (fun c => absurd c (by decide)) (fun _ => ?_)
  refine V_aload_n C dJ0_charAt_5068e_7 rfl ?_
  refine V_gf C (hE.1.1.1 i hi).2.2.1 dJ0_charAt_5068e_8 q1442 ?_
  refine V_iload_n C dJ0_charAt_5068e_11 rfl ?_
  refine V_co C hE dJ0_charAt_5068e_12 (c_lat hi hj) kyJ1_charAt_3b067 q719 rfl rfl rfl ?_
  exact V_xretD C dJ0_charAt_5068e_15 hT (chT_all i hi j hj).2 rfl
theorem kyJ0_charAt_5068e : KV "java/lang/String" yJ0_charAt_5068e cJ0_charAt_5068e 2 (some .char) 1 := ⟨q712, q713, q75, q714, by decide +kernel⟩
