theorem q128 : Cond.arrayClass .int ∈ lw_gd := gd 128 (by decide +kernel) rfl
theorem va_D_nd {A : Nat → Prop} {ws : va_W} : va_D A ws ↔ (ws.map Prod.fst).Nodup ∧ ∀ z, z ∈ ws → A z.1 := by
  constructor
  · intro h
    refine ⟨?_, fun z hz => ?_⟩
    · unfold List.Nodup
      rw [List.pairwise_iff_getElem]
      intro i j hi hj hij e
      rw [List.length_map] at hi hj
      rw [List.getElem_map, List.getElem_map] at e
      have := h.1 i j _ _ (List.getElem?_eq_getElem hi) (List.getElem?_eq_getElem hj) e
      omega
    · obtain ⟨k, hk⟩ := List.mem_iff_getElem?.mp hz
      exact h.2 k z hk
  · rintro ⟨h1, h2⟩
    refine ⟨fun i j p q hi hj e => ?_, fun k z hk => h2 z (List.mem_of_getElem? hk)⟩
    unfold List.Nodup at h1
    rw [List.pairwise_iff_getElem] at h1
    obtain ⟨li, ei⟩ := List.getElem?_eq_some_iff.mp hi
    obtain ⟨lj, ej⟩ := List.getElem?_eq_some_iff.mp hj
    rcases Nat.lt_trichotomy i j with c | c | c
    · exact absurd (by rw [List.getElem_map, List.getElem_map, ei, ej]; exact e) (h1 i j (by rw [List.length_map]; exact li) (by rw [List.length_map]; exact lj) c)
    · exact c
    · exact absurd (by rw [List.getElem_map, List.getElem_map, ei, ej]; exact e.symm) (h1 j i (by rw [List.length_map]; exact lj) (by rw [List.length_map]; exact li) c)
theorem PW_perm {E : En} {ws ws' : va_W} (h : ws.Perm ws') {s : State} {H : Heap} (hP : PW E ws s H) : PW E ws' s H := by
  refine ⟨hP.1, fun k z hk => ?_, ?_⟩
  · obtain ⟨j, hj⟩ := List.mem_iff_getElem?.mp (h.mem_iff.mpr (List.mem_of_getElem? hk))
    exact hP.2.1 j z hj
  · have hd := va_D_nd.mp hP.2.2
    exact va_D_nd.mpr ⟨(h.map Prod.fst).nodup_iff.mp hd.1, fun z hz => hd.2 z (h.mem_iff.mpr hz)⟩
theorem perm_app1 {α : Type} (l : List α) (a : α) : (l ++ [a]).Perm (a :: l) := by
  have := List.perm_middle (a := a) (l₁ := l) (l₂ := [])
  rw [List.append_nil] at this
  exact this
section NEWC
variable {x : Cx} {cc : ByteArray} {own : String} {R : Room} {E : En} {k n pc pc' tgt : Nat} {L : List (Option Value)} {st : List Value}
theorem V_perm {ws ws' : va_W} (h : ws.Perm ws') (hV : V x (eA E) (WP x E ws') k n pc L st) : V x (eA E) (WP x E ws) k n pc L st := V_to (fun _ hP => PW_perm h hP) rfl rfl hV
theorem V_newIc (C : CX x cc own R) (hE : CE E (xs x) (xs x).heap) {ws : va_W} {nn : Nat} {i : Int32} (hi : i = nI nn) (hnn : Nat.ble nn 1000 = true) (hd : D1 cc pc (.newarray .int) 2 pc') (harr : Cond.arrayClass .int ∈ lw_gd) (hc : Nat.ble (k + 1) R.cells = true) (hs : Nat.ble (n + nn) R.slots = true)
    (h : ∀ q : Nat, V x (eA E) (WP x E ((q, arI E nn (fun _ => 0)) :: ws)) (k + 1) (n + nn) pc' L (.ref q :: st)) : V x (eA E) (WP x E ws) k n pc L (.int i :: st) :=
  V_newI C hE hi hnn hd harr hc hs fun q => V_perm (perm_app1 _ _) (h q)
theorem V_newQc (C : CX x cc own R) (hE : CE E (xs x) (xs x).heap) {ws : va_W} {nn t0 idx : Nat} {i : Int32} {cQ : ClassId} {Cn : String} (hi : i = nI nn) (hnn : Nat.ble nn 1000 = true) (ht : (tysE E)[t0]? = some (cQ, .object Cn)) (hd : D1 cc pc (.anewarray idx) 3 pc') (hcl : Cond.classLink own idx Cn ∈ lw_gd) (hov : va_AO Cn (xs x)) (hc : Nat.ble (k + 1) R.cells = true) (hs : Nat.ble (n + nn) R.slots = true)
    (h : ∀ q : Nat, V x (eA E) (WP x E ((q, .inl (cQ, nn, .inr (.inr (.inr (.inr (fun _ => none)))))) :: ws)) (k + 1) (n + nn) pc' L (.ref q :: st)) : V x (eA E) (WP x E ws) k n pc L (.int i :: st) :=
  V_newQ C hE hi hnn ht hd hcl hov hc hs fun q => V_perm (perm_app1 _ _) (h q)
theorem V_newc (C : CX x cc own R) (hE : CE E (xs x) (xs x).heap) {ws : va_W} {Cn : String} {T : u_T} {N ci idx : Nat} {ty : Nat → FieldType} {fs : List Value} (hd : D1 cc pc (.new idx) 3 pc') (hin : ∀ w ∈ u_ws Cn T N, w ∈ lw_gd) (hty : ∀ k, k < N → parseFieldDescriptor (T k).2.2.1 = some (ty k)) (hl : Cond.classLink own idx Cn ∈ lw_gd) (hi : Cond.instantiable Cn N ∈ lw_gd) (hini : Cond.initialized Cn ∈ lw_gd) (hcl : classes[ci]? = some (Cn, T, N)) (hfs : ∀ j, j < N → defaultValue (ty j) = vp_V fs j) (hc : Nat.ble (k + 1) R.cells = true) (hs : Nat.ble (n + N) R.slots = true)
    (h : ∀ q : Nat, V x (eA E) (WP x E ((q, .inr (ci, fs)) :: ws)) (k + 1) (n + N) pc' L (.ref q :: st)) : V x (eA E) (WP x E ws) k n pc L st :=
  V_new C hE hd hin hty hl hi hini hcl hfs hc hs fun q => V_perm (perm_app1 _ _) (h q)
end NEWC
/-- cells in a row, and what the tables say of the arrays of references -/
def AO (s : State) : Prop := va_AO RX1 s ∧ va_AO RX3 s
def PO (E : En) (ws : va_W) (s : State) (H : Heap) : Prop := PW E ws s H ∧ AO s
theorem PM_O {E : En} {ws : va_W} : PM (PO E ws) := fun _ _ _ hvm h => ⟨PM_W _ _ _ hvm h.1, h.2.1.moved hvm, h.2.2.moved hvm⟩

def rnX1_init : Room := { frames := 1, cells := 0, slots := 0, locals := 20 }

theorem c_X1_init {l : Launch} {E : En} {ws : va_W} {q : Nat}  : MG l yX1_init cX1_init 1 none rnX1_init 0 0 E [.ref q] (PW E ws) (fun r (u : Unit) => r = none) (fun u => PW E ws) := by
  refine MG_ofI (by decide +kernel) rfl rfl fun x C hI hE hT => ?_
  have C : CX x cX1_init RX1 rnX1_init := C
  refine V_L (L' := [some (.ref q)]) rfl ?_
  refine V_aload_n C dX1_init_0 rfl ?_
  refine V_objInit C dX1_init_1 q100 q86 q87 rfl rfl ?_
  exact V_ret C (u := ()) dX1_init_4 hT rfl (fun _ h => h) PM_W

theorem c_X2_init {l : Launch} {E : En} {ws : va_W} {q b v : Nat}  : MG l yX2_init cX2_init 3 none rnX2_init 0 0 E [.ref q, .ref b, .ref v] (PW E ((q, .inr (2, [.null, .null, .int 0, .int 0, .int 0, .int 0, .int 0])) :: ws)) (fun r (u : Unit) => r = none) (fun u => PW E ((q, .inr (2, [.ref b, .ref v, .int 0, .int 0, .int 0, .int 0, .int 0])) :: ws)) := by
  refine MG_ofI (by decide +kernel) rfl rfl fun x C hI hE hT => ?_
  have C : CX x cX2_init RX2 rnX2_init := C
  refine V_L (L' := [some (.ref q), some (.ref b), some (.ref v)]) rfl ?_
  refine V_aload_n C dX2_init_0 rfl ?_
  refine V_objInit C dX2_init_1 q191 q86 q87 rfl rfl ?_
  refine V_aload_n C dX2_init_4 rfl ?_
  refine V_aload_n C dX2_init_5 rfl ?_
  refine V_putF C hI dX2_init_6 (wrW (k := 0) (j := 0) rfl rfl (by simp)) ft_X2 (by decide) q192 rfl rfl rfl rfl rfl ?_
  refine V_aload_n C dX2_init_9 rfl ?_
  refine V_aload_n C dX2_init_10 rfl ?_
  refine V_putF C hI dX2_init_11 (wrW (k := 0) (j := 1) rfl rfl (by simp)) ft_X2 (by decide) q193 rfl rfl rfl rfl rfl ?_
  exact V_ret C (u := ()) dX2_init_14 hT rfl (fun _ h => h) PM_W

def rnX3_init : Room := { frames := 1, cells := 1, slots := 40, locals := 20 }

theorem c_X3_init {l : Launch} {E : En} {ws : va_W} {q : Nat}  : MG l yX3_init cX3_init 1 none rnX3_init 1 40 E [.ref q] (PW E ((q, .inr (3, [.null, .int 0, .int 0])) :: ws)) (fun r (u : Nat) => r = none) (fun u => PW E ((u, arI E 40 (fun _ => 0)) :: (q, .inr (3, [.ref u, .int 0, .int 0])) :: ws)) := by
  refine MG_ofI (by decide +kernel) rfl rfl fun x C hI hE hT => ?_
  have C : CX x cX3_init RX3 rnX3_init := C
  refine V_L (L' := [some (.ref q)]) rfl ?_
  refine V_aload_n C dX3_init_0 rfl ?_
  refine V_objInit C dX3_init_1 q218 q86 q87 rfl rfl ?_
  refine V_aload_n C dX3_init_4 rfl ?_
  refine V_bipush C 40 dX3_init_5 (by decide) ?_
  refine V_newIc (nn := 40) C hE rfl rfl dX3_init_7 q128 rfl rfl (fun a => ?_)
  refine V_putF C hI dX3_init_9 (wrW (k := 1) (j := 0) rfl rfl (by simp)) ft_X3 (by decide) q219 rfl rfl rfl rfl rfl ?_
  exact V_ret C (u := a) dX3_init_12 hT rfl (fun _ h => h) PM_W

def rnX9_init : Room := { frames := 1, cells := 11, slots := 702, locals := 20 }

/-- the row of the reference as it is born -/
def s0T : Nat → Nat → Int32
  | 0 => upd (upd (fun _ => 0) 6 20) 7 1
  | i + 1 => upd (s0T i) (8 + i) 1
def s1T : Nat → Nat → Int32
  | 0 => s0T 7
  | i + 1 => upd (s1T i) (63 + i) (-1)

theorem c_X9_init {l : Launch} {E : En} {ws : va_W} {q : Nat}  : MG l yX9_init cX9_init 2 none rnX9_init 11 702 E [.ref q] (PW E ((q, .inr (9, [.null, .null, .null, .null, .int 0, .int 0, .int 0, .int 0, .int 0, .int 0, .null, .null, .int 0, .int 0, .int 0, .int 0, .null, .int 0, .int 0, .int 0, .int 0, .int 0, .null, .null, .null, .null])) :: ws)) (fun r (u : Nat → Nat) => r = none) (fun u => PW E ([(u 10, arI E 40 (fun _ => 0)), (u 9, arI E 160 (fun _ => 0)), (u 8, arI E 4 (fun _ => 0)), (u 7, arI E 4 (fun _ => 0)), (u 6, arI E 120 (fun _ => 0)), (u 5, arI E 2 (fun _ => 0)), (u 4, arI E 146 (fun _ => 0)), (u 3, arI E 7 (fun _ => 0)), (u 2, arI E 73 (fun _ => 0)), (u 1, arI E 73 (fun _ => 0)), (u 0, arI E 73 (s1T 10)), (q, .inr (9, [.ref (u 0), .ref (u 1), .ref (u 2), .ref (u 3), .int 0, .int 0, .int 0, .int 0, .int (-1), .int 0, .ref (u 4), .ref (u 5), .int 0, .int 0, .int 0, .int 0, .ref (u 6), .int 0, .int 0, .int 0, .int 0, .int 0, .ref (u 7), .ref (u 8), .ref (u 9), .ref (u 10)]))] ++ ws)) := by
  refine MG_ofI (by decide +kernel) rfl rfl fun x C hI hE hT => ?_
  have C : CX x cX9_init RX9 rnX9_init := C
  refine V_L (L' := [some (.ref q), none]) rfl ?_
  refine V_aload_n C dX9_init_0 rfl ?_
  refine V_objInit C dX9_init_1 q906 q86 q87 rfl rfl ?_
  refine V_aload_n C dX9_init_4 rfl ?_
  refine V_bipush C 73 dX9_init_5 (by decide) ?_
  refine V_newIc (nn := 73) C hE rfl rfl dX9_init_7 q128 rfl rfl (fun a0 => ?_)
  refine V_putF C hI dX9_init_9 (wrW (k := 1) (j := 0) rfl rfl (by simp)) ft_X9 (by decide) q907 rfl rfl rfl rfl rfl ?_
  refine V_aload_n C dX9_init_12 rfl ?_
  refine V_bipush C 73 dX9_init_13 (by decide) ?_
  refine V_newIc (nn := 73) C hE rfl rfl dX9_init_15 q128 rfl rfl (fun a1 => ?_)
  refine V_putF C hI dX9_init_17 (wrW (k := 2) (j := 1) rfl rfl (by simp)) ft_X9 (by decide) q908 rfl rfl rfl rfl rfl ?_
  refine V_aload_n C dX9_init_20 rfl ?_
  refine V_bipush C 73 dX9_init_21 (by decide) ?_
  refine V_newIc (nn := 73) C hE rfl rfl dX9_init_23 q128 rfl rfl (fun a2 => ?_)
  refine V_putF C hI dX9_init_25 (wrW (k := 3) (j := 2) rfl rfl (by simp)) ft_X9 (by decide) q909 rfl rfl rfl rfl rfl ?_
  refine V_aload_n C dX9_init_28 rfl ?_
  refine V_bipush C 7 dX9_init_29 (by decide) ?_
  refine V_newIc (nn := 7) C hE rfl rfl dX9_init_31 q128 rfl rfl (fun a3 => ?_)
  refine V_putF C hI dX9_init_33 (wrW (k := 4) (j := 3) rfl rfl (by simp)) ft_X9 (by decide) q910 rfl rfl rfl rfl rfl ?_
  refine V_aload_n C dX9_init_36 rfl ?_
  refine V_iconst C (-1) dX9_init_37 (by decide) ?_
  refine V_put C dX9_init_38 (wrW (k := 4) (j := 8) rfl rfl (by simp)) ft_X9 (by decide) q915 rfl rfl rfl rfl ?_
  refine V_aload_n C dX9_init_41 rfl ?_
  refine V_sipush C 146 dX9_init_42 (by decide) ?_
  refine V_newIc (nn := 146) C hE rfl rfl dX9_init_45 q128 rfl rfl (fun a4 => ?_)
  refine V_putF C hI dX9_init_47 (wrW (k := 5) (j := 10) rfl rfl (by simp)) ft_X9 (by decide) q917 rfl rfl rfl rfl rfl ?_
  refine V_aload_n C dX9_init_50 rfl ?_
  refine V_iconst C 2 dX9_init_51 (by decide) ?_
  refine V_newIc (nn := 2) C hE rfl rfl dX9_init_52 q128 rfl rfl (fun a5 => ?_)
  refine V_putF C hI dX9_init_54 (wrW (k := 6) (j := 11) rfl rfl (by simp)) ft_X9 (by decide) q918 rfl rfl rfl rfl rfl ?_
  refine V_aload_n C dX9_init_57 rfl ?_
  refine V_bipush C 120 dX9_init_58 (by decide) ?_
  refine V_newIc (nn := 120) C hE rfl rfl dX9_init_60 q128 rfl rfl (fun a6 => ?_)
  refine V_putF C hI dX9_init_62 (wrW (k := 7) (j := 16) rfl rfl (by simp)) ft_X9 (by decide) q923 rfl rfl rfl rfl rfl ?_
  refine V_aload_n C dX9_init_65 rfl ?_
  refine V_iconst C 4 dX9_init_66 (by decide) ?_
  refine V_newIc (nn := 4) C hE rfl rfl dX9_init_67 q128 rfl rfl (fun a7 => ?_)
  refine V_putF C hI dX9_init_69 (wrW (k := 8) (j := 22) rfl rfl (by simp)) ft_X9 (by decide) q929 rfl rfl rfl rfl rfl ?_
  refine V_aload_n C dX9_init_72 rfl ?_
  refine V_iconst C 4 dX9_init_73 (by decide) ?_
  refine V_newIc (nn := 4) C hE rfl rfl dX9_init_74 q128 rfl rfl (fun a8 => ?_)
  refine V_putF C hI dX9_init_76 (wrW (k := 9) (j := 23) rfl rfl (by simp)) ft_X9 (by decide) q930 rfl rfl rfl rfl rfl ?_
  refine V_aload_n C dX9_init_79 rfl ?_
  refine V_sipush C 160 dX9_init_80 (by decide) ?_
  refine V_newIc (nn := 160) C hE rfl rfl dX9_init_83 q128 rfl rfl (fun a9 => ?_)
  refine V_putF C hI dX9_init_85 (wrW (k := 10) (j := 24) rfl rfl (by simp)) ft_X9 (by decide) q931 rfl rfl rfl rfl rfl ?_
  refine V_aload_n C dX9_init_88 rfl ?_
  refine V_bipush C 40 dX9_init_89 (by decide) ?_
  refine V_newIc (nn := 40) C hE rfl rfl dX9_init_91 q128 rfl rfl (fun a10 => ?_)
  refine V_putF C hI dX9_init_93 (wrW (k := 11) (j := 25) rfl rfl (by simp)) ft_X9 (by decide) q932 rfl rfl rfl rfl rfl ?_
  refine V_aload_n C dX9_init_96 rfl ?_
  refine V_get C dX9_init_97 (rdW (k := 11) (j := 0) rfl rfl rfl) in_X9 (by decide) q907 rfl ?_
  refine V_bipush C 6 dX9_init_100 (by decide) ?_
  refine V_bipush C 20 dX9_init_102 (by decide) ?_
  refine V_iast C 6 rfl rfl rfl dX9_init_104 (wrAW (k0 := 10) rfl) ?_
  refine V_aload_n C dX9_init_105 rfl ?_
  refine V_get C dX9_init_106 (rdW (k := 11) (j := 0) rfl rfl rfl) in_X9 (by decide) q907 rfl ?_
  refine V_bipush C 7 dX9_init_109 (by decide) ?_
  refine V_iconst C 1 dX9_init_111 (by decide) ?_
  refine V_iast C 7 rfl rfl rfl dX9_init_112 (wrAW (k0 := 10) rfl) ?_
  refine V_iconst C 0 dX9_init_113 (by decide) ?_
  refine V_istore_n C dX9_init_114 rfl ?_
  have lp2 : ∀ (d i : Nat), i + d = 10 → V x (eA E) (WP x E ([(a10, arI E 40 (fun _ => 0)), (a9, arI E 160 (fun _ => 0)), (a8, arI E 4 (fun _ => 0)), (a7, arI E 4 (fun _ => 0)), (a6, arI E 120 (fun _ => 0)), (a5, arI E 2 (fun _ => 0)), (a4, arI E 146 (fun _ => 0)), (a3, arI E 7 (fun _ => 0)), (a2, arI E 73 (fun _ => 0)), (a1, arI E 73 (fun _ => 0)), (a0, arI E 73 (s1T i)), (q, .inr (9, [.ref a0, .ref a1, .ref a2, .ref a3, .int 0, .int 0, .int 0, .int 0, .int (-1), .int 0, .ref a4, .ref a5, .int 0, .int 0, .int 0, .int 0, .ref a6, .int 0, .int 0, .int 0, .int 0, .int 0, .ref a7, .ref a8, .ref a9, .ref a10]))] ++ ws)) 11 702 139 [some (.ref q), some (.int (nI i))] [] := by
    intro d
    induction d with
    | zero =>
      intro i hi
      have hN : i = 10 := by omega
      subst hN
      refine V_iload_n C dX9_init_139 rfl ?_
      refine V_bipush C 10 dX9_init_140 (by decide) ?_
      refine V_icmp_ge C dX9_init_142 (fun _ => ?_) (fun c => absurd (nI_le (a := 10) (b := 10) (by omega) (by omega)) c)
      exact V_ret C (u := (fun i => match i with | 0 => a0 | 1 => a1 | 2 => a2 | 3 => a3 | 4 => a4 | 5 => a5 | 6 => a6 | 7 => a7 | 8 => a8 | 9 => a9 | _ => a10)) dX9_init_161 hT rfl (fun _ h => h) PM_W
    | succ d ih =>
      intro i hi
      refine V_iload_n C dX9_init_139 rfl ?_
      refine V_bipush C 10 dX9_init_140 (by decide) ?_
      refine V_icmp_ge C dX9_init_142 (fun c => absurd c (nI_ge (a := i) (b := 10) (by omega) (by omega))) (fun _ => ?_)
      refine V_aload_n C dX9_init_145 rfl ?_
      refine V_get C dX9_init_146 (rdW (k := 11) (j := 0) rfl rfl rfl) in_X9 (by decide) q907 rfl ?_
      refine V_bipush C 63 dX9_init_149 (by decide) ?_
      refine V_iload_n C dX9_init_151 rfl ?_
      refine V_iadd C dX9_init_152 ?_
      refine V_iconst C (-1) dX9_init_153 (by decide) ?_
      refine V_iastN C (63 + i) (nI_add 63 i) (by omega) (by omega) dX9_init_154 (wrAW (k0 := 10) rfl) ?_
      refine V_iinc C 1 dX9_init_155 rfl (by decide) rfl ?_
      refine V_goto C dX9_init_158 ?_
      exact V_to (fun _ h => h) (by simp [← nI_1] <;> rfl) rfl (ih (i + 1) (by omega))
  have lp1 : ∀ (d i : Nat), i + d = 7 → V x (eA E) (WP x E ([(a10, arI E 40 (fun _ => 0)), (a9, arI E 160 (fun _ => 0)), (a8, arI E 4 (fun _ => 0)), (a7, arI E 4 (fun _ => 0)), (a6, arI E 120 (fun _ => 0)), (a5, arI E 2 (fun _ => 0)), (a4, arI E 146 (fun _ => 0)), (a3, arI E 7 (fun _ => 0)), (a2, arI E 73 (fun _ => 0)), (a1, arI E 73 (fun _ => 0)), (a0, arI E 73 (s0T i)), (q, .inr (9, [.ref a0, .ref a1, .ref a2, .ref a3, .int 0, .int 0, .int 0, .int 0, .int (-1), .int 0, .ref a4, .ref a5, .int 0, .int 0, .int 0, .int 0, .ref a6, .int 0, .int 0, .int 0, .int 0, .int 0, .ref a7, .ref a8, .ref a9, .ref a10]))] ++ ws)) 11 702 115 [some (.ref q), some (.int (nI i))] [] := by
    intro d
    induction d with
    | zero =>
      intro i hi
      have hN : i = 7 := by omega
      subst hN
      refine V_iload_n C dX9_init_115 rfl ?_
      refine V_bipush C 7 dX9_init_116 (by decide) ?_
      refine V_icmp_ge C dX9_init_118 (fun _ => ?_) (fun c => absurd (nI_le (a := 7) (b := 7) (by omega) (by omega)) c)
      refine V_iconst C 0 dX9_init_137 (by decide) ?_
      refine V_istore_n C dX9_init_138 rfl ?_
      exact lp2 10 0 (by omega)
    | succ d ih =>
      intro i hi
      refine V_iload_n C dX9_init_115 rfl ?_
      refine V_bipush C 7 dX9_init_116 (by decide) ?_
      refine V_icmp_ge C dX9_init_118 (fun c => absurd c (nI_ge (a := i) (b := 7) (by omega) (by omega))) (fun _ => ?_)
      refine V_aload_n C dX9_init_121 rfl ?_
      refine V_get C dX9_init_122 (rdW (k := 11) (j := 0) rfl rfl rfl) in_X9 (by decide) q907 rfl ?_
      refine V_bipush C 8 dX9_init_125 (by decide) ?_
      refine V_iload_n C dX9_init_127 rfl ?_
      refine V_iadd C dX9_init_128 ?_
      refine V_iconst C 1 dX9_init_129 (by decide) ?_
      refine V_iastN C (8 + i) (nI_add 8 i) (by omega) (by omega) dX9_init_130 (wrAW (k0 := 10) rfl) ?_
      refine V_iinc C 1 dX9_init_131 rfl (by decide) rfl ?_
      refine V_goto C dX9_init_134 ?_
      exact V_to (fun _ h => h) (by simp [← nI_1] <;> rfl) rfl (ih (i + 1) (by omega))
  exact lp1 7 0 (by omega)

