theorem q94 : Cond.classLink RX5 9 RX1 ∈ lw_gd := gd 94 (by decide +kernel) rfl
theorem q96 : Cond.instantiable RX1 6 ∈ lw_gd := gd 96 (by decide +kernel) rfl
theorem q97 : Cond.methodLinkNest RX5 34 yX1_init RX8 ∈ lw_nw := gdn 97 (by decide +kernel) rfl
theorem q98 : Cond.instanceMethod yX1_init ∈ lw_gd := gd 98 (by decide +kernel) rfl
theorem q99 : Cond.code yX1_init cX1_init 1 none ∈ lw_gd := gd 99 (by decide +kernel) rfl
theorem kNyX1_init : KN yX1_init cX1_init 1 none 0 := ⟨q65, q99, by decide +kernel⟩
def rnX5_init : Room := { frames := 2, cells := 11, slots := 73, locals := 40 }

/-- houses as they are born -/
def HLs (hs : Nat → Nat) : Nat → va_W
  | 0 => []
  | i + 1 => (hs i, .inr (1, [.int 0, .int 0, .int 0, .int 0, .int 0, .int 0])) :: HLs hs i
theorem HLs_ext {hs hs' : Nat → Nat} : ∀ i, (∀ j, j < i → hs j = hs' j) → HLs hs i = HLs hs' i := by
  intro i
  induction i with
  | zero => intro _; rfl
  | succ i ih => intro h; show (hs i, _) :: HLs hs i = (hs' i, _) :: HLs hs' i; rw [ih (fun j hj => h j (by omega)), h i (by omega)]
def laT (hs : Nat → Nat) (i : Nat) : Nat → Option Nat := fun j => if j < i then some (hs j) else none
def hsU (hs : Nat → Nat) (i h : Nat) : Nat → Nat := fun j => if j = i then h else hs j
theorem laT_s {hs : Nat → Nat} {i h : Nat} : va_up (laT hs i) i (some h) = laT (hsU hs i h) (i + 1) := by
  funext j
  unfold va_up laT hsU
  by_cases e : j = i
  · subst e; simp
  · by_cases c : j < i
    · simp [e, c, show j < i + 1 by omega]
    · simp [e, c, show ¬ j < i + 1 by omega]
theorem HLs_s {hs : Nat → Nat} {i h : Nat} : HLs (hsU hs i h) (i + 1) = (h, .inr (1, [.int 0, .int 0, .int 0, .int 0, .int 0, .int 0])) :: HLs hs i := by
  show (hsU hs i h i, _) :: HLs (hsU hs i h) i = _
  rw [show hsU hs i h i = h from if_pos rfl, HLs_ext (hs := hsU hs i h) (hs' := hs) i (fun j hj => if_neg (by omega))]
def stT : Nat → Nat → Int32
  | 0 => fun _ => 0
  | i + 1 => upd (stT i) i 1
def spotT : Nat → Nat → Int32
  | 0 => fun _ => 0
  | i + 1 => upd (spotT i) i (-1)

theorem c_X5_init {l : Launch} {E : En} {ws : va_W} {q : Nat}  : MG l yX5_init cX5_init 2 none rnX5_init 11 73 E [.ref q] (PO E ((q, .inr (5, [.null, .null, .null, .int 0, .int 0, .int 0, .int 0, .int 0, .int 0, .int 0, .int 0, .int 0, .int 0])) :: ws)) (fun r (u : Nat → Nat) => r = none) (fun u => PO E ([((u 2), arI E 10 (spotT 10)), ((u 1), arI E 7 (stT 7)), ((u 0), .inl (eH E, 8, .inr (.inr (.inr (.inr (laT (fun j => u (j + 3)) 8)))))), (q, .inr (5, [.ref (u 0), .ref (u 1), .ref (u 2), .int 0, .int 0, .int 20, .int 0, .int 0, .int 0, .int 0, .int 1, .int 400, .int 0]))] ++ (HLs (fun j => u (j + 3)) 8 ++ ws))) := by
  refine MG_ofI (by decide +kernel) rfl rfl fun x C hI hE hT => ?_
  have C : CX x cX5_init RX5 rnX5_init := C
  refine V_L (L' := [some (.ref q), none]) rfl ?_
  refine V_use fun _ hP0 => ?_
  have hao : AO (xs x) := hP0.2
  refine V_to (P' := WP x E _) (fun _ h => h.1) rfl rfl ?_
  refine V_aload_n C dX5_init_0 rfl ?_
  refine V_objInit C dX5_init_1 q93 q86 q87 rfl rfl ?_
  refine V_aload_n C dX5_init_4 rfl ?_
  refine V_bipush C 8 dX5_init_5 (by decide) ?_
  refine V_newQc (nn := 8) (t0 := 1) (cQ := eH E) (Cn := RX1) C hE rfl rfl rfl dX5_init_7 q94 hao.1 rfl rfl (fun a1 => ?_)
  refine V_putF C hI dX5_init_10 (wrW (k := 1) (j := 0) rfl rfl (by simp)) ft_X5 (by decide) q129 rfl rfl rfl rfl rfl ?_
  refine V_aload_n C dX5_init_13 rfl ?_
  refine V_bipush C 7 dX5_init_14 (by decide) ?_
  refine V_newIc (nn := 7) C hE rfl rfl dX5_init_16 q128 rfl rfl (fun a2 => ?_)
  refine V_putF C hI dX5_init_18 (wrW (k := 2) (j := 1) rfl rfl (by simp)) ft_X5 (by decide) q130 rfl rfl rfl rfl rfl ?_
  refine V_aload_n C dX5_init_21 rfl ?_
  refine V_bipush C 10 dX5_init_22 (by decide) ?_
  refine V_newIc (nn := 10) C hE rfl rfl dX5_init_24 q128 rfl rfl (fun a3 => ?_)
  refine V_putF C hI dX5_init_26 (wrW (k := 3) (j := 2) rfl rfl (by simp)) ft_X5 (by decide) q131 rfl rfl rfl rfl rfl ?_
  refine V_aload_n C dX5_init_29 rfl ?_
  refine V_bipush C 20 dX5_init_30 (by decide) ?_
  refine V_put C dX5_init_32 (wrW (k := 3) (j := 5) rfl rfl (by simp)) ft_X5 (by decide) q138 rfl rfl rfl rfl ?_
  refine V_aload_n C dX5_init_35 rfl ?_
  refine V_iconst C 1 dX5_init_36 (by decide) ?_
  refine V_put C dX5_init_37 (wrW (k := 3) (j := 10) rfl rfl (by simp)) ft_X5 (by decide) q150 rfl rfl rfl rfl ?_
  refine V_aload_n C dX5_init_40 rfl ?_
  refine V_sipush C 400 dX5_init_41 (by decide) ?_
  refine V_put C dX5_init_44 (wrW (k := 3) (j := 11) rfl rfl (by simp)) ft_X5 (by decide) q152 rfl rfl rfl rfl ?_
  refine V_iconst C 0 dX5_init_47 (by decide) ?_
  refine V_istore_n C dX5_init_48 rfl ?_
  have lp3 : ∀ (hs : Nat → Nat) (d i : Nat), i + d = 10 → V x (eA E) (WP x E ([(a3, arI E 10 (spotT i)), (a2, arI E 7 (stT 7)), (a1, .inl (eH E, 8, .inr (.inr (.inr (.inr (laT hs 8)))))), (q, .inr (5, [.ref a1, .ref a2, .ref a3, .int 0, .int 0, .int 20, .int 0, .int 0, .int 0, .int 0, .int 1, .int 400, .int 0]))] ++ (HLs hs 8 ++ ws))) 11 73 103 [some (.ref q), some (.int (nI i))] [] := by
    intro hs d
    induction d with
    | zero =>
      intro i hi
      have hN : i = 10 := by omega
      subst hN
      refine V_iload_n C dX5_init_103 rfl ?_
      refine V_aload_n C dX5_init_104 rfl ?_
      refine V_get C dX5_init_105 (rdW (k := 3) (j := 2) rfl rfl rfl) in_X5 (by decide) q131 rfl ?_
      refine V_alen C dX5_init_108 (rdLW (k0 := 0) rfl) rfl ?_
      refine V_icmp_ge C dX5_init_109 (fun _ => ?_) (fun c => absurd (nI_le (a := 10) (b := 10) (by omega) (by omega)) c)
      exact V_ret C (u := (fun i => match i with | 0 => a1 | 1 => a2 | 2 => a3 | j + 3 => hs j)) dX5_init_125 hT rfl (fun _ h => ⟨h, hao⟩) PM_O
    | succ d ih =>
      intro i hi
      refine V_iload_n C dX5_init_103 rfl ?_
      refine V_aload_n C dX5_init_104 rfl ?_
      refine V_get C dX5_init_105 (rdW (k := 3) (j := 2) rfl rfl rfl) in_X5 (by decide) q131 rfl ?_
      refine V_alen C dX5_init_108 (rdLW (k0 := 0) rfl) rfl ?_
      refine V_icmp_ge C dX5_init_109 (fun c => absurd c (nI_ge (a := i) (b := 10) (by omega) (by omega))) (fun _ => ?_)
      refine V_aload_n C dX5_init_112 rfl ?_
      refine V_get C dX5_init_113 (rdW (k := 3) (j := 2) rfl rfl rfl) in_X5 (by decide) q131 rfl ?_
      refine V_iload_n C dX5_init_116 rfl ?_
      refine V_iconst C (-1) dX5_init_117 (by decide) ?_
      refine V_iastN C i rfl (by omega) (by omega) dX5_init_118 (wrAW (k0 := 0) rfl) ?_
      refine V_iinc C 1 dX5_init_119 rfl (by decide) rfl ?_
      refine V_goto C dX5_init_122 ?_
      exact V_to (fun _ h => h) (by simp [← nI_1] <;> rfl) rfl (ih (i + 1) (by omega))
  have lp2 : ∀ (hs : Nat → Nat) (d i : Nat), i + d = 7 → V x (eA E) (WP x E ([(a3, arI E 10 (fun _ => 0)), (a2, arI E 7 (stT i)), (a1, .inl (eH E, 8, .inr (.inr (.inr (.inr (laT hs 8)))))), (q, .inr (5, [.ref a1, .ref a2, .ref a3, .int 0, .int 0, .int 20, .int 0, .int 0, .int 0, .int 0, .int 1, .int 400, .int 0]))] ++ (HLs hs 8 ++ ws))) 11 73 79 [some (.ref q), some (.int (nI i))] [] := by
    intro hs d
    induction d with
    | zero =>
      intro i hi
      have hN : i = 7 := by omega
      subst hN
      refine V_iload_n C dX5_init_79 rfl ?_
      refine V_aload_n C dX5_init_80 rfl ?_
      refine V_get C dX5_init_81 (rdW (k := 3) (j := 1) rfl rfl rfl) in_X5 (by decide) q130 rfl ?_
      refine V_alen C dX5_init_84 (rdLW (k0 := 1) rfl) rfl ?_
      refine V_icmp_ge C dX5_init_85 (fun _ => ?_) (fun c => absurd (nI_le (a := 7) (b := 7) (by omega) (by omega)) c)
      refine V_iconst C 0 dX5_init_101 (by decide) ?_
      refine V_istore_n C dX5_init_102 rfl ?_
      exact lp3 hs 10 0 (by omega)
    | succ d ih =>
      intro i hi
      refine V_iload_n C dX5_init_79 rfl ?_
      refine V_aload_n C dX5_init_80 rfl ?_
      refine V_get C dX5_init_81 (rdW (k := 3) (j := 1) rfl rfl rfl) in_X5 (by decide) q130 rfl ?_
      refine V_alen C dX5_init_84 (rdLW (k0 := 1) rfl) rfl ?_
      refine V_icmp_ge C dX5_init_85 (fun c => absurd c (nI_ge (a := i) (b := 7) (by omega) (by omega))) (fun _ => ?_)
      refine V_aload_n C dX5_init_88 rfl ?_
      refine V_get C dX5_init_89 (rdW (k := 3) (j := 1) rfl rfl rfl) in_X5 (by decide) q130 rfl ?_
      refine V_iload_n C dX5_init_92 rfl ?_
      refine V_iconst C 1 dX5_init_93 (by decide) ?_
      refine V_iastN C i rfl (by omega) (by omega) dX5_init_94 (wrAW (k0 := 1) rfl) ?_
      refine V_iinc C 1 dX5_init_95 rfl (by decide) rfl ?_
      refine V_goto C dX5_init_98 ?_
      exact V_to (fun _ h => h) (by simp [← nI_1] <;> rfl) rfl (ih (i + 1) (by omega))
  have lp1 : ∀ (d i : Nat) (hs : Nat → Nat), i + d = 8 → V x (eA E) (WP x E ([(a3, arI E 10 (fun _ => 0)), (a2, arI E 7 (fun _ => 0)), (a1, .inl (eH E, 8, .inr (.inr (.inr (.inr (laT hs i)))))), (q, .inr (5, [.ref a1, .ref a2, .ref a3, .int 0, .int 0, .int 20, .int 0, .int 0, .int 0, .int 0, .int 1, .int 400, .int 0]))] ++ (HLs hs i ++ ws))) (3 + i) (25 + 6 * i) 49 [some (.ref q), some (.int (nI i))] [] := by
    intro d
    induction d with
    | zero =>
      intro i hs hi
      have hN : i = 8 := by omega
      subst hN
      refine V_iload_n C dX5_init_49 rfl ?_
      refine V_aload_n C dX5_init_50 rfl ?_
      refine V_get C dX5_init_51 (rdW (k := 3) (j := 0) rfl rfl rfl) in_X5 (by decide) q129 rfl ?_
      refine V_alenQ C dX5_init_54 (rdQW (k0 := 2) (t0 := 1) (cQ := eH E) (Cn := RX1) rfl rfl) rfl ?_
      refine V_icmp_ge C dX5_init_55 (fun _ => ?_) (fun c => absurd (nI_le (a := 8) (b := 8) (by omega) (by omega)) c)
      refine V_iconst C 0 dX5_init_77 (by decide) ?_
      refine V_istore_n C dX5_init_78 rfl ?_
      exact lp2 hs 7 0 (by omega)
    | succ d ih =>
      intro i hs hi
      refine V_iload_n C dX5_init_49 rfl ?_
      refine V_aload_n C dX5_init_50 rfl ?_
      refine V_get C dX5_init_51 (rdW (k := 3) (j := 0) rfl rfl rfl) in_X5 (by decide) q129 rfl ?_
      refine V_alenQ C dX5_init_54 (rdQW (k0 := 2) (t0 := 1) (cQ := eH E) (Cn := RX1) rfl rfl) rfl ?_
      refine V_icmp_ge C dX5_init_55 (fun c => absurd c (nI_ge (a := i) (b := 8) (by omega) (by omega))) (fun _ => ?_)
      refine V_aload_n C dX5_init_58 rfl ?_
      refine V_get C dX5_init_59 (rdW (k := 3) (j := 0) rfl rfl rfl) in_X5 (by decide) q129 rfl ?_
      refine V_iload_n C dX5_init_62 rfl ?_
      refine V_newc (ci := 1) (fs := [.int 0, .int 0, .int 0, .int 0, .int 0, .int 0]) C hE dX5_init_63 in_X1 tyX1_ok q94 q96 q65 rfl (fun j hj => by rcases (show j = 0 ∨ j = 1 ∨ j = 2 ∨ j = 3 ∨ j = 4 ∨ j = 5 by omega) with rfl | rfl | rfl | rfl | rfl | rfl <;> rfl) (Nat.ble_eq_true_of_le (show 3 + i + 1 ≤ 11 by omega)) (Nat.ble_eq_true_of_le (show 25 + 6 * i + 6 ≤ 73 by omega)) (fun h => ?_)
      refine V_dup C dX5_init_66 rfl ?_
      refine V_callIN C hE dX5_init_67 (c_X1_init (q := h)) kNyX1_init q97 ⟨rfl, q98⟩ ⟨Nat.le_of_ble_eq_true rfl, Nat.le_of_ble_eq_true rfl⟩ ⟨rfl, rfl⟩ rfl ⟨show 3 + i + 1 ≤ 11 by omega, show 25 + 6 * i + 6 ≤ 73 by omega⟩ rfl (Nat.le_of_ble_eq_true rfl) PM_W (fun _ => PM_W) ?_
      rintro r u rfl
      refine V_aastW (k0 := 3) (k1 := 0) (t0 := 1) (ci := 1) (r := (RX1, TX1, 6)) (cQ := eH E) (nn := 8) (j := i) (f := laT hs i) C rfl (by omega) (by omega) rfl rfl rfl rfl dX5_init_70 ?_
      refine V_iinc C 1 dX5_init_71 rfl (by decide) rfl ?_
      refine V_goto C dX5_init_74 ?_
      have hI := ih (i + 1) (hsU hs i h) (by omega)
      rw [HLs_s, ← laT_s] at hI
      refine V_perm (List.perm_middle (a := (h, Sum.inr (1, [Value.int 0, Value.int 0, Value.int 0, Value.int 0, Value.int 0, Value.int 0]))) (l₁ := [(a3, arI E 10 (fun _ => 0)), (a2, arI E 7 (fun _ => 0)), (a1, Sum.inl (eH E, 8, Sum.inr (Sum.inr (Sum.inr (Sum.inr (va_up (laT hs i) i (some h))))))), (q, Sum.inr (5, [.ref a1, .ref a2, .ref a3, .int 0, .int 0, .int 20, .int 0, .int 0, .int 0, .int 0, .int 1, .int 400, .int 0]))]) (l₂ := HLs hs i ++ ws)).symm ?_
      exact V_to (fun _ h => h) (by simp [← nI_1] <;> rfl) rfl hI
  exact lp1 8 0 (fun _ => 0) (by omega)

