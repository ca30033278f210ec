theorem q88 : Cond.classLink RX8 7 RX5 ∈ lw_gd := gd 88 (by decide +kernel) rfl
theorem q89 : Cond.instantiable RX5 13 ∈ lw_gd := gd 89 (by decide +kernel) rfl
theorem q91 : Cond.instanceMethod yX5_init ∈ lw_gd := gd 91 (by decide +kernel) rfl
theorem q92 : Cond.code yX5_init cX5_init 2 none ∈ lw_gd := gd 92 (by decide +kernel) rfl
theorem q184 : Cond.classLink RX8 28 RX3 ∈ lw_gd := gd 184 (by decide +kernel) rfl
theorem q186 : Cond.classLink RX8 41 RX2 ∈ lw_gd := gd 186 (by decide +kernel) rfl
theorem q187 : Cond.instantiable RX2 7 ∈ lw_gd := gd 187 (by decide +kernel) rfl
theorem q189 : Cond.instanceMethod yX2_init ∈ lw_gd := gd 189 (by decide +kernel) rfl
theorem q190 : Cond.code yX2_init cX2_init 3 none ∈ lw_gd := gd 190 (by decide +kernel) rfl
theorem q214 : Cond.instantiable RX3 3 ∈ lw_gd := gd 214 (by decide +kernel) rfl
theorem q215 : Cond.methodLinkNest RX8 50 yX3_init RX8 ∈ lw_nw := gdn 215 (by decide +kernel) rfl
theorem q216 : Cond.instanceMethod yX3_init ∈ lw_gd := gd 216 (by decide +kernel) rfl
theorem q217 : Cond.code yX3_init cX3_init 1 none ∈ lw_gd := gd 217 (by decide +kernel) rfl
theorem kNyX5_init : KN yX5_init cX5_init 2 none 0 := ⟨q64, q92, by decide +kernel⟩
theorem kNyX2_init : KN yX2_init cX2_init 3 none 2 := ⟨q66, q190, by decide +kernel⟩
theorem kNyX3_init : KN yX3_init cX3_init 1 none 0 := ⟨q67, q217, by decide +kernel⟩
def rnX8_init : Room := { frames := 3, cells := 72, slots := 740, locals := 61 }

/-- a village's cells as they are born -/
def vcl (E : En) (v : Nat) (u : Nat → Nat) : va_W := [(u 2, arI E 10 (spotT 10)), (u 1, arI E 7 (stT 7)), (u 0, .inl (eH E, 8, .inr (.inr (.inr (.inr (laT (fun j => u (j + 3)) 8)))))), (v, .inr (5, [.ref (u 0), .ref (u 1), .ref (u 2), .int 0, .int 0, .int 20, .int 0, .int 0, .int 0, .int 0, .int 1, .int 400, .int 0]))] ++ HLs (fun j => u (j + 3)) 8

theorem c_X8_init {l : Launch} {E : En} {ws : va_W} {q : Nat}  : MG l yX8_init cX8_init 2 none rnX8_init 72 740 E [.ref q] (PO E ((q, .inr (8, [.null, .null, .null, .null, .null, .null, .null, .null, .null, .int 0, .int 0])) :: ws)) (fun r (u : (Nat → Nat) × (Nat → Nat → Nat) × (Nat → Nat)) => r = none) (fun u => PO E ([((u.2.2 11), arI E 40 (fun _ => 0)), ((u.2.2 10), .inr (3, [.ref (u.2.2 11), .int 0, .int 0])), ((u.2.2 9), arI E 40 (fun _ => 0)), ((u.2.2 8), .inr (3, [.ref (u.2.2 9), .int 0, .int 0])), ((u.2.2 7), arI E 40 (fun _ => 0)), ((u.2.2 6), .inr (3, [.ref (u.2.2 7), .int 0, .int 0])), ((u.2.2 5), arI E 40 (fun _ => 0)), ((u.2.2 4), .inr (3, [.ref (u.2.2 5), .int 0, .int 0])), ((u.2.2 3), .inr (2, [.ref (u.2.2 2), .ref (u.1 2), .int 0, .int 0, .int 0, .int 0, .int 0])), ((u.2.2 2), arI E 120 (fun _ => 0)), ((u.2.2 1), arI E 7 (fun _ => 0)), ((u.2.2 0), .inl (eS E, 4, .inr (.inr (.inr (.inr (va_up (va_up (va_up (va_up (fun _ => none) 0 (some (u.2.2 4))) 1 (some (u.2.2 6))) 2 (some (u.2.2 8))) 3 (some (u.2.2 10)))))))), (q, .inr (8, [.ref (u.1 0), .ref (u.1 1), .ref (u.1 2), .ref (u.1 3), .ref (u.1 4), .ref (u.2.2 0), .ref (u.2.2 1), .ref (u.2.2 2), .ref (u.2.2 3), .int 0, .int 0]))] ++ (vcl E (u.1 4) (u.2.1 4) ++ (vcl E (u.1 3) (u.2.1 3) ++ (vcl E (u.1 2) (u.2.1 2) ++ (vcl E (u.1 1) (u.2.1 1) ++ (vcl E (u.1 0) (u.2.1 0) ++ ws))))))) := by
  refine MG_ofI (by decide +kernel) rfl rfl fun x C hI hE hT => ?_
  have C : CX x cX8_init RX8 rnX8_init := C
  refine V_L (L' := [some (.ref q), none]) rfl ?_
  refine V_use fun _ hP0 => ?_
  have hao : AO (xs x) := hP0.2
  refine V_to (P' := WP x E _) (fun _ h => h.1) rfl rfl ?_
  refine V_aload_n C dX8_init_0 rfl ?_
  refine V_objInit C dX8_init_1 q85 q86 q87 rfl rfl ?_
  refine V_aload_n C dX8_init_4 rfl ?_
  refine V_newc (ci := 5) (fs := [.null, .null, .null, .int 0, .int 0, .int 0, .int 0, .int 0, .int 0, .int 0, .int 0, .int 0, .int 0]) C hE dX8_init_5 in_X5 tyX5_ok q88 q89 q64 rfl (fun j hj => by rcases (show j = 0 ∨ j = 1 ∨ j = 2 ∨ j = 3 ∨ j = 4 ∨ j = 5 ∨ j = 6 ∨ j = 7 ∨ j = 8 ∨ j = 9 ∨ j = 10 ∨ j = 11 ∨ j = 12 by omega) with rfl | rfl | rfl | rfl | rfl | rfl | rfl | rfl | rfl | rfl | rfl | rfl | rfl <;> rfl) rfl rfl (fun v0 => ?_)
  refine V_dup C dX8_init_8 rfl ?_
  refine V_to (P' := fun H => PO E _ (xs x) H) (fun _ h => ⟨h, hao⟩) rfl rfl ?_
  refine V_callI C hE dX8_init_9 (c_X5_init (q := v0)) kNyX5_init q90 ⟨rfl, q91⟩ ⟨Nat.le_of_ble_eq_true rfl, Nat.le_of_ble_eq_true rfl⟩ ⟨rfl, rfl⟩ rfl ⟨Nat.le_of_ble_eq_true rfl, Nat.le_of_ble_eq_true rfl⟩ rfl (Nat.le_of_ble_eq_true rfl) PM_O (fun _ => PM_O) ?_
  rintro r u0 rfl
  refine V_to (P' := WP x E (vcl E v0 u0 ++ ((q, .inr (8, [.null, .null, .null, .null, .null, .null, .null, .null, .null, .int 0, .int 0])) :: ws))) (fun _ h => by have := h.1; rw [← List.append_assoc] at this; exact this) rfl rfl ?_
  refine V_perm List.perm_middle ?_
  refine V_putF C hI dX8_init_12 (wrW (k := 0) (j := 0) rfl rfl (by simp)) ft_X8 (by decide) q232 rfl rfl rfl rfl rfl ?_
  refine V_aload_n C dX8_init_15 rfl ?_
  refine V_newc (ci := 5) (fs := [.null, .null, .null, .int 0, .int 0, .int 0, .int 0, .int 0, .int 0, .int 0, .int 0, .int 0, .int 0]) C hE dX8_init_16 in_X5 tyX5_ok q88 q89 q64 rfl (fun j hj => by rcases (show j = 0 ∨ j = 1 ∨ j = 2 ∨ j = 3 ∨ j = 4 ∨ j = 5 ∨ j = 6 ∨ j = 7 ∨ j = 8 ∨ j = 9 ∨ j = 10 ∨ j = 11 ∨ j = 12 by omega) with rfl | rfl | rfl | rfl | rfl | rfl | rfl | rfl | rfl | rfl | rfl | rfl | rfl <;> rfl) rfl rfl (fun v1 => ?_)
  refine V_dup C dX8_init_19 rfl ?_
  refine V_to (P' := fun H => PO E _ (xs x) H) (fun _ h => ⟨h, hao⟩) rfl rfl ?_
  refine V_callI C hE dX8_init_20 (c_X5_init (q := v1)) kNyX5_init q90 ⟨rfl, q91⟩ ⟨Nat.le_of_ble_eq_true rfl, Nat.le_of_ble_eq_true rfl⟩ ⟨rfl, rfl⟩ rfl ⟨Nat.le_of_ble_eq_true rfl, Nat.le_of_ble_eq_true rfl⟩ rfl (Nat.le_of_ble_eq_true rfl) PM_O (fun _ => PM_O) ?_
  rintro r u1 rfl
  refine V_to (P' := WP x E (vcl E v1 u1 ++ ((q, .inr (8, [.ref v0, .null, .null, .null, .null, .null, .null, .null, .null, .int 0, .int 0])) :: (vcl E v0 u0 ++ ws)))) (fun _ h => by have := h.1; rw [← List.append_assoc] at this; exact this) rfl rfl ?_
  refine V_perm List.perm_middle ?_
  refine V_putF C hI dX8_init_23 (wrW (k := 0) (j := 1) rfl rfl (by simp)) ft_X8 (by decide) q233 rfl rfl rfl rfl rfl ?_
  refine V_aload_n C dX8_init_26 rfl ?_
  refine V_newc (ci := 5) (fs := [.null, .null, .null, .int 0, .int 0, .int 0, .int 0, .int 0, .int 0, .int 0, .int 0, .int 0, .int 0]) C hE dX8_init_27 in_X5 tyX5_ok q88 q89 q64 rfl (fun j hj => by rcases (show j = 0 ∨ j = 1 ∨ j = 2 ∨ j = 3 ∨ j = 4 ∨ j = 5 ∨ j = 6 ∨ j = 7 ∨ j = 8 ∨ j = 9 ∨ j = 10 ∨ j = 11 ∨ j = 12 by omega) with rfl | rfl | rfl | rfl | rfl | rfl | rfl | rfl | rfl | rfl | rfl | rfl | rfl <;> rfl) rfl rfl (fun v2 => ?_)
  refine V_dup C dX8_init_30 rfl ?_
  refine V_to (P' := fun H => PO E _ (xs x) H) (fun _ h => ⟨h, hao⟩) rfl rfl ?_
  refine V_callI C hE dX8_init_31 (c_X5_init (q := v2)) kNyX5_init q90 ⟨rfl, q91⟩ ⟨Nat.le_of_ble_eq_true rfl, Nat.le_of_ble_eq_true rfl⟩ ⟨rfl, rfl⟩ rfl ⟨Nat.le_of_ble_eq_true rfl, Nat.le_of_ble_eq_true rfl⟩ rfl (Nat.le_of_ble_eq_true rfl) PM_O (fun _ => PM_O) ?_
  rintro r u2 rfl
  refine V_to (P' := WP x E (vcl E v2 u2 ++ ((q, .inr (8, [.ref v0, .ref v1, .null, .null, .null, .null, .null, .null, .null, .int 0, .int 0])) :: (vcl E v1 u1 ++ (vcl E v0 u0 ++ ws))))) (fun _ h => by have := h.1; rw [← List.append_assoc] at this; exact this) rfl rfl ?_
  refine V_perm List.perm_middle ?_
  refine V_putF C hI dX8_init_34 (wrW (k := 0) (j := 2) rfl rfl (by simp)) ft_X8 (by decide) q234 rfl rfl rfl rfl rfl ?_
  refine V_aload_n C dX8_init_37 rfl ?_
  refine V_newc (ci := 5) (fs := [.null, .null, .null, .int 0, .int 0, .int 0, .int 0, .int 0, .int 0, .int 0, .int 0, .int 0, .int 0]) C hE dX8_init_38 in_X5 tyX5_ok q88 q89 q64 rfl (fun j hj => by rcases (show j = 0 ∨ j = 1 ∨ j = 2 ∨ j = 3 ∨ j = 4 ∨ j = 5 ∨ j = 6 ∨ j = 7 ∨ j = 8 ∨ j = 9 ∨ j = 10 ∨ j = 11 ∨ j = 12 by omega) with rfl | rfl | rfl | rfl | rfl | rfl | rfl | rfl | rfl | rfl | rfl | rfl | rfl <;> rfl) rfl rfl (fun v3 => ?_)
  refine V_dup C dX8_init_41 rfl ?_
  refine V_to (P' := fun H => PO E _ (xs x) H) (fun _ h => ⟨h, hao⟩) rfl rfl ?_
  refine V_callI C hE dX8_init_42 (c_X5_init (q := v3)) kNyX5_init q90 ⟨rfl, q91⟩ ⟨Nat.le_of_ble_eq_true rfl, Nat.le_of_ble_eq_true rfl⟩ ⟨rfl, rfl⟩ rfl ⟨Nat.le_of_ble_eq_true rfl, Nat.le_of_ble_eq_true rfl⟩ rfl (Nat.le_of_ble_eq_true rfl) PM_O (fun _ => PM_O) ?_
  rintro r u3 rfl
  refine V_to (P' := WP x E (vcl E v3 u3 ++ ((q, .inr (8, [.ref v0, .ref v1, .ref v2, .null, .null, .null, .null, .null, .null, .int 0, .int 0])) :: (vcl E v2 u2 ++ (vcl E v1 u1 ++ (vcl E v0 u0 ++ ws)))))) (fun _ h => by have := h.1; rw [← List.append_assoc] at this; exact this) rfl rfl ?_
  refine V_perm List.perm_middle ?_
  refine V_putF C hI dX8_init_45 (wrW (k := 0) (j := 3) rfl rfl (by simp)) ft_X8 (by decide) q235 rfl rfl rfl rfl rfl ?_
  refine V_aload_n C dX8_init_48 rfl ?_
  refine V_newc (ci := 5) (fs := [.null, .null, .null, .int 0, .int 0, .int 0, .int 0, .int 0, .int 0, .int 0, .int 0, .int 0, .int 0]) C hE dX8_init_49 in_X5 tyX5_ok q88 q89 q64 rfl (fun j hj => by rcases (show j = 0 ∨ j = 1 ∨ j = 2 ∨ j = 3 ∨ j = 4 ∨ j = 5 ∨ j = 6 ∨ j = 7 ∨ j = 8 ∨ j = 9 ∨ j = 10 ∨ j = 11 ∨ j = 12 by omega) with rfl | rfl | rfl | rfl | rfl | rfl | rfl | rfl | rfl | rfl | rfl | rfl | rfl <;> rfl) rfl rfl (fun v4 => ?_)
  refine V_dup C dX8_init_52 rfl ?_
  refine V_to (P' := fun H => PO E _ (xs x) H) (fun _ h => ⟨h, hao⟩) rfl rfl ?_
  refine V_callI C hE dX8_init_53 (c_X5_init (q := v4)) kNyX5_init q90 ⟨rfl, q91⟩ ⟨Nat.le_of_ble_eq_true rfl, Nat.le_of_ble_eq_true rfl⟩ ⟨rfl, rfl⟩ rfl ⟨Nat.le_of_ble_eq_true rfl, Nat.le_of_ble_eq_true rfl⟩ rfl (Nat.le_of_ble_eq_true rfl) PM_O (fun _ => PM_O) ?_
  rintro r u4 rfl
  refine V_to (P' := WP x E (vcl E v4 u4 ++ ((q, .inr (8, [.ref v0, .ref v1, .ref v2, .ref v3, .null, .null, .null, .null, .null, .int 0, .int 0])) :: (vcl E v3 u3 ++ (vcl E v2 u2 ++ (vcl E v1 u1 ++ (vcl E v0 u0 ++ ws))))))) (fun _ h => by have := h.1; rw [← List.append_assoc] at this; exact this) rfl rfl ?_
  refine V_perm List.perm_middle ?_
  refine V_putF C hI dX8_init_56 (wrW (k := 0) (j := 4) rfl rfl (by simp)) ft_X8 (by decide) q236 rfl rfl rfl rfl rfl ?_
  refine V_aload_n C dX8_init_59 rfl ?_
  refine V_iconst C 4 dX8_init_60 (by decide) ?_
  refine V_newQc (nn := 4) (t0 := 2) (cQ := eS E) (Cn := RX3) C hE rfl rfl rfl dX8_init_61 q184 hao.2 rfl rfl (fun w0 => ?_)
  refine V_putF C hI dX8_init_64 (wrW (k := 1) (j := 5) rfl rfl (by simp)) ft_X8 (by decide) q237 rfl rfl rfl rfl rfl ?_
  refine V_aload_n C dX8_init_67 rfl ?_
  refine V_bipush C 7 dX8_init_68 (by decide) ?_
  refine V_newIc (nn := 7) C hE rfl rfl dX8_init_70 q128 rfl rfl (fun w1 => ?_)
  refine V_putF C hI dX8_init_72 (wrW (k := 2) (j := 6) rfl rfl (by simp)) ft_X8 (by decide) q238 rfl rfl rfl rfl rfl ?_
  refine V_aload_n C dX8_init_75 rfl ?_
  refine V_bipush C 120 dX8_init_76 (by decide) ?_
  refine V_newIc (nn := 120) C hE rfl rfl dX8_init_78 q128 rfl rfl (fun w2 => ?_)
  refine V_putF C hI dX8_init_80 (wrW (k := 3) (j := 7) rfl rfl (by simp)) ft_X8 (by decide) q239 rfl rfl rfl rfl rfl ?_
  refine V_aload_n C dX8_init_83 rfl ?_
  refine V_newc (ci := 2) (fs := [.null, .null, .int 0, .int 0, .int 0, .int 0, .int 0]) C hE dX8_init_84 in_X2 tyX2_ok q186 q187 q66 rfl (fun j hj => by rcases (show j = 0 ∨ j = 1 ∨ j = 2 ∨ j = 3 ∨ j = 4 ∨ j = 5 ∨ j = 6 by omega) with rfl | rfl | rfl | rfl | rfl | rfl | rfl <;> rfl) rfl rfl (fun w3 => ?_)
  refine V_dup C dX8_init_87 rfl ?_
  refine V_aload_n C dX8_init_88 rfl ?_
  refine V_get C dX8_init_89 (rdW (k := 4) (j := 7) rfl rfl rfl) in_X8 (by decide) q239 rfl ?_
  refine V_aload_n C dX8_init_92 rfl ?_
  refine V_get C dX8_init_93 (rdW (k := 4) (j := 2) rfl rfl rfl) in_X8 (by decide) q234 rfl ?_
  refine V_callI C hE dX8_init_96 (c_X2_init (q := w3) (b := w2) (v := v2)) kNyX2_init q188 ⟨rfl, q189⟩ ⟨Nat.le_of_ble_eq_true rfl, Nat.le_of_ble_eq_true rfl⟩ ⟨rfl, rfl⟩ rfl ⟨Nat.le_of_ble_eq_true rfl, Nat.le_of_ble_eq_true rfl⟩ rfl (Nat.le_of_ble_eq_true rfl) PM_W (fun _ => PM_W) ?_
  rintro r uu rfl
  refine V_putF C hI dX8_init_99 (wrW (k := 4) (j := 8) rfl rfl (by simp)) ft_X8 (by decide) q240 rfl rfl rfl rfl rfl ?_
  refine V_iconst C 0 dX8_init_102 (by decide) ?_
  refine V_istore_n C dX8_init_103 rfl ?_
  refine V_L (L' := [some (.ref q), some (.int 0)]) rfl ?_
  refine V_iload_n C dX8_init_104 rfl ?_
  refine V_aload_n C dX8_init_105 rfl ?_
  refine V_get C dX8_init_106 (rdW (k := 4) (j := 5) rfl rfl rfl) in_X8 (by decide) q237 rfl ?_
  refine V_alenQ C dX8_init_109 (rdQW (k0 := 3) (t0 := 2) (cQ := eS E) (Cn := RX3) rfl rfl) rfl ?_
  refine V_icmp_ge C dX8_init_110 (fun c => absurd c (by decide)) (fun _ => ?_)
  refine V_aload_n C dX8_init_113 rfl ?_
  refine V_get C dX8_init_114 (rdW (k := 4) (j := 5) rfl rfl rfl) in_X8 (by decide) q237 rfl ?_
  refine V_iload_n C dX8_init_117 rfl ?_
  refine V_newc (ci := 3) (fs := [.null, .int 0, .int 0]) C hE dX8_init_118 in_X3 tyX3_ok q184 q214 q67 rfl (fun j hj => by rcases (show j = 0 ∨ j = 1 ∨ j = 2 by omega) with rfl | rfl | rfl <;> rfl) rfl rfl (fun s0 => ?_)
  refine V_dup C dX8_init_121 rfl ?_
  refine V_callIN C hE dX8_init_122 (c_X3_init (q := s0)) kNyX3_init q215 ⟨rfl, q216⟩ ⟨Nat.le_of_ble_eq_true rfl, Nat.le_of_ble_eq_true rfl⟩ ⟨rfl, rfl⟩ rfl ⟨Nat.le_of_ble_eq_true rfl, Nat.le_of_ble_eq_true rfl⟩ rfl (Nat.le_of_ble_eq_true rfl) PM_W (fun _ => PM_W) ?_
  rintro r n0 rfl
  refine V_aastW (k0 := 5) (k1 := 1) (t0 := 2) (ci := 3) (r := (RX3, TX3, 3)) (cQ := eS E) (nn := 4) (j := 0) (f := (fun _ => none)) C rfl (by omega) (by omega) rfl rfl rfl rfl dX8_init_125 ?_
  refine V_iinc C 1 dX8_init_126 rfl (by decide) rfl ?_
  refine V_goto C dX8_init_129 ?_
  refine V_L (L' := [some (.ref q), some (.int 1)]) rfl ?_
  refine V_iload_n C dX8_init_104 rfl ?_
  refine V_aload_n C dX8_init_105 rfl ?_
  refine V_get C dX8_init_106 (rdW (k := 6) (j := 5) rfl rfl rfl) in_X8 (by decide) q237 rfl ?_
  refine V_alenQ C dX8_init_109 (rdQW (k0 := 5) (t0 := 2) (cQ := eS E) (Cn := RX3) rfl rfl) rfl ?_
  refine V_icmp_ge C dX8_init_110 (fun c => absurd c (by decide)) (fun _ => ?_)
  refine V_aload_n C dX8_init_113 rfl ?_
  refine V_get C dX8_init_114 (rdW (k := 6) (j := 5) rfl rfl rfl) in_X8 (by decide) q237 rfl ?_
  refine V_iload_n C dX8_init_117 rfl ?_
  refine V_newc (ci := 3) (fs := [.null, .int 0, .int 0]) C hE dX8_init_118 in_X3 tyX3_ok q184 q214 q67 rfl (fun j hj => by rcases (show j = 0 ∨ j = 1 ∨ j = 2 by omega) with rfl | rfl | rfl <;> rfl) rfl rfl (fun s1 => ?_)
  refine V_dup C dX8_init_121 rfl ?_
  refine V_callIN C hE dX8_init_122 (c_X3_init (q := s1)) kNyX3_init q215 ⟨rfl, q216⟩ ⟨Nat.le_of_ble_eq_true rfl, Nat.le_of_ble_eq_true rfl⟩ ⟨rfl, rfl⟩ rfl ⟨Nat.le_of_ble_eq_true rfl, Nat.le_of_ble_eq_true rfl⟩ rfl (Nat.le_of_ble_eq_true rfl) PM_W (fun _ => PM_W) ?_
  rintro r n1 rfl
  refine V_aastW (k0 := 7) (k1 := 1) (t0 := 2) (ci := 3) (r := (RX3, TX3, 3)) (cQ := eS E) (nn := 4) (j := 1) (f := (va_up (fun _ => none) 0 (some s0))) C rfl (by omega) (by omega) rfl rfl rfl rfl dX8_init_125 ?_
  refine V_iinc C 1 dX8_init_126 rfl (by decide) rfl ?_
  refine V_goto C dX8_init_129 ?_
  refine V_L (L' := [some (.ref q), some (.int 2)]) rfl ?_
  refine V_iload_n C dX8_init_104 rfl ?_
  refine V_aload_n C dX8_init_105 rfl ?_
  refine V_get C dX8_init_106 (rdW (k := 8) (j := 5) rfl rfl rfl) in_X8 (by decide) q237 rfl ?_
  refine V_alenQ C dX8_init_109 (rdQW (k0 := 7) (t0 := 2) (cQ := eS E) (Cn := RX3) rfl rfl) rfl ?_
  refine V_icmp_ge C dX8_init_110 (fun c => absurd c (by decide)) (fun _ => ?_)
  refine V_aload_n C dX8_init_113 rfl ?_
  refine V_get C dX8_init_114 (rdW (k := 8) (j := 5) rfl rfl rfl) in_X8 (by decide) q237 rfl ?_
  refine V_iload_n C dX8_init_117 rfl ?_
  refine V_newc (ci := 3) (fs := [.null, .int 0, .int 0]) C hE dX8_init_118 in_X3 tyX3_ok q184 q214 q67 rfl (fun j hj => by rcases (show j = 0 ∨ j = 1 ∨ j = 2 by omega) with rfl | rfl | rfl <;> rfl) rfl rfl (fun s2 => ?_)
  refine V_dup C dX8_init_121 rfl ?_
  refine V_callIN C hE dX8_init_122 (c_X3_init (q := s2)) kNyX3_init q215 ⟨rfl, q216⟩ ⟨Nat.le_of_ble_eq_true rfl, Nat.le_of_ble_eq_true rfl⟩ ⟨rfl, rfl⟩ rfl ⟨Nat.le_of_ble_eq_true rfl, Nat.le_of_ble_eq_true rfl⟩ rfl (Nat.le_of_ble_eq_true rfl) PM_W (fun _ => PM_W) ?_
  rintro r n2 rfl
  refine V_aastW (k0 := 9) (k1 := 1) (t0 := 2) (ci := 3) (r := (RX3, TX3, 3)) (cQ := eS E) (nn := 4) (j := 2) (f := (va_up (va_up (fun _ => none) 0 (some s0)) 1 (some s1))) C rfl (by omega) (by omega) rfl rfl rfl rfl dX8_init_125 ?_
  refine V_iinc C 1 dX8_init_126 rfl (by decide) rfl ?_
  refine V_goto C dX8_init_129 ?_
  refine V_L (L' := [some (.ref q), some (.int 3)]) rfl ?_
  refine V_iload_n C dX8_init_104 rfl ?_
  refine V_aload_n C dX8_init_105 rfl ?_
  refine V_get C dX8_init_106 (rdW (k := 10) (j := 5) rfl rfl rfl) in_X8 (by decide) q237 rfl ?_
  refine V_alenQ C dX8_init_109 (rdQW (k0 := 9) (t0 := 2) (cQ := eS E) (Cn := RX3) rfl rfl) rfl ?_
  refine V_icmp_ge C dX8_init_110 (fun c => absurd c (by decide)) (fun _ => ?_)
  refine V_aload_n C dX8_init_113 rfl ?_
  refine V_get C dX8_init_114 (rdW (k := 10) (j := 5) rfl rfl rfl) in_X8 (by decide) q237 rfl ?_
  refine V_iload_n C dX8_init_117 rfl ?_
  refine V_newc (ci := 3) (fs := [.null, .int 0, .int 0]) C hE dX8_init_118 in_X3 tyX3_ok q184 q214 q67 rfl (fun j hj => by rcases (show j = 0 ∨ j = 1 ∨ j = 2 by omega) with rfl | rfl | rfl <;> rfl) rfl rfl (fun s3 => ?_)
  refine V_dup C dX8_init_121 rfl ?_
  refine V_callIN C hE dX8_init_122 (c_X3_init (q := s3)) kNyX3_init q215 ⟨rfl, q216⟩ ⟨Nat.le_of_ble_eq_true rfl, Nat.le_of_ble_eq_true rfl⟩ ⟨rfl, rfl⟩ rfl ⟨Nat.le_of_ble_eq_true rfl, Nat.le_of_ble_eq_true rfl⟩ rfl (Nat.le_of_ble_eq_true rfl) PM_W (fun _ => PM_W) ?_
  rintro r n3 rfl
  refine V_aastW (k0 := 11) (k1 := 1) (t0 := 2) (ci := 3) (r := (RX3, TX3, 3)) (cQ := eS E) (nn := 4) (j := 3) (f := (va_up (va_up (va_up (fun _ => none) 0 (some s0)) 1 (some s1)) 2 (some s2))) C rfl (by omega) (by omega) rfl rfl rfl rfl dX8_init_125 ?_
  refine V_iinc C 1 dX8_init_126 rfl (by decide) rfl ?_
  refine V_goto C dX8_init_129 ?_
  refine V_L (L' := [some (.ref q), some (.int 4)]) rfl ?_
  refine V_iload_n C dX8_init_104 rfl ?_
  refine V_aload_n C dX8_init_105 rfl ?_
  refine V_get C dX8_init_106 (rdW (k := 12) (j := 5) rfl rfl rfl) in_X8 (by decide) q237 rfl ?_
  refine V_alenQ C dX8_init_109 (rdQW (k0 := 11) (t0 := 2) (cQ := eS E) (Cn := RX3) rfl rfl) rfl ?_
  refine V_icmp_ge C dX8_init_110 (fun _ => ?_) (fun c => absurd (by decide) c)
  exact V_ret C (u := (((fun i => match i with | 0 => v0 | 1 => v1 | 2 => v2 | 3 => v3 | _ => v4), (fun i => match i with | 0 => u0 | 1 => u1 | 2 => u2 | 3 => u3 | _ => u4), (fun i => match i with | 0 => w0 | 1 => w1 | 2 => w2 | 3 => w3 | 4 => s0 | 5 => n0 | 6 => s1 | 7 => n1 | 8 => s2 | 9 => n2 | 10 => s3 | _ => n3)) : (Nat → Nat) × (Nat → Nat → Nat) × (Nat → Nat))) dX8_init_132 hT rfl (fun _ h => ⟨h, hao⟩) PM_O

