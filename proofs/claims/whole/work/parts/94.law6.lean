/-! THE FIRST PICTURE -/
def adF (v : Nat → Nat) (u : Nat → Nat → Nat) (w m : Nat → Nat) (q8 q9 : Nat) : Nat → Nat := fun c =>
  if c < 60 then (match c % 12 with
    | 0 => v (c / 12)
    | j + 1 => u (c / 12) j)
  else match c with
    | 60 => q8
    | 61 => w 0
    | 62 => w 1
    | 63 => w 2
    | 64 => w 3
    | 65 => w 4
    | 66 => w 6
    | 67 => w 8
    | 68 => w 10
    | 69 => w 5
    | 70 => w 7
    | 71 => w 9
    | 72 => w 11
    | 73 => q9
    | c => m (c - 74)
def fstE (E : En) (v : Nat → Nat) (u : Nat → Nat → Nat) (w m : Nat → Nat) (q8 q9 : Nat) : En := (eD E, eI E, eH E, eS E, eB E, 0, adF v u w m q8 q9, eK E, eV E)
def vob : Nat → Int32 := fun j => match j with
  | 5 => 20
  | 10 => 1
  | 11 => 400
  | _ => 0
def rho0 : Sg := fun c =>
  if c < 60 then (match c % 12 with
    | 0 => vob
    | 2 => stT 7
    | 3 => spotT 10
    | _ => fun _ => 0)
  else match c with
    | 73 => fun j => if j = 8 then -1 else 0
    | 74 => s1T 10
    | _ => fun _ => 0
def sig0 : Sg := fun c => if c < 5 then s1T 10 else if c < 10 then (fun j => if j = 0 then 400 else 0) else if c < 12 then (fun _ => 0) else rho0 c
theorem s1T_hi {k : Nat} (h : 73 ≤ k) : s1T 10 k = 0 := by
  simp only [s1T, s0T]
  repeat rw [upd_n (by omega)]
theorem s1T_1 : s1T 10 1 = 0 := by decide +kernel
theorem nh_s1T : nh (s1T 10) = 0 := by unfold nh; rw [s1T_1]; rfl
theorem Can_s1T : Can (s1T 10) := by
  refine ⟨by rw [nh_s1T, s1T_1]; rfl, by rw [nh_s1T]; omega, fun k hk => s1T_hi hk, fun i j _ hi hj => ?_⟩
  have h : ∀ i, i < 8 → ∀ j, j < 6 → s1T 10 (15 + 6 * i + j) = 0 := by decide +kernel
  exact h i hi j hj
theorem Can_0 : Can (fun _ => 0) := ⟨rfl, by decide, fun _ _ => rfl, fun _ _ _ _ _ => rfl⟩
theorem Row_s1T : RowOK (s1T 10) := by
  refine ⟨⟨⟨Can_s1T, fun i hi => ?_, by decide +kernel, by decide +kernel, by decide +kernel⟩, ⟨by decide +kernel, by decide +kernel, by decide +kernel⟩, by decide +kernel, by decide +kernel⟩, ⟨0, 0, by decide +kernel, by omega, by decide +kernel, by omega, fun i hi => ?_⟩, fun k hk => Or.inl ?_⟩
  · rw [nh_s1T] at hi; omega
  · rw [nh_s1T] at hi; omega
  · have h : ∀ k, k < 10 → s1T 10 (63 + k) = -1 := by decide +kernel
    exact h k hk
theorem Msk_rf {f : Nat → Int32} (h : Can f) : Msk f f := ⟨h, fun _ _ => rfl, fun _ _ _ => rfl, fun _ _ _ _ => rfl⟩
theorem ABS_0 : ABS sig0 rho0 := by
  have a1 : ∀ v, v < 5 → ∀ j, j < 11 → 3 ≤ j → rho0 (12 * v) j = s1T 10 (vsl j) := by decide +kernel
  have a2 : ∀ v, v < 5 → ∀ i, i < 7 → rho0 (12 * v + 2) i = s1T 10 (8 + i) := by decide +kernel
  have a3 : ∀ v, v < 5 → ∀ i, i < 10 → rho0 (12 * v + 3) i = s1T 10 (63 + i) := by decide +kernel
  have a4 : ∀ v, v < 5 → rho0 (12 * v) 11 = 400 ∧ rho0 (12 * v) 12 = 0 := by decide +kernel
  refine ⟨fun v hv => ?_, fun c h60 _ _ _ _ => ?_, fun c h1 h2 => ?_, ?_, ?_⟩
  · have e1 : sig0 v = s1T 10 := if_pos hv
    have e2 : sig0 (5 + v) = fun j => if j = 0 then 400 else 0 := by
      unfold sig0
      rw [if_neg (by omega), if_pos (by omega)]
    rw [e1, e2]
    refine ⟨⟨Can_s1T, fun j h3 h10 => a1 v hv j (by omega) h3, a2 v hv, a3 v hv, fun i j hi _ => ?_⟩, (a4 v hv).1, (a4 v hv).2, Or.inl rfl⟩
    rw [nh_s1T] at hi; omega
  · unfold sig0
    rw [if_neg (by omega), if_neg (by omega), if_neg (by omega)]
  · rcases (show c = 74 ∨ c = 75 ∨ c = 76 by omega) with rfl | rfl | rfl
    · exact Msk_rf Can_s1T
    · exact Msk_rf Can_0
    · exact Msk_rf Can_0
  · exact Msk_rf Can_0
  · exact Msk_rf Can_0
theorem Rel_0 : Rel sig0 := by
  refine ⟨rfl, Row_s1T, ⟨rfl, rfl, rfl⟩, rfl, fun h => absurd rfl h, rfl, rfl, ⟨0, by omega, rfl, rfl⟩, fun s hs => ?_⟩
  rcases (show s = 0 ∨ s = 1 ∨ s = 2 ∨ s = 3 by omega) with rfl | rfl | rfl | rfl
  all_goals exact ⟨rfl, rfl, Or.inl rfl, ⟨0, by omega, rfl⟩, fun i _ => ⟨rfl, cutV_0 _⟩⟩
def lstf (E : En) (c : Nat) : Nat × va_E := (ad E c, celf E c (rho0 c))
section FST
variable {E : En} {v : Nat → Nat} {u : Nat → Nat → Nat} {w m : Nat → Nat} {q8 q9 : Nat}
theorem lan_0 : lstf (fstE E v u w m q8 q9) 1 = (u 0 0, .inl (eH E, 8, .inr (.inr (.inr (.inr (laT (fun j => u 0 (j + 3)) 8)))))) := by
  have e : (fun i => if i < 8 then some (ad (fstE E v u w m q8 q9) (1 + 3 + i)) else none) = laT (fun j => u 0 (j + 3)) 8 := by
    funext i
    unfold laT
    by_cases h : i < 8
    · rw [if_pos h, if_pos h]
      rcases (show i = 0 ∨ i = 1 ∨ i = 2 ∨ i = 3 ∨ i = 4 ∨ i = 5 ∨ i = 6 ∨ i = 7 by omega) with rfl | rfl | rfl | rfl | rfl | rfl | rfl | rfl <;> rfl
    · rw [if_neg h, if_neg h]
  show (u 0 0, Sum.inl (eH E, 8, Sum.inr (Sum.inr (Sum.inr (Sum.inr (fun i => if i < 8 then some (ad (fstE E v u w m q8 q9) (1 + 3 + i)) else none)))))) = _
  rw [e]
theorem blk_v0 : vcl E (v 0) (u 0) = [3, 2, 1, 0, 11, 10, 9, 8, 7, 6, 5, 4].map (lstf (fstE E v u w m q8 q9)) := by
  show _ = [lstf (fstE E v u w m q8 q9) 3, lstf (fstE E v u w m q8 q9) 2, lstf (fstE E v u w m q8 q9) 1, lstf (fstE E v u w m q8 q9) 0, lstf (fstE E v u w m q8 q9) 11, lstf (fstE E v u w m q8 q9) 10, lstf (fstE E v u w m q8 q9) 9, lstf (fstE E v u w m q8 q9) 8, lstf (fstE E v u w m q8 q9) 7, lstf (fstE E v u w m q8 q9) 6, lstf (fstE E v u w m q8 q9) 5, lstf (fstE E v u w m q8 q9) 4]
  rw [lan_0]
  rfl
theorem lan_1 : lstf (fstE E v u w m q8 q9) 13 = (u 1 0, .inl (eH E, 8, .inr (.inr (.inr (.inr (laT (fun j => u 1 (j + 3)) 8)))))) := by
  have e : (fun i => if i < 8 then some (ad (fstE E v u w m q8 q9) (13 + 3 + i)) else none) = laT (fun j => u 1 (j + 3)) 8 := by
    funext i
    unfold laT
    by_cases h : i < 8
    · rw [if_pos h, if_pos h]
      rcases (show i = 0 ∨ i = 1 ∨ i = 2 ∨ i = 3 ∨ i = 4 ∨ i = 5 ∨ i = 6 ∨ i = 7 by omega) with rfl | rfl | rfl | rfl | rfl | rfl | rfl | rfl <;> rfl
    · rw [if_neg h, if_neg h]
  show (u 1 0, Sum.inl (eH E, 8, Sum.inr (Sum.inr (Sum.inr (Sum.inr (fun i => if i < 8 then some (ad (fstE E v u w m q8 q9) (13 + 3 + i)) else none)))))) = _
  rw [e]
theorem blk_v1 : vcl E (v 1) (u 1) = [15, 14, 13, 12, 23, 22, 21, 20, 19, 18, 17, 16].map (lstf (fstE E v u w m q8 q9)) := by
  show _ = [lstf (fstE E v u w m q8 q9) 15, lstf (fstE E v u w m q8 q9) 14, lstf (fstE E v u w m q8 q9) 13, lstf (fstE E v u w m q8 q9) 12, lstf (fstE E v u w m q8 q9) 23, lstf (fstE E v u w m q8 q9) 22, lstf (fstE E v u w m q8 q9) 21, lstf (fstE E v u w m q8 q9) 20, lstf (fstE E v u w m q8 q9) 19, lstf (fstE E v u w m q8 q9) 18, lstf (fstE E v u w m q8 q9) 17, lstf (fstE E v u w m q8 q9) 16]
  rw [lan_1]
  rfl
theorem lan_2 : lstf (fstE E v u w m q8 q9) 25 = (u 2 0, .inl (eH E, 8, .inr (.inr (.inr (.inr (laT (fun j => u 2 (j + 3)) 8)))))) := by
  have e : (fun i => if i < 8 then some (ad (fstE E v u w m q8 q9) (25 + 3 + i)) else none) = laT (fun j => u 2 (j + 3)) 8 := by
    funext i
    unfold laT
    by_cases h : i < 8
    · rw [if_pos h, if_pos h]
      rcases (show i = 0 ∨ i = 1 ∨ i = 2 ∨ i = 3 ∨ i = 4 ∨ i = 5 ∨ i = 6 ∨ i = 7 by omega) with rfl | rfl | rfl | rfl | rfl | rfl | rfl | rfl <;> rfl
    · rw [if_neg h, if_neg h]
  show (u 2 0, Sum.inl (eH E, 8, Sum.inr (Sum.inr (Sum.inr (Sum.inr (fun i => if i < 8 then some (ad (fstE E v u w m q8 q9) (25 + 3 + i)) else none)))))) = _
  rw [e]
theorem blk_v2 : vcl E (v 2) (u 2) = [27, 26, 25, 24, 35, 34, 33, 32, 31, 30, 29, 28].map (lstf (fstE E v u w m q8 q9)) := by
  show _ = [lstf (fstE E v u w m q8 q9) 27, lstf (fstE E v u w m q8 q9) 26, lstf (fstE E v u w m q8 q9) 25, lstf (fstE E v u w m q8 q9) 24, lstf (fstE E v u w m q8 q9) 35, lstf (fstE E v u w m q8 q9) 34, lstf (fstE E v u w m q8 q9) 33, lstf (fstE E v u w m q8 q9) 32, lstf (fstE E v u w m q8 q9) 31, lstf (fstE E v u w m q8 q9) 30, lstf (fstE E v u w m q8 q9) 29, lstf (fstE E v u w m q8 q9) 28]
  rw [lan_2]
  rfl
theorem lan_3 : lstf (fstE E v u w m q8 q9) 37 = (u 3 0, .inl (eH E, 8, .inr (.inr (.inr (.inr (laT (fun j => u 3 (j + 3)) 8)))))) := by
  have e : (fun i => if i < 8 then some (ad (fstE E v u w m q8 q9) (37 + 3 + i)) else none) = laT (fun j => u 3 (j + 3)) 8 := by
    funext i
    unfold laT
    by_cases h : i < 8
    · rw [if_pos h, if_pos h]
      rcases (show i = 0 ∨ i = 1 ∨ i = 2 ∨ i = 3 ∨ i = 4 ∨ i = 5 ∨ i = 6 ∨ i = 7 by omega) with rfl | rfl | rfl | rfl | rfl | rfl | rfl | rfl <;> rfl
    · rw [if_neg h, if_neg h]
  show (u 3 0, Sum.inl (eH E, 8, Sum.inr (Sum.inr (Sum.inr (Sum.inr (fun i => if i < 8 then some (ad (fstE E v u w m q8 q9) (37 + 3 + i)) else none)))))) = _
  rw [e]
theorem blk_v3 : vcl E (v 3) (u 3) = [39, 38, 37, 36, 47, 46, 45, 44, 43, 42, 41, 40].map (lstf (fstE E v u w m q8 q9)) := by
  show _ = [lstf (fstE E v u w m q8 q9) 39, lstf (fstE E v u w m q8 q9) 38, lstf (fstE E v u w m q8 q9) 37, lstf (fstE E v u w m q8 q9) 36, lstf (fstE E v u w m q8 q9) 47, lstf (fstE E v u w m q8 q9) 46, lstf (fstE E v u w m q8 q9) 45, lstf (fstE E v u w m q8 q9) 44, lstf (fstE E v u w m q8 q9) 43, lstf (fstE E v u w m q8 q9) 42, lstf (fstE E v u w m q8 q9) 41, lstf (fstE E v u w m q8 q9) 40]
  rw [lan_3]
  rfl
theorem lan_4 : lstf (fstE E v u w m q8 q9) 49 = (u 4 0, .inl (eH E, 8, .inr (.inr (.inr (.inr (laT (fun j => u 4 (j + 3)) 8)))))) := by
  have e : (fun i => if i < 8 then some (ad (fstE E v u w m q8 q9) (49 + 3 + i)) else none) = laT (fun j => u 4 (j + 3)) 8 := by
    funext i
    unfold laT
    by_cases h : i < 8
    · rw [if_pos h, if_pos h]
      rcases (show i = 0 ∨ i = 1 ∨ i = 2 ∨ i = 3 ∨ i = 4 ∨ i = 5 ∨ i = 6 ∨ i = 7 by omega) with rfl | rfl | rfl | rfl | rfl | rfl | rfl | rfl <;> rfl
    · rw [if_neg h, if_neg h]
  show (u 4 0, Sum.inl (eH E, 8, Sum.inr (Sum.inr (Sum.inr (Sum.inr (fun i => if i < 8 then some (ad (fstE E v u w m q8 q9) (49 + 3 + i)) else none)))))) = _
  rw [e]
theorem blk_v4 : vcl E (v 4) (u 4) = [51, 50, 49, 48, 59, 58, 57, 56, 55, 54, 53, 52].map (lstf (fstE E v u w m q8 q9)) := by
  show _ = [lstf (fstE E v u w m q8 q9) 51, lstf (fstE E v u w m q8 q9) 50, lstf (fstE E v u w m q8 q9) 49, lstf (fstE E v u w m q8 q9) 48, lstf (fstE E v u w m q8 q9) 59, lstf (fstE E v u w m q8 q9) 58, lstf (fstE E v u w m q8 q9) 57, lstf (fstE E v u w m q8 q9) 56, lstf (fstE E v u w m q8 q9) 55, lstf (fstE E v u w m q8 q9) 54, lstf (fstE E v u w m q8 q9) 53, lstf (fstE E v u w m q8 q9) 52]
  rw [lan_4]
  rfl
theorem sht_0 : lstf (fstE E v u w m q8 q9) 61 = (w 0, .inl (eS E, 4, .inr (.inr (.inr (.inr (va_up (va_up (va_up (va_up (fun _ => none) 0 (some (w 4))) 1 (some (w 6))) 2 (some (w 8))) 3 (some (w 10)))))))) := by
  have e : (fun i => if i < 4 then some (ad (fstE E v u w m q8 q9) (65 + i)) else none) = va_up (va_up (va_up (va_up (fun _ => none) 0 (some (w 4))) 1 (some (w 6))) 2 (some (w 8))) 3 (some (w 10)) := by
    funext i
    by_cases h : i < 4
    · rw [if_pos h]
      rcases (show i = 0 ∨ i = 1 ∨ i = 2 ∨ i = 3 by omega) with rfl | rfl | rfl | rfl <;> rfl
    · rw [if_neg h, va_up_ne _ _ (by omega), va_up_ne _ _ (by omega), va_up_ne _ _ (by omega), va_up_ne _ _ (by omega)]
  show (w 0, Sum.inl (eS E, 4, Sum.inr (Sum.inr (Sum.inr (Sum.inr (fun i => if i < 4 then some (ad (fstE E v u w m q8 q9) (65 + i)) else none)))))) = _
  rw [e]
theorem blk_8 : [((w 11), arI E 40 (fun _ => 0)), ((w 10), .inr (3, [.ref (w 11), .int 0, .int 0])), ((w 9), arI E 40 (fun _ => 0)), ((w 8), .inr (3, [.ref (w 9), .int 0, .int 0])), ((w 7), arI E 40 (fun _ => 0)), ((w 6), .inr (3, [.ref (w 7), .int 0, .int 0])), ((w 5), arI E 40 (fun _ => 0)), ((w 4), .inr (3, [.ref (w 5), .int 0, .int 0])), ((w 3), .inr (2, [.ref (w 2), .ref (v 2), .int 0, .int 0, .int 0, .int 0, .int 0])), ((w 2), arI E 120 (fun _ => 0)), ((w 1), arI E 7 (fun _ => 0)), ((w 0), .inl (eS E, 4, .inr (.inr (.inr (.inr (va_up (va_up (va_up (va_up (fun _ => none) 0 (some (w 4))) 1 (some (w 6))) 2 (some (w 8))) 3 (some (w 10)))))))), (q8, .inr (8, [.ref (v 0), .ref (v 1), .ref (v 2), .ref (v 3), .ref (v 4), .ref (w 0), .ref (w 1), .ref (w 2), .ref (w 3), .int 0, .int 0]))] = [72, 68, 71, 67, 70, 66, 69, 65, 64, 63, 62, 61, 60].map (lstf (fstE E v u w m q8 q9)) := by
  show _ = [lstf (fstE E v u w m q8 q9) 72, lstf (fstE E v u w m q8 q9) 68, lstf (fstE E v u w m q8 q9) 71, lstf (fstE E v u w m q8 q9) 67, lstf (fstE E v u w m q8 q9) 70, lstf (fstE E v u w m q8 q9) 66, lstf (fstE E v u w m q8 q9) 69, lstf (fstE E v u w m q8 q9) 65, lstf (fstE E v u w m q8 q9) 64, lstf (fstE E v u w m q8 q9) 63, lstf (fstE E v u w m q8 q9) 62, lstf (fstE E v u w m q8 q9) 61, lstf (fstE E v u w m q8 q9) 60]
  rw [sht_0]
  rfl
theorem blk_9 : [(m 10, arI E 40 (fun _ => 0)), (m 9, arI E 160 (fun _ => 0)), (m 8, arI E 4 (fun _ => 0)), (m 7, arI E 4 (fun _ => 0)), (m 6, arI E 120 (fun _ => 0)), (m 5, arI E 2 (fun _ => 0)), (m 4, arI E 146 (fun _ => 0)), (m 3, arI E 7 (fun _ => 0)), (m 2, arI E 73 (fun _ => 0)), (m 1, arI E 73 (fun _ => 0)), (m 0, arI E 73 (s1T 10)), (q9, .inr (9, [.ref (m 0), .ref (m 1), .ref (m 2), .ref (m 3), .int 0, .int 0, .int 0, .int 0, .int (-1), .int 0, .ref (m 4), .ref (m 5), .int 0, .int 0, .int 0, .int 0, .ref (m 6), .int 0, .int 0, .int 0, .int 0, .int 0, .ref (m 7), .ref (m 8), .ref (m 9), .ref (m 10)]))] = [84, 83, 82, 81, 80, 79, 78, 77, 76, 75, 74, 73].map (lstf (fstE E v u w m q8 q9)) := by
  show _ = [lstf (fstE E v u w m q8 q9) 84, lstf (fstE E v u w m q8 q9) 83, lstf (fstE E v u w m q8 q9) 82, lstf (fstE E v u w m q8 q9) 81, lstf (fstE E v u w m q8 q9) 80, lstf (fstE E v u w m q8 q9) 79, lstf (fstE E v u w m q8 q9) 78, lstf (fstE E v u w m q8 q9) 77, lstf (fstE E v u w m q8 q9) 76, lstf (fstE E v u w m q8 q9) 75, lstf (fstE E v u w m q8 q9) 74, lstf (fstE E v u w m q8 q9) 73]
  rfl
/-- the cells in the order in which they were made -/
def mkO : List Nat := [84, 83, 82, 81, 80, 79, 78, 77, 76, 75, 74, 73] ++ ([72, 68, 71, 67, 70, 66, 69, 65, 64, 63, 62, 61, 60] ++ ([51, 50, 49, 48, 59, 58, 57, 56, 55, 54, 53, 52] ++ ([39, 38, 37, 36, 47, 46, 45, 44, 43, 42, 41, 40] ++ ([27, 26, 25, 24, 35, 34, 33, 32, 31, 30, 29, 28] ++ ([15, 14, 13, 12, 23, 22, 21, 20, 19, 18, 17, 16] ++ [3, 2, 1, 0, 11, 10, 9, 8, 7, 6, 5, 4])))))
theorem mkO_p : mkO.Perm (List.range 85) := by decide +kernel
theorem PA_first {s : State} {H : Heap} (hP : PW E ([(m 10, arI E 40 (fun _ => 0)), (m 9, arI E 160 (fun _ => 0)), (m 8, arI E 4 (fun _ => 0)), (m 7, arI E 4 (fun _ => 0)), (m 6, arI E 120 (fun _ => 0)), (m 5, arI E 2 (fun _ => 0)), (m 4, arI E 146 (fun _ => 0)), (m 3, arI E 7 (fun _ => 0)), (m 2, arI E 73 (fun _ => 0)), (m 1, arI E 73 (fun _ => 0)), (m 0, arI E 73 (s1T 10)), (q9, .inr (9, [.ref (m 0), .ref (m 1), .ref (m 2), .ref (m 3), .int 0, .int 0, .int 0, .int 0, .int (-1), .int 0, .ref (m 4), .ref (m 5), .int 0, .int 0, .int 0, .int 0, .ref (m 6), .int 0, .int 0, .int 0, .int 0, .int 0, .ref (m 7), .ref (m 8), .ref (m 9), .ref (m 10)]))] ++ ([((w 11), arI E 40 (fun _ => 0)), ((w 10), .inr (3, [.ref (w 11), .int 0, .int 0])), ((w 9), arI E 40 (fun _ => 0)), ((w 8), .inr (3, [.ref (w 9), .int 0, .int 0])), ((w 7), arI E 40 (fun _ => 0)), ((w 6), .inr (3, [.ref (w 7), .int 0, .int 0])), ((w 5), arI E 40 (fun _ => 0)), ((w 4), .inr (3, [.ref (w 5), .int 0, .int 0])), ((w 3), .inr (2, [.ref (w 2), .ref (v 2), .int 0, .int 0, .int 0, .int 0, .int 0])), ((w 2), arI E 120 (fun _ => 0)), ((w 1), arI E 7 (fun _ => 0)), ((w 0), .inl (eS E, 4, .inr (.inr (.inr (.inr (va_up (va_up (va_up (va_up (fun _ => none) 0 (some (w 4))) 1 (some (w 6))) 2 (some (w 8))) 3 (some (w 10)))))))), (q8, .inr (8, [.ref (v 0), .ref (v 1), .ref (v 2), .ref (v 3), .ref (v 4), .ref (w 0), .ref (w 1), .ref (w 2), .ref (w 3), .int 0, .int 0]))] ++ (vcl E (v 4) (u 4) ++ (vcl E (v 3) (u 3) ++ (vcl E (v 2) (u 2) ++ (vcl E (v 1) (u 1) ++ (vcl E (v 0) (u 0) ++ []))))))) s H) : PA (fstE E v u w m q8 q9) sig0 s H := by
  rw [blk_9 (v := v) (u := u) (w := w) (q8 := q8), blk_8 (u := u) (m := m) (q9 := q9), blk_v4 (w := w) (m := m) (q8 := q8) (q9 := q9), blk_v3 (w := w) (m := m) (q8 := q8) (q9 := q9), blk_v2 (w := w) (m := m) (q8 := q8) (q9 := q9), blk_v1 (w := w) (m := m) (q8 := q8) (q9 := q9), blk_v0 (w := w) (m := m) (q8 := q8) (q9 := q9), List.append_nil, ← List.map_append, ← List.map_append, ← List.map_append, ← List.map_append, ← List.map_append, ← List.map_append] at hP
  have hp := PW_perm (mkO_p.map (lstf (fstE E v u w m q8 q9))) hP
  exact ⟨rho0, ABS_0, hp⟩
end FST
