/-- the state at the entry -/
abbrev Cst (x : Cx) : State := xs x
theorem q80 : Cond.classLink RL 7 RX8 ∈ lw_gd := gd 80 (by decide +kernel) rfl
theorem q81 : Cond.instantiable RX8 11 ∈ lw_gd := gd 81 (by decide +kernel) rfl
theorem q82 : Cond.methodLink RL 9 yX8_init ∈ lw_gd := gd 82 (by decide +kernel) rfl
theorem q83 : Cond.instanceMethod yX8_init ∈ lw_gd := gd 83 (by decide +kernel) rfl
theorem q84 : Cond.code yX8_init cX8_init 2 none ∈ lw_gd := gd 84 (by decide +kernel) rfl
theorem q901 : Cond.classLink RL 10 RX9 ∈ lw_gd := gd 901 (by decide +kernel) rfl
theorem q902 : Cond.instantiable RX9 26 ∈ lw_gd := gd 902 (by decide +kernel) rfl
theorem q903 : Cond.methodLink RL 12 yX9_init ∈ lw_gd := gd 903 (by decide +kernel) rfl
theorem q904 : Cond.instanceMethod yX9_init ∈ lw_gd := gd 904 (by decide +kernel) rfl
theorem q905 : Cond.code yX9_init cX9_init 2 none ∈ lw_gd := gd 905 (by decide +kernel) rfl
theorem kNyX8_init : KN yX8_init cX8_init 2 none 0 := ⟨q63, q84, by decide +kernel⟩
theorem kNyX9_init : KN yX9_init cX9_init 2 none 0 := ⟨q68, q905, by decide +kernel⟩
/-- THE LAW, from its entry -/
theorem whole_start {p : Program} {e : Env} {s : State} {m : MethodId} {below : List Frame} {meth : Method} {c : Code} (l : Launch) (hflags : l.flags = flags0) {b L : Nat} {xs : Nat → Int32} (hL : L ≤ 3072) (C0 : lw_At p s m meth c b L xs) : W p l e room_1 s m #[Value.ref b] below meth c s.heap [] 0 0 (lw_Z below #[Value.ref b] s) (entryFrame m ([Value.ref b] : List Value).toArray 4) := by
  obtain ⟨hx, hb, hr, hml, hown, hts, hX, hbl, hlocks, hgv⟩ := id C0
  obtain ⟨D, cI, cH, cS, hK⟩ := law_K hts
  obtain ⟨adK, adV, x1, x2, x3, x4, x5⟩ := law_X hts hgv (A := fun q => s.heap.size ≤ q) (fun a h => Nat.not_le.mpr h)
  obtain ⟨E, hEd⟩ : ∃ E : En, E = (D, cI, cH, cS, s.heap.size, 0, (fun _ => 0), adK, adV) := ⟨_, rfl⟩
  have hAe : eA E = fun q => s.heap.size ≤ q := by rw [hEd]; rfl
  obtain ⟨x, hxd⟩ : ∃ x : Cx, x = (p, l, e, room_1, s, m, #[Value.ref b], below, meth, c, lw_Z below #[Value.ref b] s) := ⟨_, rfl⟩
  have C : CX x code RL room_1 := by rw [hxd]; exact ⟨hx, hb, rfl, hown, fun w hw => hts w (lw_gd_sub w hw)⟩
  have hs : Cst x = s := by rw [hxd]
  have hE : CE E (Cst x) (Cst x).heap := by
    rw [hs, hEd]
    exact ⟨⟨x1, x2, x3, x4, x5⟩, Nat.le_refl _⟩
  have hao : AO (Cst x) := by
    rw [hs]
    exact ⟨va_AO.of (hts (.arrayOver (.object RX1)) (by decide +kernel)), va_AO.of (hts (.arrayOver (.object RX3)) (by decide +kernel))⟩
  have hdc : DC (Cst x) := by
    rw [hs]
    exact ⟨va_Nw.of rfl (hts (.declares yWgu) (by decide +kernel)), va_Nw.of rfl (hts (.declares yWlk) (by decide +kernel))⟩
  have hX' : va_X b L xs (Cst x) (Cst x).heap := by rw [hs]; exact hX
  have hbl' : b < (Cst x).heap.size := by rw [hs]; exact hbl
  have hbA : ¬ eA E b := by rw [hAe]; exact Nat.not_le.mpr hbl
  have hend : ∀ (P : Heap → Prop) (k n : Nat) (L' : List (Option Value)), k ≤ 900 → n ≤ 3000 → V x (eA E) P k n 1496 L' [] := by
    intro P k n L' hk hn
    subst hxd
    exact law_end C hr hlocks (fun q hq => by rw [hAe] at hq; exact hq) (by omega) (by omega)
  have hV : V x (eA E) (WP x E []) 0 0 0 (lst 4 [.ref b]) [] := by
    refine V_L (L' := [some (.ref b), none, none, none]) rfl ?_
    refine V_newc (ci := 8) (fs := [.null, .null, .null, .null, .null, .null, .null, .null, .null, .int 0, .int 0]) C hE dlaw_0 in_X8 tyX8_ok q80 q81 q63 rfl (fun j hj => by rcases (show j = 0 ∨ j = 1 ∨ j = 2 ∨ j = 3 ∨ j = 4 ∨ j = 5 ∨ j = 6 ∨ j = 7 ∨ j = 8 ∨ j = 9 ∨ j = 10 by omega) with rfl | rfl | rfl | rfl | rfl | rfl | rfl | rfl | rfl | rfl | rfl <;> rfl) rfl rfl (fun q8 => ?_)
    refine V_dup C dlaw_3 rfl ?_
    refine V_to (P' := fun H => PO E _ (Cst x) H) (fun _ h => ⟨h, hao⟩) rfl rfl ?_
    refine V_callI C hE dlaw_4 (c_X8_init (q := q8)) kNyX8_init q82 ⟨rfl, q83⟩ ⟨Nat.le_of_ble_eq_true rfl, Nat.le_of_ble_eq_true rfl⟩ ⟨rfl, rfl⟩ rfl ⟨Nat.le_of_ble_eq_true rfl, Nat.le_of_ble_eq_true rfl⟩ rfl (Nat.le_of_ble_eq_true rfl) PM_O (fun _ => PM_O) ?_
    rintro r ⟨v, u, w⟩ rfl
    refine V_to (P' := WP x E _) (fun _ h => h.1) rfl rfl ?_
    refine V_astore_n C dlaw_7 rfl ?_
    refine V_newc (ci := 9) (fs := [.null, .null, .null, .null, .int 0, .int 0, .int 0, .int 0, .int 0, .int 0, .null, .null, .int 0, .int 0, .int 0, .int 0, .null, .int 0, .int 0, .int 0, .int 0, .int 0, .null, .null, .null, .null]) C hE dlaw_8 in_X9 tyX9_ok q901 q902 q68 rfl (fun j hj => by rcases (show j = 0 ∨ j = 1 ∨ j = 2 ∨ j = 3 ∨ j = 4 ∨ j = 5 ∨ j = 6 ∨ j = 7 ∨ j = 8 ∨ j = 9 ∨ j = 10 ∨ j = 11 ∨ j = 12 ∨ j = 13 ∨ j = 14 ∨ j = 15 ∨ j = 16 ∨ j = 17 ∨ j = 18 ∨ j = 19 ∨ j = 20 ∨ j = 21 ∨ j = 22 ∨ j = 23 ∨ j = 24 ∨ j = 25 by omega) with rfl | rfl | rfl | rfl | rfl | rfl | rfl | rfl | rfl | rfl | rfl | rfl | rfl | rfl | rfl | rfl | rfl | rfl | rfl | rfl | rfl | rfl | rfl | rfl | rfl | rfl <;> rfl) rfl rfl (fun q9 => ?_)
    refine V_dup C dlaw_11 rfl ?_
    refine V_to (P' := fun H => PW E _ (Cst x) H) (fun _ h => h) rfl rfl ?_
    refine V_callI C hE dlaw_12 (c_X9_init (q := q9)) kNyX9_init q903 ⟨rfl, q904⟩ ⟨Nat.le_of_ble_eq_true rfl, Nat.le_of_ble_eq_true rfl⟩ ⟨rfl, rfl⟩ rfl ⟨Nat.le_of_ble_eq_true rfl, Nat.le_of_ble_eq_true rfl⟩ rfl (Nat.le_of_ble_eq_true rfl) PM_W (fun _ => PM_W) ?_
    rintro r mm rfl
    refine V_astore_n C dlaw_15 rfl ?_
    refine V_iconst C 0 dlaw_16 (by decide) ?_
    refine V_istore_n C dlaw_17 rfl ?_
    have hLX : LX x b L xs (fstE E v u w mm q8 q9) := ⟨C, hE, hX', hbl', hbA, hL, hdc, rfl⟩
    refine V_to (P' := AP x (fstE E v u w mm q8 q9) sig0) (L' := LL (fstE E v u w mm q8 q9) b 0) (fun H hP => PA_first hP) rfl rfl ?_
    exact law_loop hLX (fun P k n i hk hn => hend P k n _ hk hn) 512 0 _ _ sig0 Rel_0 (by omega) (by omega) (by decide) (by decide)
  subst hxd
  have hl := lv_entry ([Value.ref b]) (n := 4) (Nat.le_of_ble_eq_true rfl)
  rw [lg_entry_eq]
  refine hV s.heap [] _ ⟨by rw [hEd]; exact hK, fun k q h => by simp at h, ⟨fun i j p q h => by simp at h, fun k q h => by simp at h⟩⟩ va_S.rf ⟨?_, ?_⟩
  · rw [hml]; rfl
  · rw [hml]; unfold lst; rw [lvL_app, lvL_none, List.append_nil, lvL_lst0]; exact hl
