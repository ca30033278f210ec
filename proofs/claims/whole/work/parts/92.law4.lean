/-! THE LAW'S LOOP -/
theorem law_end {p : Program} {l : Launch} {e : Env} {s : State} {m : MethodId} {below : List Frame} {meth : Method} {c : Code} {b : Nat} {A : Nat → Prop} {P : Heap → Prop} {k n : Nat} {L : List (Option Value)} (C : CX (p, l, e, room_1, s, m, #[Value.ref b], below, meth, c, lw_Z below #[Value.ref b] s) code RL room_1) (hr : meth.sig.returnType = ret) (hlocks : meth.locks = false) (hA : ∀ q, A q → s.heap.size ≤ q) (hk : k ≤ 600000) (hn : n ≤ 7302250) : V (p, l, e, room_1, s, m, #[Value.ref b], below, meth, c, lw_Z below #[Value.ref b] s) A P k n 1496 L [] := by
  refine V_iconst C 1 dlaw_1496 (by decide) ?_
  obtain ⟨hx, hb, hR, hown, hts⟩ := C
  intro H locs ls hP hS hL
  refine va_forget (fun q hq => hA _ (hS.2.2 q hq)) ?_
  refine W.widen (k := 600000) (n := 7302250) hk hn ?_
  exact lw_ret hx hb hr hlocks dlaw_1497.1
theorem lw_le {i Ln : Nat} (hi : i ≤ 4000) (hl : Ln ≤ 3072) (h : ¬ nI Ln - 6 < nI i) : i + 6 ≤ Ln := by
  have h := Int32.not_lt.mp h
  by_cases h6 : 6 ≤ Ln
  · have e : nI Ln - 6 = nI (Ln - 6) := nI_msub (b := 6) h6
    rw [e] at h
    have := (nI_leI (a := i) (b := Ln - 6) (by omega) (by omega)).mp h
    omega
  · exfalso
    rcases (show Ln = 0 ∨ Ln = 1 ∨ Ln = 2 ∨ Ln = 3 ∨ Ln = 4 ∨ Ln = 5 by omega) with rfl | rfl | rfl | rfl | rfl | rfl
    all_goals
      rw [Int32.le_iff_toInt_le, nI_toInt (by omega)] at h
      revert h
      generalize hz : (nI _ - 6 : Int32).toInt = z
      have hz2 : z < 0 := by rw [← hz]; decide
      intro h
      omega
theorem law_loop {x : Cx} {b Ln : Nat} {ys : Nat → Int32} {E : En} (h : LX x b Ln ys E) (hend : ∀ (P : Heap → Prop) (k n i : Nat), k ≤ 900 → n ≤ 3000 → V x (eA E) P k n 1496 (LL E b i) []) : ∀ (d i k n : Nat) (σ : Sg), Rel σ → Ln ≤ i + 6 * d → i ≤ 3100 → k + d ≤ 800 → n + 2 * d ≤ 2900 → V x (eA E) (AP x E σ) k n 18 (LL E b i) [] := by
  obtain ⟨C, hE, hX, hbl, hbA, hln, hdc, h0⟩ := id h
  intro d
  induction d with
  | zero =>
    intro i k n σ hR hd hi hk hn
    refine V_iload_n C dlaw_18 rfl ?_
    refine V_aload_n C dlaw_19 rfl ?_
    refine V_slen C hX hbl hbA dlaw_20 ?_
    refine V_bipush C 6 dlaw_21 (by decide) ?_
    refine V_isub C dlaw_23 ?_
    refine V_icmp_gt C dlaw_24 (fun _ => hend _ _ _ _ (by omega) (by omega)) (fun hc => ?_)
    exact absurd (lw_le (by omega) hln hc) (by omega)
  | succ d ih =>
    intro i k n σ hR hd hi hk hn
    refine V_iload_n C dlaw_18 rfl ?_
    refine V_aload_n C dlaw_19 rfl ?_
    refine V_slen C hX hbl hbA dlaw_20 ?_
    refine V_bipush C 6 dlaw_21 (by decide) ?_
    refine V_isub C dlaw_23 ?_
    refine V_icmp_gt C dlaw_24 (fun _ => hend _ _ _ _ (by omega) (by omega)) (fun hc => ?_)
    have h6 := lw_le (by omega) hln hc
    have hnx : LN x E b i k n := by
      intro u k' n' hRu hk' hn'
      refine V_iinc C 6 dlaw_1490 rfl (by decide) rfl ?_
      refine V_goto C dlaw_1493 ?_
      refine V_to (L' := LL E b (i + 6)) (fun _ hP => hP) ?_ rfl (ih (i + 6) k' n' u hRu (by omega) (by omega) (by omega) (by omega))
      show [some (Value.ref b), some (Value.ref (ad E 60)), some (Value.ref (ad E 73)), some (Value.int (nI i + 6))] = _
      rw [show nI i + 6 = nI (i + 6) from nI_add i 6]
    have hN := RelN_nmz hR
    refine V_to (P' := AP x E (nmz σ)) (fun _ hP => PA_nmz hR hP) rfl rfl ?_
    refine V_aload_n C dlaw_27 rfl ?_
    refine V_iload_n C dlaw_28 rfl ?_
    refine V_sld C hX hbl hbA rfl (by omega) hln dlaw_29 ?_
    refine V_bipush C 63 dlaw_30 (by decide) ?_
    refine V_iand C dlaw_32 ?_
    generalize ys i &&& 63 = v
    rcases sw_x 45 (by omega) v with ⟨j, hj, rfl⟩ | hsw
    · rcases (show j = 0 ∨ j = 1 ∨ j = 2 ∨ j = 3 ∨ j = 4 ∨ j = 5 ∨ j = 6 ∨ j = 7 ∨ j = 8 ∨ j = 9 ∨ j = 10 ∨ j = 11 ∨ j = 12 ∨ j = 13 ∨ j = 14 ∨ j = 15 ∨ j = 16 ∨ j = 17 ∨ j = 18 ∨ j = 19 ∨ j = 20 ∨ j = 21 ∨ j = 22 ∨ j = 23 ∨ j = 24 ∨ j = 25 ∨ j = 26 ∨ j = 27 ∨ j = 28 ∨ j = 29 ∨ j = 30 ∨ j = 31 ∨ j = 32 ∨ j = 33 ∨ j = 34 ∨ j = 35 ∨ j = 36 ∨ j = 37 ∨ j = 38 ∨ j = 39 ∨ j = 40 ∨ j = 41 ∨ j = 42 ∨ j = 43 ∨ j = 44 ∨ j = 45 by omega) with rfl | rfl | rfl | rfl | rfl | rfl | rfl | rfl | rfl | rfl | rfl | rfl | rfl | rfl | rfl | rfl | rfl | rfl | rfl | rfl | rfl | rfl | rfl | rfl | rfl | rfl | rfl | rfl | rfl | rfl | rfl | rfl | rfl | rfl | rfl | rfl | rfl | rfl | rfl | rfl | rfl | rfl | rfl | rfl | rfl | rfl
      · exact V_tableIn (tgt := 232) C dlaw_33 (by decide) (by decide) rfl (by decide) (lawc_0 h h6 (by omega) (by omega) hN hnx)
      · exact V_tableIn (tgt := 255) C dlaw_33 (by decide) (by decide) rfl (by decide) (lawc_1 h h6 (by omega) (by omega) hN hnx)
      · exact V_tableIn (tgt := 288) C dlaw_33 (by decide) (by decide) rfl (by decide) (lawc_2 h h6 (by omega) (by omega) hN hnx)
      · exact V_tableIn (tgt := 331) C dlaw_33 (by decide) (by decide) rfl (by decide) (lawc_3 h h6 (by omega) (by omega) hN hnx)
      · exact V_tableIn (tgt := 364) C dlaw_33 (by decide) (by decide) rfl (by decide) (lawc_4 h h6 (by omega) (by omega) hN hnx)
      · exact V_tableIn (tgt := 397) C dlaw_33 (by decide) (by decide) rfl (by decide) (lawc_5 h h6 (by omega) (by omega) hN hnx)
      · exact V_tableIn (tgt := 440) C dlaw_33 (by decide) (by decide) rfl (by decide) (lawc_6 h h6 (by omega) (by omega) hN hnx)
      · exact V_tableIn (tgt := 473) C dlaw_33 (by decide) (by decide) rfl (by decide) (lawc_7 h h6 (by omega) (by omega) hN hnx)
      · exact V_tableIn (tgt := 496) C dlaw_33 (by decide) (by decide) rfl (by decide) (lawc_8 h h6 (by omega) (by omega) hN hnx)
      · exact V_tableIn (tgt := 519) C dlaw_33 (by decide) (by decide) rfl (by decide) (lawc_9 h h6 (by omega) (by omega) hN hnx)
      · exact V_tableIn (tgt := 542) C dlaw_33 (by decide) (by decide) rfl (by decide) (lawc_10 h h6 (by omega) (by omega) hN hnx)
      · exact V_tableIn (tgt := 575) C dlaw_33 (by decide) (by decide) rfl (by decide) (lawc_11 h h6 (by omega) (by omega) hN hnx)
      · exact V_tableIn (tgt := 598) C dlaw_33 (by decide) (by decide) rfl (by decide) (lawc_12 h h6 (by omega) (by omega) hN hnx)
      · exact V_tableIn (tgt := 621) C dlaw_33 (by decide) (by decide) rfl (by decide) (lawc_13 h h6 (by omega) (by omega) hN hnx)
      · exact V_tableIn (tgt := 644) C dlaw_33 (by decide) (by decide) rfl (by decide) (lawc_14 h h6 (by omega) (by omega) hN hnx)
      · exact V_tableIn (tgt := 667) C dlaw_33 (by decide) (by decide) rfl (by decide) (lawc_15 h h6 (by omega) (by omega) hN hnx)
      · exact V_tableIn (tgt := 700) C dlaw_33 (by decide) (by decide) rfl (by decide) (lawc_16 h h6 (by omega) (by omega) hN hnx)
      · exact V_tableIn (tgt := 733) C dlaw_33 (by decide) (by decide) rfl (by decide) (lawc_17 h h6 (by omega) (by omega) hN hnx)
      · exact V_tableIn (tgt := 766) C dlaw_33 (by decide) (by decide) rfl (by decide) (lawc_18 h h6 (by omega) (by omega) hN hnx)
      · exact V_tableIn (tgt := 789) C dlaw_33 (by decide) (by decide) rfl (by decide) (lawc_19 h h6 (by omega) (by omega) hN hnx)
      · exact V_tableIn (tgt := 822) C dlaw_33 (by decide) (by decide) rfl (by decide) (lawc_20 h h6 (by omega) (by omega) hN hnx)
      · exact V_tableIn (tgt := 845) C dlaw_33 (by decide) (by decide) rfl (by decide) (lawc_21 h h6 (by omega) (by omega) hN hnx)
      · exact V_tableIn (tgt := 868) C dlaw_33 (by decide) (by decide) rfl (by decide) (lawc_22 h h6 (by omega) (by omega) hN hnx)
      · exact V_tableIn (tgt := 891) C dlaw_33 (by decide) (by decide) rfl (by decide) (lawc_23 h h6 (by omega) (by omega) hN hnx)
      · exact V_tableIn (tgt := 914) C dlaw_33 (by decide) (by decide) rfl (by decide) (lawc_24 h h6 (by omega) (by omega) hN hnx)
      · exact V_tableIn (tgt := 927) C dlaw_33 (by decide) (by decide) rfl (by decide) (lawc_25 h h6 (by omega) (by omega) hN hnx)
      · exact V_tableIn (tgt := 950) C dlaw_33 (by decide) (by decide) rfl (by decide) (lawc_26 h h6 (by omega) (by omega) hN hnx)
      · exact V_tableIn (tgt := 963) C dlaw_33 (by decide) (by decide) rfl (by decide) (lawc_27 h h6 (by omega) (by omega) hN hnx)
      · exact V_tableIn (tgt := 986) C dlaw_33 (by decide) (by decide) rfl (by decide) (lawc_28 h h6 (by omega) (by omega) hN hnx)
      · exact V_tableIn (tgt := 1009) C dlaw_33 (by decide) (by decide) rfl (by decide) (lawc_29 h h6 (by omega) (by omega) hN hnx)
      · exact V_tableIn (tgt := 1042) C dlaw_33 (by decide) (by decide) rfl (by decide) (lawc_30 h h6 (by omega) (by omega) hN hnx)
      · exact V_tableIn (tgt := 1055) C dlaw_33 (by decide) (by decide) rfl (by decide) (lawc_31 h h6 (by omega) (by omega) hN hnx)
      · exact V_tableIn (tgt := 1068) C dlaw_33 (by decide) (by decide) rfl (by decide) (lawc_32 h h6 (by omega) (by omega) hN hnx)
      · exact V_tableIn (tgt := 1101) C dlaw_33 (by decide) (by decide) rfl (by decide) (lawc_33 h h6 (by omega) (by omega) hN hnx)
      · exact V_tableIn (tgt := 1134) C dlaw_33 (by decide) (by decide) rfl (by decide) (lawc_34 h h6 (by omega) (by omega) hN hnx)
      · exact V_tableIn (tgt := 1177) C dlaw_33 (by decide) (by decide) rfl (by decide) (lawc_35 h h6 (by omega) (by omega) hN hnx)
      · exact V_tableIn (tgt := 1220) C dlaw_33 (by decide) (by decide) rfl (by decide) (lawc_36 h h6 (by omega) (by omega) hN hnx)
      · exact V_tableIn (tgt := 1283) C dlaw_33 (by decide) (by decide) rfl (by decide) (lawc_37 h h6 (by omega) (by omega) hN hnx)
      · exact V_tableIn (tgt := 1306) C dlaw_33 (by decide) (by decide) rfl (by decide) (lawc_38 h h6 (by omega) (by omega) hN hnx)
      · exact V_tableIn (tgt := 1339) C dlaw_33 (by decide) (by decide) rfl (by decide) (lawc_39 h h6 (by omega) (by omega) hN hnx)
      · exact V_tableIn (tgt := 1372) C dlaw_33 (by decide) (by decide) rfl (by decide) (lawc_40 h h6 (by omega) (by omega) hN hnx)
      · exact V_tableIn (tgt := 1405) C dlaw_33 (by decide) (by decide) rfl (by decide) (lawc_41 h h6 (by omega) (by omega) hN hnx)
      · exact V_tableIn (tgt := 1418) C dlaw_33 (by decide) (by decide) rfl (by decide) (lawc_42 h h6 (by omega) (by omega) hN hnx)
      · exact V_tableIn (tgt := 1431) C dlaw_33 (by decide) (by decide) rfl (by decide) (lawc_43 h h6 (by omega) (by omega) hN hnx)
      · exact V_tableIn (tgt := 1444) C dlaw_33 (by decide) (by decide) rfl (by decide) (lawc_44 h h6 (by omega) (by omega) hN hnx)
      · exact V_tableIn (tgt := 1467) C dlaw_33 (by decide) (by decide) rfl (by decide) (lawc_45 h h6 (by omega) (by omega) hN hnx)
    · exact V_tableOut (tgt := 1490) C dlaw_33 hsw (by decide) (hnx _ _ _ hN.1 (by omega) (by omega))
