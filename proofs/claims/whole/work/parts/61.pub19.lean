theorem q859 : Cond.classLink RX8 273 RX0 ∈ lw_gd := gd 859 (by decide +kernel) rfl
theorem q860 : Cond.instantiable RX0 2 ∈ lw_gd := gd 860 (by decide +kernel) rfl
theorem q862 : Cond.instanceMethod yX0_init ∈ lw_gd := gd 862 (by decide +kernel) rfl
theorem q863 : Cond.code yX0_init cX0_init 2 none ∈ lw_gd := gd 863 (by decide +kernel) rfl
theorem kNyX0_init : KN yX0_init cX0_init 2 none 1 := ⟨q79, q863, by decide +kernel⟩
theorem V_callI {x : Cx} {cc : ByteArray} {own : String} {R : Room} {E : En} {k n pc pc' : Nat} {L : List (Option Value)} {st : List Value} (C : CX x cc own R) (hE : CE E (xs x) (xs x).heap) {idx nn ynL mc ms : Nat} {b : Nat} {As rest : List Value} {y : MethodName} {ycc : ByteArray} {rm : Room} {P : State → Heap → Prop} {S : Type} {post : Option Value → S → Prop} {P' : S → State → Heap → Prop}
    (hd : D1 cc pc (.invokespecial idx) 3 pc') (hM : MG (xl x) y ycc ynL none rm mc ms E (.ref b :: As) P post P') (hk : KN y ycc ynL none nn) (hl : Cond.methodLink own idx y ∈ lw_gd) (hin : y.name = "<init>" ∧ Cond.instanceMethod y ∈ lw_gd) (hro : RO rm ynL R) (hcc : rm.cells = mc ∧ rm.slots = ms) (hnn : As.length = nn) (hc : k + mc ≤ R.cells ∧ n + ms ≤ R.slots) (hst : st = As.reverse ++ .ref b :: rest) (hrest : (rest.map fun v => v.category).sum ≤ 8) (hPM : PM P) (hPM' : ∀ u, PM (P' u))
    (kk : ∀ (r : Option Value) (u : S), post r u → V x (eA E) (fun H => P' u (xs x) H) (k + mc) (n + ms) pc' L (r.toList ++ rest)) : V x (eA E) (fun H => P (xs x) H) k n pc L st := by
  obtain ⟨p, l, e, R', s, m, args, below, meth, c, Q⟩ := x
  obtain ⟨hx, hb, hR, hown, hts⟩ := C
  obtain ⟨hd, rfl⟩ := hd
  obtain ⟨k3, k4, k5⟩ := hk
  have hR : R' = R := hR
  subst hR
  subst hst
  intro H locs ls hPH hS hL
  have hG : GoodIn lw_gd (.code y ycc ynL none :: lw_gd) := fun w hw => lw_gd_ok w (by
    simp only [List.mem_cons] at hw
    rcases hw with rfl | h <;> assumption)
  refine callG (va_runI (As := As) (rest := rest) (nL := c.maxLocals) ⟨hx, hb, rfl, hown, hts⟩ hM (cwI nn hts hG rfl hcc.1 hcc.2 (hts _ k3) (hts _ hl) (hts _ hin.2) hin.1 k5 hro) ⟨?_, ?_⟩ rfl hnn (by rw [hL.2.1]) rfl (lv_room hrest) hd hc) hS (fun _ h => h) ?_
  · intro a U g mk q
    exact ⟨q.1, hPM _ _ _ (Vm.Alike.refl U.vm) q.2.1, XS.same (u := U) rfl q.2.2.1, q.2.2.2⟩
  · intro U hU hW
    refine ⟨rfl, by rw [hU]; exact hPM _ _ _ hW.alike hPH, ?_, by rw [hU]; exact Nat.le_trans hE.2 hS.1⟩
    rw [hU]
    exact (hE.1.kept (fun a h1 h2 => hS.2.1 a h1 h2)).warm hW
  · intro r u t H1 locs1 ht hvm hp hB hS1
    exact kk r u hp H1 locs1 ls (by rw [← ht]; exact hPM' u _ _ _ hvm.symm hB) hS1 hL
theorem PZ_failW {σ σ1 u : Sg} {S : Rs} {j : Nat} (hS : S = .inl j) (hu : EqX σ u) : PZ σ S σ1 (some (.int (-1000001 - nI j))) (us u 62 (upd (u 62) j (u 62 j + 1))) := PZ_fail hS hu

def rnX8_diary : Room := { frames := rmX8_diary.frames, cells := 1, slots := 2, locals := rmX8_diary.locals }

theorem c_X8_diary {l : Launch} {E : En} {σ : Sg} {p0 p1 : Int32} (h0 : eW E = 0) (hG : GV (σ 0)) (hq4 : Q4 (σ 0) 20000) (hln : ∀ s, s < 4 → ∃ n, n ≤ 40 ∧ σ (shc s) 2 = nI n) : MG l yX8_diary cX8_diary 6 (some .int) rnX8_diary 1 2 E [.ref (ad E 60), .int p0, .int p1] (PT E σ) (PX σ (S_diary σ p0 p1) (σ 0)) (fun u => PA E u) := by
  refine MG_of (by decide +kernel) rfl fun x C hE hT => V_use fun _ hP0 => ?_
  have C : CX x cX8_diary RX8 rnX8_diary := C
  have hdc : DC (xs x) := hP0.2
  refine V_to (P' := AP x E σ) (fun _ h => h.1) rfl rfl ?_
  refine V_L (L' := [some (.ref (ad E 60)), some (.int p0), some (.int p1), none, none, none]) rfl ?_
  refine V_aload_n C dX8_diary_0 rfl ?_
  refine V_iload_n C dX8_diary_1 rfl ?_
  by_cases hq : inP p0 0 3
  · obtain ⟨s, rfl, hs3⟩ := i32_le (m := 3) (by omega) hq.1 hq.2
    have hs : s < 4 := by omega
    have hks : hk (nI s) = s := hk_n (by omega)
    obtain ⟨mm, hm, hml⟩ := hln s hs
    refine V_cv C hE dX8_diary_2 (c_X8_sheetAt hs) kyX8_sheetAt q810 (isoO 60 rfl rfl rfl rfl) rfl rfl rfl ?_
    refine V_astore_n C dX8_diary_5 rfl ?_
    refine V_aload_n C dX8_diary_6 rfl ?_
    refine V_ifnonnull C dX8_diary_7 ?_
    refine V_aload_n C dX8_diary_16 rfl ?_
    by_cases hb : σ (shc s) 1 = 0
    · refine V_cv C hE dX8_diary_17 (c_X3_isMissing hs) kyX3_isMissing q822 (isoSh (by first | assumption | omega)) rfl rfl rfl ?_
      refine V_ifeq_b C dX8_diary_20 (fun c20 => absurd (hb) c20) (fun c20 => ?_)
      refine V_aload_n C dX8_diary_23 rfl ?_
      refine V_iconst C 5 dX8_diary_24 (by decide) ?_
      refine V_cv C hE dX8_diary_25 (c_X8_fail (j := 5) (by omega)) kyX8_fail q273 (isoO 60 rfl rfl rfl rfl) rfl rfl rfl ?_
      refine V_widen (k' := 1) (n' := 2) (by omega) (by omega) ?_
      exact V_iret C (u := _) dX8_diary_28 hT (PX_fail (by unfold S_diary; rw [if_pos hq, hks, if_pos hb]) (EqX.rf σ)) (fun _ h => h) PM_A
    · refine V_cv C hE dX8_diary_17 (c_X3_isMissing hs) kyX3_isMissing q822 (isoSh (by first | assumption | omega)) rfl rfl rfl ?_
      refine V_ifeq_b C dX8_diary_20 (fun c20 => ?_) (fun c20 => absurd c20 (hb))
      refine V_aload_n C dX8_diary_29 rfl ?_
      refine V_iload_n C dX8_diary_30 rfl ?_
      refine V_cv C hE dX8_diary_31 (c_X8_roundFinding) kyX8_roundFinding q522 (isoO 60 rfl rfl rfl rfl) rfl rfl rfl ?_
      by_cases hst : inP p1 1 12
      · by_cases hc : 0 < σ 0 3 ∨ σ 0 1 = 0 ∨ 9700 < σ 0 0
        · refine V_st (st' := [.int 4]) (by unfold finR; rw [if_neg (fun z => z hst), if_pos hc]) ?_
          refine V_istore C dX8_diary_34 rfl ?_
          refine V_iload C dX8_diary_36 rfl ?_
          refine V_if_lt C dX8_diary_38 (fun c38 => absurd c38 (by decide)) (fun c38 => ?_)
          refine V_aload_n C dX8_diary_41 rfl ?_
          refine V_iload C dX8_diary_42 rfl ?_
          refine V_cv C hE dX8_diary_44 (c_X8_fail (j := 4) (by omega)) kyX8_fail q273 (isoO 60 rfl rfl rfl rfl) rfl rfl rfl ?_
          refine V_widen (k' := 1) (n' := 2) (by omega) (by omega) ?_
          exact V_iret C (u := _) dX8_diary_47 hT (PX_fail (by unfold S_diary; rw [if_pos hq, hks, if_neg hb, if_pos hst, if_pos hc]) (EqX.rf σ)) (fun _ h => h) PM_A
        · refine V_st (st' := [.int (-1)]) (by unfold finR; rw [if_neg (fun z => z hst), if_neg hc]) ?_
          refine V_istore C dX8_diary_34 rfl ?_
          refine V_iload C dX8_diary_36 rfl ?_
          refine V_if_lt C dX8_diary_38 (fun c38 => ?_) (fun c38 => absurd (by decide) c38)
          refine V_raw fun ρ hA => ?_
          refine V_to (P' := WP x E (wld E ρ)) (fun _ h => h) rfl rfl ?_
          refine V_new (ci := 0) (fs := [.null, .int 0]) C hE dX8_diary_48 in_X0 tyX0_ok q859 q860 q79 rfl (fun j hj => by rcases (show j = 0 ∨ j = 1 by omega) with rfl | rfl <;> rfl) rfl rfl (fun q => ?_)
          refine V_dup C dX8_diary_51 rfl ?_
          refine V_aload_n C dX8_diary_52 rfl ?_
          refine V_callI C hE dX8_diary_53 (c_X0_init (k := 85) (q := q) (p := ad E (shc s)) (wld_last h0)) kNyX0_init q861 ⟨rfl, q862⟩ ⟨Nat.le_of_ble_eq_true rfl, Nat.le_of_ble_eq_true rfl⟩ ⟨rfl, rfl⟩ rfl ⟨Nat.le_of_ble_eq_true rfl, Nat.le_of_ble_eq_true rfl⟩ rfl (Nat.le_of_ble_eq_true rfl) PM_W (fun _ => PM_W) ?_
          rintro r u rfl
          rw [wld_setL h0]
          refine PA_lift (w := 3 + s) (σ := σ) (f := (fun _ => 0)) h0 (by omega) ((cel85_3 rfl hs _).trans (by rw [ad_mk E (3+s) q (show shc s < 85 by unfold shc; omega)])) hA rfl rfl ?_
          have hE' : CE (mkE E (3 + s) q) (xs x) (xs x).heap := hE
          refine V_astore C dX8_diary_56 rfl ?_
          refine V_aload_n C dX8_diary_58 rfl ?_
          refine V_iload_n C dX8_diary_59 rfl ?_
          refine V_aload C dX8_diary_60 rfl ?_
          refine V_to (P' := TP x (mkE E (3 + s) q) (us σ 85 (fun _ => 0))) (fun _ h => ⟨h, hdc⟩) rfl rfl ?_
          refine V_call C hE' dX8_diary_62 (c_X8_tryThrees2 (E := (mkE E (3 + s) q)) (σ := (us σ 85 (fun _ => 0))) (s := p1) (f := σ 0) (Bi := (0, 0)) (ss := s) (m := mm) (g := σ (nmc s)) rfl hs hm (by rw [us_n (by unfold shc; omega)]; exact hml) (us_n (by unfold nmc; omega)) (us_n (by omega)) hG hq4 hst ⟨fun z => absurd z (by omega), fun z => absurd z (by omega), fun _ => by rw [us_s]⟩) kyX8_tryThrees q570 (fun H hH => (isoO (E := (mkE E (3 + s) q)) 60 rfl rfl rfl rfl) H hH.1) ⟨Nat.le_of_ble_eq_true rfl, Nat.le_of_ble_eq_true rfl⟩ ⟨rfl, rfl⟩ rfl ⟨Nat.le_of_ble_eq_true rfl, Nat.le_of_ble_eq_true rfl⟩ rfl (Nat.le_of_ble_eq_true rfl) PM_T (fun _ => PM_A) ?_
          rintro r u ⟨rfl, hX, hB⟩
          have hb1 : u 85 1 = (bst 2 (σ (nmc s)) mm p1 (σ 0)).1 := hB.2.2 rfl
          refine V_aload C dX8_diary_65 rfl ?_
          refine V_getN C hE.nw dX8_diary_67 (rd85 (E := (mkE E (3 + s) q)) (j := 1) (by show 3 + s ≠ 0; omega) (cel85_3 rfl hs _) rfl rfl) in_X0 (by decide) q867 rfl ?_
          exact V_iret C (u := us u 85 (σ 85)) dX8_diary_70 hT (PX_rd (by unfold S_diary; rw [if_pos hq, hks, if_neg hb, if_pos hst, if_neg hc, hb1, show hk (σ (shc s) 2) = mm by rw [hml]; exact hk_n (by omega)]) hX.out) (fun H h => PA_drop (w := 3 + s) (q := q) h0 (by omega) h) PM_A
      · refine V_st (st' := [.int 0]) (by unfold finR; rw [if_pos hst]) ?_
        refine V_istore C dX8_diary_34 rfl ?_
        refine V_iload C dX8_diary_36 rfl ?_
        refine V_if_lt C dX8_diary_38 (fun c38 => absurd c38 (by decide)) (fun c38 => ?_)
        refine V_aload_n C dX8_diary_41 rfl ?_
        refine V_iload C dX8_diary_42 rfl ?_
        refine V_cv C hE dX8_diary_44 (c_X8_fail (j := 0) (by omega)) kyX8_fail q273 (isoO 60 rfl rfl rfl rfl) rfl rfl rfl ?_
        refine V_widen (k' := 1) (n' := 2) (by omega) (by omega) ?_
        exact V_iret C (u := _) dX8_diary_47 hT (PX_fail (by unfold S_diary; rw [if_pos hq, hks, if_neg hb, if_neg hst]) (EqX.rf σ)) (fun _ h => h) PM_A
  · refine V_cv C hE dX8_diary_2 (c_X8_sheetAtN hq) kyX8_sheetAt q810 (isoO 60 rfl rfl rfl rfl) rfl rfl rfl ?_
    refine V_astore_nN C dX8_diary_5 rfl ?_
    refine V_aload_nN C dX8_diary_6 rfl ?_
    refine V_ifnonnullN C dX8_diary_7 ?_
    refine V_aload_n C dX8_diary_10 rfl ?_
    refine V_iconst C 0 dX8_diary_11 (by decide) ?_
    refine V_cv C hE dX8_diary_12 (c_X8_fail (j := 0) (by omega)) kyX8_fail q273 (isoO 60 rfl rfl rfl rfl) rfl rfl rfl ?_
    refine V_widen (k' := 1) (n' := 2) (by omega) (by omega) ?_
    exact V_iret C (u := _) dX8_diary_15 hT (PX_fail (by unfold S_diary; rw [if_neg hq]) (EqX.rf σ)) (fun _ h => h) PM_A

