/-- the method is a constructor -/
def XI (x : Cx) : Prop := match x with | (_, _, _, _, _, _, _, _, meth, _, _) => meth.name = "<init>"
theorem MG_ofI {l : Launch} {y : MethodName} {cc : ByteArray} {nL : Nat} {ret : Option FieldType} {rm : Room} {mc ms : Nat} {E : En} {av : List Value} {P : State → Heap → Prop} {S : Type} {post : Option Value → S → Prop} {P' : S → State → Heap → Prop}
    (hy : plainName y.cls = true) (hyi : y.name = "<init>") (hn : Nat.ble (lst0 av).length nL = true)
    (body : ∀ x : Cx, CX x cc y.cls rm → XI x → CE E (xs x) (xs x).heap → RT x ret E post P' mc ms → V x (eA E) (fun H => P (xs x) H) 0 0 0 (lst nL av) []) : MG l y cc nL ret rm mc ms E av P post P' := by
  refine Met.ofW hy rfl ?_
  intro p e s m args below meth c s₁ B hml hv
  obtain ⟨rfl, hP, hE⟩ := hv
  have hts := atoms_spec (ws := .code y cc nL ret :: lw_gd) B.pre
  have hb := body (p, l, e, rm, s, m, av.toArray, below, meth, c, _) ⟨B.exec, B.bytes, rfl, findClass_of_methodNamed B.named, fun w hw => hts w (List.mem_cons_of_mem _ hw)⟩ ((name_of_methodNamed B.named B.method).1.trans hyi) hE ⟨rfl, B.returns, B.notSynchronized⟩
  have hn' : (lg_sl av).length ≤ nL := by rw [← lst0_len]; exact Nat.le_of_ble_eq_true hn
  have hl := lv_entry av (n := nL) hn'
  rw [lg_entry_eq]
  refine hb s.heap [] _ hP va_S.rf ?_
  refine ⟨?_, ?_⟩
  · rw [hml]; simp only [lst, List.length_append, List.length_replicate, lst0_len]; omega
  · rw [hml]; unfold lst; rw [lvL_app, lvL_none, List.append_nil, lvL_lst0]; exact hl
section PUTF
variable {x : Cx} {cc : ByteArray} {own : String} {R : Room} {A : Nat → Prop} {P : Heap → Prop} {k n pc pc' tgt : Nat} {L : List (Option Value)} {st : List Value}
theorem V_putF (C : CX x cc own R) (hI : XI x) {a j N idx : Nat} {ref Cn : String} {T : u_T} {v : Value} {P' : Heap → Prop} {ty0 : Nat → FieldType} (hd : D1 cc pc (.putfield idx) 3 pc') (hr : WrF (xs x) A P a Cn T N j v P') (hF : FT Cn T N ty0) (hk : j < N) (hl : Cond.fieldLink own idx ref (T j).2.1 (T j).2.2.1 ∈ lw_gd) (hs : (T j).1 = ref) (hfin : (T j).2.2.2 = true) (hdecl : (T j).1 = own) (hn : narrow (ty0 j) v = v) (hf : fits (ty0 j) v = true)
    (h : V x A P' k n pc' L st) : V x A P k n pc L (v :: .ref a :: st) := by
  obtain ⟨p, l, e, R', s, m, args, below, meth, c, Q⟩ := x
  obtain ⟨hx, hb, hR, hown, hts⟩ := C
  obtain ⟨hd, rfl⟩ := hd
  obtain ⟨hin, hty, hnm⟩ := hF
  intro H locs ls hP hS hL
  obtain ⟨D, cl, tys, ws, q0, ci, fs, hK, hp, hD, he, hc, hj, hH⟩ := hr H hP
  exact va_putF hx hb hts hin ty0 hty hnm hown hK hp hD hS q0 he hc j hk (hts _ hl) (fun y hy => by rw [← hs]; exact hy) hfin hI hdecl (hty j hk) hn hf hj hd (fun H1 locs1 hp1 _ hS1 => h H1 locs1 ls (hH H1 hp1) hS1 hL)
end PUTF
/-! one more cell: the wish -/
def mkE (E : En) (w q : Nat) : En := (eD E, eI E, eH E, eS E, eB E, w, (fun c => if c = 85 then q else ad E c), eK E, eV E)
theorem ad_mk (E : En) (w q : Nat) {k : Nat} (h : k < 85) : ad (mkE E w q) k = ad E k := if_neg (by omega)
theorem celf_mk (E : En) (w q : Nat) {c : Nat} (h : c < 85) (f : Nat → Int32) : celf (mkE E w q) c f = celf E c f := by
  unfold celf
  by_cases h6 : c < 60
  · rw [if_pos h6, if_pos h6]
    rcases (show c % 12 = 0 ∨ c % 12 = 1 ∨ c % 12 = 2 ∨ c % 12 = 3 ∨ c % 12 = 4 ∨ c % 12 = 5 ∨ c % 12 = 6 ∨ c % 12 = 7 ∨ c % 12 = 8 ∨ c % 12 = 9 ∨ c % 12 = 10 ∨ c % 12 = 11 by omega) with e | e | e | e | e | e | e | e | e | e | e | e
    · rw [e]
      show Sum.inr (5, [Value.ref (ad (mkE E w q) (c+1)), Value.ref (ad (mkE E w q) (c+2)), Value.ref (ad (mkE E w q) (c+3)), _, _, _, _, _, _, _, _, _, _]) = _
      rw [ad_mk E w q (show c + 1 < 85 by omega), ad_mk E w q (show c + 2 < 85 by omega), ad_mk E w q (show c + 3 < 85 by omega)] <;> rfl
    · rw [e]
      show Sum.inl (eH E, 8, Sum.inr (Sum.inr (Sum.inr (Sum.inr (fun i => if i < 8 then some (ad (mkE E w q) (c+3+i)) else none))))) = Sum.inl (eH E, 8, Sum.inr (Sum.inr (Sum.inr (Sum.inr (fun i => if i < 8 then some (ad E (c+3+i)) else none)))))
      have e2 : (fun i => if i < 8 then some (ad (mkE E w q) (c+3+i)) else none) = (fun i => if i < 8 then some (ad E (c+3+i)) else none) := by
        funext i
        by_cases hi : i < 8
        · rw [if_pos hi, if_pos hi, ad_mk E w q (by omega)]
        · rw [if_neg hi, if_neg hi]
      rw [e2]
    all_goals (rw [e]; rfl)
  · rw [if_neg h6, if_neg h6]
    rcases (show c = 60 ∨ c = 61 ∨ c = 62 ∨ c = 63 ∨ c = 64 ∨ c = 65 ∨ c = 66 ∨ c = 67 ∨ c = 68 ∨ c = 69 ∨ c = 70 ∨ c = 71 ∨ c = 72 ∨ c = 73 ∨ c = 74 ∨ c = 75 ∨ c = 76 ∨ c = 77 ∨ c = 78 ∨ c = 79 ∨ c = 80 ∨ c = 81 ∨ c = 82 ∨ c = 83 ∨ c = 84 by omega) with rfl | rfl | rfl | rfl | rfl | rfl | rfl | rfl | rfl | rfl | rfl | rfl | rfl | rfl | rfl | rfl | rfl | rfl | rfl | rfl | rfl | rfl | rfl | rfl | rfl
    · rfl
    · show Sum.inl (eS E, 4, Sum.inr (Sum.inr (Sum.inr (Sum.inr (fun i => if i < 4 then some (ad (mkE E w q) (65+i)) else none))))) = Sum.inl (eS E, 4, Sum.inr (Sum.inr (Sum.inr (Sum.inr (fun i => if i < 4 then some (ad E (65+i)) else none)))))
      have e2 : (fun i => if i < 4 then some (ad (mkE E w q) (65+i)) else none) = (fun i => if i < 4 then some (ad E (65+i)) else none) := by
        funext i
        by_cases hi : i < 4
        · rw [if_pos hi, if_pos hi, ad_mk E w q (by omega)]
        · rw [if_neg hi, if_neg hi]
      rw [e2]
    all_goals rfl
theorem wld_mk {E : En} {w q : Nat} {ρ : Sg} {f : Nat → Int32} {e : va_E} (h : eW E = 0) (hw : w ≠ 0) (he : celf (mkE E w q) 85 f = e) : wld (mkE E w q) (us ρ 85 f) = wld E ρ ++ [(q, e)] := by
  have n1 : eN (mkE E w q) = 85 + 1 := if_neg hw
  have n0 : eN E = 85 := if_pos h
  unfold wld
  rw [n1, n0, List.range_succ, List.map_append]
  congr 1
  · apply List.map_congr_left
    intro c hc
    have hc := List.mem_range.mp hc
    rw [us_n (by omega), celf_mk E w q hc, ad_mk E w q hc]
  · show [(ad (mkE E w q) 85, celf (mkE E w q) 85 (us ρ 85 f 85))] = [(q, e)]
    rw [us_s, he]
    rfl
theorem wld_pre {E : En} {w q : Nat} {ρ : Sg} {k : Nat} (h : eW E = 0) (hw : w ≠ 0) (hk : k < 85) : (wld (mkE E w q) ρ)[k]? = (wld E ρ)[k]? := by
  have n1 : eN (mkE E w q) = 86 := if_neg hw
  have n0 : eN E = 85 := if_pos h
  rw [wld_get (by rw [n1]; omega), wld_get (by rw [n0]; omega), celf_mk E w q hk, ad_mk E w q hk]
theorem wld_ge {E : En} {ρ : Sg} {k : Nat} {z : Nat × va_E} (h : eW E = 0) (hk : (wld E ρ)[k]? = some z) : k < 85 := by
  have n0 : eN E = 85 := if_pos h
  have := (List.getElem?_eq_some_iff.mp hk).1
  unfold wld at this
  rw [List.length_map, List.length_range, n0] at this
  exact this
theorem PA_drop {E : En} {w q : Nat} {u : Sg} {s : State} {H : Heap} {g : Nat → Int32} (h : eW E = 0) (hw : w ≠ 0) (hP : PA (mkE E w q) u s H) : PA E (us u 85 g) s H := by
  obtain ⟨ρ, hA, hK, hP, hD⟩ := hP
  refine ⟨us ρ 85 g, abs_other hA rfl, hK, fun k z hk => ?_, fun i j p p2 hi hj e => ?_, fun k z hk => ?_⟩
  all_goals
    have e0 : wld E (us ρ 85 g) = wld E ρ := by
      unfold wld
      apply List.map_congr_left
      intro c hc
      have hc := List.mem_range.mp hc
      rw [show eN E = 85 from if_pos h] at hc
      rw [us_n (by omega)]
  · rw [e0] at hk
    exact hP k z (by rw [wld_pre h hw (wld_ge h hk)]; exact hk)
  · rw [e0] at hi hj
    exact hD.1 i j p p2 (by rw [wld_pre h hw (wld_ge h hi)]; exact hi) (by rw [wld_pre h hw (wld_ge h hj)]; exact hj) e
  · rw [e0] at hk
    exact hD.2 k z (by rw [wld_pre h hw (wld_ge h hk)]; exact hk)
theorem PA_lift {x : Cx} {E : En} {w q : Nat} {σ ρ : Sg} {f : Nat → Int32} {e : va_E} {k n pc : Nat} {L L' : List (Option Value)} {st st' : List Value} (h : eW E = 0) (hw : w ≠ 0) (he : celf (mkE E w q) 85 f = e) (hA : ABS σ ρ) (hl : L = L') (hs : st = st') (hV : V x (eA (mkE E w q)) (AP x (mkE E w q) (us σ 85 f)) k n pc L' st') : V x (eA E) (WP x E (wld E ρ ++ [(q, e)])) k n pc L st := by
  refine V_to (P' := AP x (mkE E w q) (us σ 85 f)) (fun H hH => ⟨us ρ 85 f, abs_other hA rfl, hH.1, ?_, ?_⟩) hl hs hV
  · show va_P _ _ (wld (mkE E w q) (us ρ 85 f)) H
    rw [wld_mk h hw he]; exact hH.2.1
  · show va_D _ (wld (mkE E w q) (us ρ 85 f))
    rw [wld_mk h hw he]; exact hH.2.2
theorem wld_last {E : En} {ρ : Sg} {q : Nat} {e : va_E} (h : eW E = 0) : (wld E ρ ++ [(q, e)])[85]? = some (q, e) := by
  have n0 : (wld E ρ).length = 85 := by
    unfold wld; rw [List.length_map, List.length_range]; exact if_pos h
  rw [List.getElem?_append_right (by omega), n0]; rfl
theorem wld_setL {E : En} {ρ : Sg} {q : Nat} {e e' : va_E} (h : eW E = 0) : (wld E ρ ++ [(q, e)]).set 85 (q, e') = wld E ρ ++ [(q, e')] := by
  have n0 : (wld E ρ).length = 85 := by
    unfold wld; rw [List.length_map, List.length_range]; exact if_pos h
  rw [List.set_append_right _ _ (by omega), n0]; rfl
theorem EqX2.out {σ u : Sg} {f : Nat → Int32} (h : EqX2 (us σ 85 f) u) : EqX σ (us u 85 (σ 85)) := fun c hc => by
  by_cases e : c = 85
  · subst e; rw [us_s]
  · rw [us_n e, h c hc e, us_n e]
