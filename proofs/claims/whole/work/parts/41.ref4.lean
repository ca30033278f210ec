/-! THE REFERENCE'S ACTS -/
abbrev TY (c : Nat) : Prop := c = 73 ∨ c = 76 ∨ c = 10 ∨ c = 11 ∨ c = 79 ∨ c = 84
abbrev SY (j : Nat) : Prop := j = 6 ∨ j = 7 ∨ (12 ≤ j ∧ j ≤ 15) ∨ (18 ≤ j ∧ j ≤ 21)
def EqY (σ u : Sg) : Prop := (∀ c, ¬ TY c → u c = σ c) ∧ ∀ j, ¬ SY j → u 73 j = σ 73 j
theorem EqY.rf (σ : Sg) : EqY σ σ := ⟨fun _ _ => rfl, fun _ _ => rfl⟩
theorem EqY.put {σ u : Sg} (h : EqY σ u) {c : Nat} {f : Nat → Int32} (hc : TY c) (h3 : c ≠ 73) : EqY σ (us u c f) := ⟨fun c' h' => by
    have e : c' ≠ c := fun e => h' (by rw [e]; exact hc)
    rw [us_n e]; exact h.1 c' h', fun j hj => by rw [us_n (Ne.symm h3)]; exact h.2 j hj⟩
theorem EqY.slot {σ u : Sg} (h : EqY σ u) {j : Nat} {y : Int32} (hj : SY j) : EqY σ (us u 73 (upd (u 73) j y)) := ⟨fun c' h' => by
    rw [us_n (fun e => h' (Or.inl e))]; exact h.1 c' h', fun k hk => by
    rw [us_s, upd_n (fun e => hk (by rw [e]; exact hj))]; exact h.2 k hk⟩
theorem EqY.bk {σ u : Sg} (h : EqY σ u) {f : Nat → Int32} (hf : f = σ 74) : EqY σ (us u 74 f) := ⟨fun c' h' => by
    by_cases e : c' = 74
    · subst e; rw [us_s, hf]
    · rw [us_n e]; exact h.1 c' h', fun j hj => by rw [us_n (by omega)]; exact h.2 j hj⟩
theorem EqY.tr {σ u w : Sg} (h : EqY σ u) (h2 : EqY u w) : EqY σ w := ⟨fun c hc => (h2.1 c hc).trans (h.1 c hc), fun j hj => (h2.2 j hj).trans (h.2 j hj)⟩
theorem EqY.z {σ u : Sg} (h : EqY σ u) : u 74 = σ 74 := h.1 74 (by omega)
theorem EqY.both {σ u : Sg} (h : EqY σ u) {c : Nat} {f : Nat → Int32} (h3 : c ≠ 73) : EqY (us σ c f) (us u c f) := ⟨fun c' h' => by
    by_cases e : c' = c
    · subst e; rw [us_s, us_s]
    · rw [us_n e, us_n e]; exact h.1 c' h', fun j hj => by rw [us_n (Ne.symm h3), us_n (Ne.symm h3)]; exact h.2 j hj⟩
/-- the post of an act of the reference -/
def PQ (σ : Sg) (S : Rs) (σ1 : Sg) : Option Value → Sg → Prop := fun r u => r = some (.int (rsI S)) ∧ EqY (us (match S with | .inl _ => σ | .inr _ => σ1) 77 (rsT (σ 77) S)) u
theorem PQ_fail {σ σ1 u : Sg} {S : Rs} {j : Nat} {v : Int32} (hv : v = -1000001 - nI j) (hS : S = .inl j) (hu : EqY σ u) : PQ σ S σ1 (some (.int v)) (us u 77 (upd (u 77) j (u 77 j + 1))) := by
  subst hS
  subst hv
  refine ⟨rfl, ?_⟩
  show EqY (us σ 77 (upd (σ 77) j (σ 77 j + 1))) _
  rw [hu.1 77 (by omega)]
  exact hu.both (by omega)
theorem PQ_ok {σ σ1 u : Sg} {S : Rs} {v : Int32} (hS : S = .inr v) (h77 : σ1 77 = σ 77) (hu : EqY σ1 u) : PQ σ S σ1 (some (.int v)) u := by
  subst hS
  refine ⟨rfl, ?_⟩
  show EqY (us σ1 77 (σ 77)) u
  rw [← h77, us_id]; exact hu
theorem PQ_rd {σ u : Sg} {S : Rs} {v : Int32} (hS : S = .inr v) (hu : EqY σ u) : PQ σ S σ (some (.int v)) u := PQ_ok hS rfl hu
/-- a new house by its numbers -/
def nwF (f : Nat → Int32) (k a b c d : Int32) : Nat → Int32 := uh (uh (uh (uh (uh (uh (upd f 1 (nI (nh f + 1))) (nh f) 0 k) (nh f) 1 a) (nh f) 2 b) (nh f) 3 c) (nh f) 4 d) (nh f) 5 0
theorem nwF_new (f : Nat → Int32) (k : Int32) : nwF f k 100 10 8 60 = newF f k := rfl
theorem nwF_off {f : Nat → Int32} {k a b c d : Int32} {q : Nat} (h : q < 15 + 6 * nh f ∨ 15 + 6 * nh f + 6 ≤ q) : nwF f k a b c d q = upd f 1 (nI (nh f + 1)) q := by
  unfold nwF uh
  simp (disch := omega) only [upd_n]
theorem nwF_nh {f : Nat → Int32} {k a b c d : Int32} (h : nh f < 8) : nh (nwF f k a b c d) = nh f + 1 := by
  have e : nwF f k a b c d 1 = nI (nh f + 1) := by rw [nwF_off (by omega), upd_s]
  show (nwF f k a b c d 1).toNatClampNeg = _
  rw [e, nI_clamp (by omega)]
theorem nwF_at {f : Nat → Int32} {k a b c d : Int32} {j : Nat} (hj : j < 6) : hf (nwF f k a b c d) (nh f) j = (if j = 0 then k else if j = 1 then a else if j = 2 then b else if j = 3 then c else if j = 4 then d else 0) := by
  unfold nwF
  rcases (show j = 0 ∨ j = 1 ∨ j = 2 ∨ j = 3 ∨ j = 4 ∨ j = 5 by omega) with rfl | rfl | rfl | rfl | rfl | rfl <;> simp (disch := omega) only [hf_uh_s, hf_uh_n] <;> rfl
theorem nwF_hf {f : Nat → Int32} {k a b c d : Int32} {i j : Nat} (hi : i ≠ nh f) (hi8 : i < 8) (hj : j < 6) : hf (nwF f k a b c d) i j = hf f i j := by
  have e := nwF_off (f := f) (k := k) (a := a) (b := b) (c := c) (d := d) (q := 15 + 6 * i + j) (by omega)
  unfold hf; rw [e, upd_n (by omega)]
theorem Can_nwF {f : Nat → Int32} {k a b c d : Int32} (h : Can f) (h8 : nh f < 8) : Can (nwF f k a b c d) := by
  obtain ⟨h1, h2, h3, h4⟩ := h
  refine ⟨by rw [nwF_nh h8, nwF_off (by omega), upd_s], by rw [nwF_nh h8]; omega, fun q hq => by rw [nwF_off (by omega), upd_n (by omega)]; exact h3 q hq, fun i j a1 a2 a3 => ?_⟩
  rw [nwF_nh h8] at a1
  rw [nwF_hf (by omega) a2 a3]; exact h4 i j (by omega) a2 a3
theorem Msk_nwF {f g : Nat → Int32} {k a b c d : Int32} (h : Msk f g) (h8 : nh f < 8) : Msk (nwF f k a b c d) (upd (upd (upd (upd (upd (upd (upd g (15+6*nh f+0) k) (15+6*nh f+1) a) (15+6*nh f+2) b) (15+6*nh f+3) c) (15+6*nh f+4) d) (15+6*nh f+5) 0) 1 (nI (nh f) + 1)) := by
  obtain ⟨h1, h2, h3, h4⟩ := h
  refine ⟨Can_nwF h1 h8, fun q hq => ?_, fun q q1 q2 => ?_, fun i j hi hj => ?_⟩
  · rw [nwF_off (by omega)]
    by_cases e : q = 1
    · subst e; rw [upd_s, upd_s, nI_1]
    · rw [upd_n e, upd_n e]; simp (disch := omega) only [upd_n]; exact h2 q hq
  · rw [nwF_off (by omega)]; simp (disch := omega) only [upd_n]; exact h3 q q1 q2
  · rw [nwF_nh h8] at hi
    rw [upd_n (by omega)]
    by_cases e : i = nh f
    · subst e
      rw [nwF_at hj]
      rcases (show j = 0 ∨ j = 1 ∨ j = 2 ∨ j = 3 ∨ j = 4 ∨ j = 5 by omega) with rfl | rfl | rfl | rfl | rfl | rfl <;> simp (disch := omega) only [upd_s, upd_n] <;> rfl
    · simp (disch := omega) only [upd_n]
      rw [nwF_hf e (by omega) hj]; exact h4 i j (by omega) hj

theorem V_csR {x : Cx} {cc : ByteArray} {own : String} {R : Room} {E : En} {k n pc pc' : Nat} {L : List (Option Value)} {st : List Value} {ρ : Sg} (C : CX x cc own R) (hE : CE E (xs x) (xs x).heap) {idx nn ynL : Nat} {As rest : List Value} {y : MethodName} {ycc : ByteArray} {ret : Option FieldType} {rm : Room} {v : Value} {ρ0 : Sg}
    (hd : D1 cc pc (.invokestatic idx) 3 pc') (hM : MG (xl x) y ycc ynL ret rm 0 0 E As (PR E ρ) (fun r (u : Sg) => r = some v ∧ u = ρ0) (fun u => PR E u)) (hk : KS own y ycc ynL ret nn) (hl : Cond.methodLink own idx y ∈ lw_gd) (hst : st = As.reverse ++ rest) (hro : ROb rm ynL R nn As rest = true) (hkc : (Nat.ble k R.cells && Nat.ble n R.slots) = true)
    (h : V x (eA E) (RP x E ρ0) k n pc' L (v :: rest)) : V x (eA E) (RP x E ρ) k n pc L st := by
  simp only [ROb, Bool.and_eq_true, Nat.ble_eq, beq_iff_eq] at hro
  simp only [Bool.and_eq_true, Nat.ble_eq] at hkc
  refine V_callS C hE hd hM hk hl ⟨hro.1.1.1.1.1, hro.1.1.1.1.2⟩ ⟨hro.1.1.1.2, hro.1.1.2⟩ hro.1.2 hkc hst hro.2 PM_R (fun _ => PM_R) ?_
  rintro r u ⟨rfl, rfl⟩
  exact h
theorem c_X9_atR {l : Launch} {E : En} {ρ : Sg} {i j : Nat} {w : Int32} (hw : w = nI j) : MG l yX9_at cX9_at 2 (some .int) rmX9_at 0 0 E [.int (nI i), .int w] (PR E ρ) (fun r (u : Sg) => r = some (.int (nI (15+6*i+j))) ∧ u = ρ) (fun u => PR E u) := by
  subst hw
  refine MG_of (by decide +kernel) rfl fun x C hE hT => ?_
  have C : CX x cX9_at RX9 rmX9_at := C
  refine V_L (L' := [some (.int (nI i)), some (.int (nI j))]) rfl ?_
  refine V_bipush C 15 dX9_at_0 (by decide) ?_
  refine V_bipush C 6 dX9_at_2 (by decide) ?_
  refine V_iload_n C dX9_at_4 rfl ?_
  refine V_imul C dX9_at_5 ?_
  refine V_iadd C dX9_at_6 ?_
  refine V_iload_n C dX9_at_7 rfl ?_
  refine V_iadd C dX9_at_8 ?_
  exact V_iret C (u := ρ) dX9_at_9 hT ⟨by rw [at_eq], rfl⟩ (fun _ h => h) PM_R

theorem c_X9_newHouse {l : Launch} {E : En} {σ : Sg} {p0 p1 p2 p3 p4 : Int32} (h8 : nh (σ 74) < 8) : MD l yX9_newHouse cX9_newHouse 7 (some .int) rmX9_newHouse E [.ref (ad E 73), .int p0, .int p1, .int p2, .int p3, .int p4] σ (some (.int (nI (nh (σ 74))))) (us σ 74 (nwF (σ 74) p0 p1 p2 p3 p4)) := by
  refine MD_of (by decide +kernel) rfl fun x C hE hT hcan => ?_
  have C : CX x cX9_newHouse RX9 rmX9_newHouse := C
  refine V_L (L' := [some (.ref (ad E 73)), some (.int p0), some (.int p1), some (.int p2), some (.int p3), some (.int p4), none]) rfl ?_
  have hc74 := (hcan.2.1 74 (by omega) (by omega))
  refine V_raw fun ρ hA => ?_
  have hr1 : ρ 74 1 = nI (nh (σ 74)) := by rw [← hc74.1]; exact (hA.2.2.1 74 (by omega) (by omega)).2.1 1 (by omega)
  refine V_aload_n C dX9_newHouse_0 rfl ?_
  refine V_get C dX9_newHouse_1 (rdF (j := 0) (c := 73) (by have := eN_ge E; omega) rfl rfl rfl) in_X9 (by decide) q907 rfl ?_
  refine V_iconst C 1 dX9_newHouse_4 (by decide) ?_
  refine V_iald C 1 rfl rfl rfl dX9_newHouse_5 (rdA (c := 74) (by have := eN_ge E; omega) rfl) ?_
  try simp only [us_us, us_s]
  refine V_st (st' := [.int (nI (nh (σ 74)))]) (by rw [hr1]) ?_
  refine V_istore C dX9_newHouse_6 rfl ?_
  refine V_aload_n C dX9_newHouse_8 rfl ?_
  refine V_get C dX9_newHouse_9 (rdF (j := 0) (c := 73) (by have := eN_ge E; omega) rfl rfl rfl) in_X9 (by decide) q907 rfl ?_
  refine V_iload C dX9_newHouse_12 rfl ?_
  refine V_iconst C 0 dX9_newHouse_14 (by decide) ?_
  refine V_csR C hE dX9_newHouse_15 (c_X9_atR (i := nh (σ 74)) (j := 0) rfl) kyX9_at q1004 rfl rfl rfl ?_
  try simp only [us_us, us_s]
  refine V_iload_n C dX9_newHouse_18 rfl ?_
  refine V_iastN C (15+6*nh (σ 74)+0) rfl (by omega) (by omega) dX9_newHouse_19 (wrA (c := 74) (by have := eN_ge E; omega) (fun _ => rfl)) ?_
  try simp only [us_us, us_s]
  refine V_aload_n C dX9_newHouse_20 rfl ?_
  refine V_get C dX9_newHouse_21 (rdF (j := 0) (c := 73) (by have := eN_ge E; omega) rfl rfl rfl) in_X9 (by decide) q907 rfl ?_
  refine V_iload C dX9_newHouse_24 rfl ?_
  refine V_iconst C 1 dX9_newHouse_26 (by decide) ?_
  refine V_csR C hE dX9_newHouse_27 (c_X9_atR (i := nh (σ 74)) (j := 1) rfl) kyX9_at q1004 rfl rfl rfl ?_
  try simp only [us_us, us_s]
  refine V_iload_n C dX9_newHouse_30 rfl ?_
  refine V_iastN C (15+6*nh (σ 74)+1) rfl (by omega) (by omega) dX9_newHouse_31 (wrA (c := 74) (by have := eN_ge E; omega) (fun _ => rfl)) ?_
  try simp only [us_us, us_s]
  refine V_aload_n C dX9_newHouse_32 rfl ?_
  refine V_get C dX9_newHouse_33 (rdF (j := 0) (c := 73) (by have := eN_ge E; omega) rfl rfl rfl) in_X9 (by decide) q907 rfl ?_
  refine V_iload C dX9_newHouse_36 rfl ?_
  refine V_iconst C 2 dX9_newHouse_38 (by decide) ?_
  refine V_csR C hE dX9_newHouse_39 (c_X9_atR (i := nh (σ 74)) (j := 2) rfl) kyX9_at q1004 rfl rfl rfl ?_
  try simp only [us_us, us_s]
  refine V_iload_n C dX9_newHouse_42 rfl ?_
  refine V_iastN C (15+6*nh (σ 74)+2) rfl (by omega) (by omega) dX9_newHouse_43 (wrA (c := 74) (by have := eN_ge E; omega) (fun _ => rfl)) ?_
  try simp only [us_us, us_s]
  refine V_aload_n C dX9_newHouse_44 rfl ?_
  refine V_get C dX9_newHouse_45 (rdF (j := 0) (c := 73) (by have := eN_ge E; omega) rfl rfl rfl) in_X9 (by decide) q907 rfl ?_
  refine V_iload C dX9_newHouse_48 rfl ?_
  refine V_iconst C 3 dX9_newHouse_50 (by decide) ?_
  refine V_csR C hE dX9_newHouse_51 (c_X9_atR (i := nh (σ 74)) (j := 3) rfl) kyX9_at q1004 rfl rfl rfl ?_
  try simp only [us_us, us_s]
  refine V_iload C dX9_newHouse_54 rfl ?_
  refine V_iastN C (15+6*nh (σ 74)+3) rfl (by omega) (by omega) dX9_newHouse_56 (wrA (c := 74) (by have := eN_ge E; omega) (fun _ => rfl)) ?_
  try simp only [us_us, us_s]
  refine V_aload_n C dX9_newHouse_57 rfl ?_
  refine V_get C dX9_newHouse_58 (rdF (j := 0) (c := 73) (by have := eN_ge E; omega) rfl rfl rfl) in_X9 (by decide) q907 rfl ?_
  refine V_iload C dX9_newHouse_61 rfl ?_
  refine V_iconst C 4 dX9_newHouse_63 (by decide) ?_
  refine V_csR C hE dX9_newHouse_64 (c_X9_atR (i := nh (σ 74)) (j := 4) rfl) kyX9_at q1004 rfl rfl rfl ?_
  try simp only [us_us, us_s]
  refine V_iload C dX9_newHouse_67 rfl ?_
  refine V_iastN C (15+6*nh (σ 74)+4) rfl (by omega) (by omega) dX9_newHouse_69 (wrA (c := 74) (by have := eN_ge E; omega) (fun _ => rfl)) ?_
  try simp only [us_us, us_s]
  refine V_aload_n C dX9_newHouse_70 rfl ?_
  refine V_get C dX9_newHouse_71 (rdF (j := 0) (c := 73) (by have := eN_ge E; omega) rfl rfl rfl) in_X9 (by decide) q907 rfl ?_
  refine V_iload C dX9_newHouse_74 rfl ?_
  refine V_iconst C 5 dX9_newHouse_76 (by decide) ?_
  refine V_csR C hE dX9_newHouse_77 (c_X9_atR (i := nh (σ 74)) (j := 5) rfl) kyX9_at q1004 rfl rfl rfl ?_
  try simp only [us_us, us_s]
  refine V_iconst C 0 dX9_newHouse_80 (by decide) ?_
  refine V_iastN C (15+6*nh (σ 74)+5) rfl (by omega) (by omega) dX9_newHouse_81 (wrA (c := 74) (by have := eN_ge E; omega) (fun _ => rfl)) ?_
  try simp only [us_us, us_s]
  refine V_aload_n C dX9_newHouse_82 rfl ?_
  refine V_get C dX9_newHouse_83 (rdF (j := 0) (c := 73) (by have := eN_ge E; omega) rfl rfl rfl) in_X9 (by decide) q907 rfl ?_
  refine V_iconst C 1 dX9_newHouse_86 (by decide) ?_
  refine V_dup2 C dX9_newHouse_87 rfl rfl ?_
  refine V_iald C 1 rfl rfl rfl dX9_newHouse_88 (rdA (c := 74) (by have := eN_ge E; omega) rfl) ?_
  try simp only [us_us, us_s]
  refine V_st (st' := [.int (nI (nh (σ 74))), .int 1, .ref (ad E 74)]) (by simp (disch := omega) only [us_us, us_s, upd_n]; rw [hr1]) ?_
  refine V_iconst C 1 dX9_newHouse_89 (by decide) ?_
  refine V_iadd C dX9_newHouse_90 ?_
  refine V_iast C 1 rfl rfl rfl dX9_newHouse_91 (wrA (c := 74) (by have := eN_ge E; omega) (fun _ => rfl)) ?_
  try simp only [us_us, us_s]
  refine V_pic (hA.msk (c := 74) (by omega) (by omega) (Msk_nwF (k := p0) (a := p1) (b := p2) (c := p3) (d := p4) (hA.2.2.1 74 (by omega) (by omega)) h8)) ?_
  refine V_iload C dX9_newHouse_92 rfl ?_
  exact V_iretD C dX9_newHouse_94 hT rfl rfl

theorem c_X9_house {l : Launch} {E : En} {σ : Sg} {p0 : Int32}  : MN l yX9_house cX9_house 2 (some .int) rmX9_house E [.ref (ad E 73), .int p0] σ (PQ σ (S_house (σ 74) p0) (us σ 74 (newF (σ 74) p0))) := by
  refine MN_of (by decide +kernel) rfl fun x C hE hT hcan => ?_
  have C : CX x cX9_house RX9 rmX9_house := C
  refine V_L (L' := [some (.ref (ad E 73)), some (.int p0)]) rfl ?_
  refine V_iload_n C dX9_house_0 rfl ?_
  refine V_i2l C dX9_house_1 ?_
  refine V_lconst C 0 dX9_house_2 (by decide) ?_
  refine V_ldc2 C dX9_house_3 q990 ?_
  refine V_cs C hE dX9_house_6 (c_X9_in (a := p0) (lo := 0) (hi := 6) (by decide +kernel) (by decide +kernel)) kyX9_in q991 rfl rfl rfl ?_
  refine V_ifne_b C dX9_house_9 (fun c9 => ?_) (fun c9 => ?_)
  · refine V_aload_n C dX9_house_19 rfl ?_
    by_cases hlt8 : nh (σ 74) < 8
    · refine V_get C dX9_house_20 (rdO (j := 0) 73 rfl rfl rfl rfl rfl) in_X9 (by decide) q907 rfl ?_
      refine V_iconst C 1 dX9_house_23 (by decide) ?_
      refine V_iald C 1 rfl rfl rfl dX9_house_24 (rdM 74 1 rfl rfl rfl) ?_
      refine V_bipush C 8 dX9_house_25 (by decide) ?_
      refine V_icmp_ne C dX9_house_27 (fun c27 => ?_) (fun c27 => absurd c27 (by rw [(hcan.2.1 74 (by omega) (by omega)).1]; exact fun q => absurd ((nI_eq (a := nh (σ 74)) (b := 8) (by omega) (by omega)).mp q) (by omega)))
      refine V_aload_n C dX9_house_39 rfl ?_
      refine V_iload_n C dX9_house_40 rfl ?_
      refine V_bipush C 100 dX9_house_41 (by decide) ?_
      refine V_bipush C 10 dX9_house_43 (by decide) ?_
      refine V_bipush C 8 dX9_house_45 (by decide) ?_
      refine V_bipush C 60 dX9_house_47 (by decide) ?_
      refine V_cv C hE dX9_house_49 (c_X9_newHouse hlt8) kyX9_newHouse q1000 (isoO 73 rfl rfl rfl rfl) rfl rfl rfl ?_
      exact V_iretN C dX9_house_52 hT (PQ_ok (by unfold S_house; all_goals (first | rw [if_pos c9] | rw [if_neg c9]); all_goals (first | rw [if_pos hlt8] | rw [if_neg hlt8])) rfl (EqY.rf _))
    · refine V_get C dX9_house_20 (rdO (j := 0) 73 rfl rfl rfl rfl rfl) in_X9 (by decide) q907 rfl ?_
      refine V_iconst C 1 dX9_house_23 (by decide) ?_
      refine V_iald C 1 rfl rfl rfl dX9_house_24 (rdM 74 1 rfl rfl rfl) ?_
      refine V_bipush C 8 dX9_house_25 (by decide) ?_
      refine V_icmp_ne C dX9_house_27 (fun c27 => absurd ((by rw [(hcan.2.1 74 (by omega) (by omega)).1]; exact congrArg nI (show nh (σ 74) = 8 by have := (hcan.2.1 74 (by omega) (by omega)).2.1; omega))) c27) (fun c27 => ?_)
      refine V_aload_n C dX9_house_30 rfl ?_
      refine V_ldc C dX9_house_31 q999 ?_
      refine V_cv C hE dX9_house_33 (c_X9_finds (j := 1) (by decide +kernel) (by omega)) kyX9_finds q995 (isoO 73 rfl rfl rfl rfl) rfl rfl rfl ?_
      refine V_goto C dX9_house_36 ?_
      exact V_iretN C dX9_house_52 hT (PQ_fail (by decide +kernel) (by unfold S_house; all_goals (first | rw [if_pos c9] | rw [if_neg c9]); all_goals (first | rw [if_pos hlt8] | rw [if_neg hlt8])) (EqY.rf σ))
  · refine V_aload_n C dX9_house_12 rfl ?_
    refine V_ldc C dX9_house_13 q994 ?_
    refine V_cv C hE dX9_house_15 (c_X9_finds (j := 0) (by decide +kernel) (by omega)) kyX9_finds q995 (isoO 73 rfl rfl rfl rfl) rfl rfl rfl ?_
    exact V_iretN C dX9_house_18 hT (PQ_fail (by decide +kernel) (by unfold S_house; all_goals (first | rw [if_pos c9] | rw [if_neg c9])) (EqY.rf σ))

theorem of_8 {w : Nat} (hw : w ≤ 8) (h1 : 6 ≤ nI w) (h2 : ¬ nI w = 6) (h3 : ¬ nI w = 7) : nI w = 8 := by
  have a := (nI_leI (a := 6) (b := w) (by omega) (by omega)).mp h1
  have b : w ≠ 6 := fun e => h2 (by rw [e]; rfl)
  have c : w ≠ 7 := fun e => h3 (by rw [e]; rfl)
  rw [show w = 8 by omega]; rfl
theorem q1n {q : Nat} (h : q ≠ 1) : (q == 1) = false := by simpa using h
theorem goF_3 {f : Nat → Int32} {b : Nat} : goF f b 3 = wayF f (hx f) b := by unfold goF; rw [upd_n (by omega), upd_s]
theorem in01 {a : Int32} (h : inP a 0 1) : a = 0 ∨ a = 1 := by
  obtain ⟨k, rfl, hk⟩ := i32_le (m := 1) (by omega) h.1 h.2
  rcases (show k = 0 ∨ k = 1 by omega) with rfl | rfl
  · exact Or.inl rfl
  · exact Or.inr rfl
theorem lateP {p : Int32} {m : Int32} (h : inP p 1 m) (hm : m ≤ 9999) : inP p 0 9999 := ⟨Int32.le_trans (by decide) h.1, Int32.le_trans h.2 hm⟩

theorem c_X9_of {l : Launch} {E : En} {σ : Sg} {p0 p1 : Int32}  (hG : GV (σ 74)) : MN l yX9_of cX9_of 3 (some .int) rmX9_of E [.ref (ad E 73), .int p0, .int p1] σ (PQ σ (S_of (σ 74) p0 p1) (σ)) := by
  refine MN_of (by decide +kernel) rfl fun x C hE hT hcan => ?_
  have C : CX x cX9_of RX9 rmX9_of := C
  refine V_L (L' := [some (.ref (ad E 73)), some (.int p0), some (.int p1)]) rfl ?_
  refine V_aload_n C dX9_of_0 rfl ?_
  refine V_iload_n C dX9_of_1 rfl ?_
  by_cases hh : isH (σ 74) p0
  · obtain ⟨i, hi, rfl, hi8⟩ := isH_of (hcan.2.1 74 (by omega) (by omega)) hh
    refine V_cv C hE dX9_of_2 (c_X9_isHouse) kyX9_isHouse q1011 (isoO 73 rfl rfl rfl rfl) rfl rfl rfl ?_
    refine V_ifeq_b C dX9_of_5 (fun c5 => absurd (hh) c5) (fun c5 => ?_)
    refine V_iload_n C dX9_of_8 rfl ?_
    refine V_i2l C dX9_of_9 ?_
    refine V_lconst C 0 dX9_of_10 (by decide) ?_
    refine V_ldc2 C dX9_of_11 q1015 ?_
    refine V_cs C hE dX9_of_14 (c_X9_in (a := p1) (lo := 0) (hi := 8) (by decide +kernel) (by decide +kernel)) kyX9_in q991 rfl rfl rfl ?_
    refine V_ifne_b C dX9_of_17 (fun c17 => ?_) (fun c17 => ?_)
    · obtain ⟨w, rfl, hw⟩ := i32_le (m := 8) (by omega) c17.1 c17.2
      refine V_iload_n C dX9_of_27 rfl ?_
      refine V_bipush C 6 dX9_of_28 (by decide) ?_
      refine V_icmp_ge C dX9_of_30 (fun c30 => ?_) (fun c30 => ?_)
      · refine V_iload_n C dX9_of_42 rfl ?_
        refine V_bipush C 6 dX9_of_43 (by decide) ?_
        refine V_icmp_ne C dX9_of_45 (fun c45 => ?_) (fun c45 => ?_)
        · refine V_iload_n C dX9_of_56 rfl ?_
          refine V_bipush C 7 dX9_of_57 (by decide) ?_
          refine V_icmp_ne C dX9_of_59 (fun c59 => ?_) (fun c59 => ?_)
          · refine V_aload_n C dX9_of_70 rfl ?_
            refine V_iload_n C dX9_of_71 rfl ?_
            refine V_cv C hE dX9_of_72 (c_X9_burns hi) kyX9_burns q1028 (isoO 73 rfl rfl rfl rfl) rfl rfl rfl ?_
            exact V_iretN C dX9_of_75 hT (PQ_rd (by unfold S_of; rw [if_pos hh, if_pos c17, hk_nI hi8]; first | (rw [c45]; rfl) | (rw [c59]; rfl) | (rw [of_8 hw c30 c45 c59]; rfl)) (EqY.rf σ))
          · refine V_aload_n C dX9_of_62 rfl ?_
            refine V_iload_n C dX9_of_63 rfl ?_
            refine V_cv C hE dX9_of_64 (c_X9_loses hi (hG.1.2.1 i hi).2.1.1) kyX9_loses q1024 (isoO 73 rfl rfl rfl rfl) rfl rfl rfl ?_
            refine V_goto C dX9_of_67 ?_
            exact V_iretN C dX9_of_75 hT (PQ_rd (by unfold S_of; rw [if_pos hh, if_pos c17, hk_nI hi8]; first | (rw [c45]; rfl) | (rw [c59]; rfl) | (rw [of_8 hw c30 c45 c59]; rfl)) (EqY.rf σ))
        · refine V_aload_n C dX9_of_48 rfl ?_
          refine V_iload_n C dX9_of_49 rfl ?_
          refine V_cv C hE dX9_of_50 (c_X9_heats hi) kyX9_heats q1020 (isoO 73 rfl rfl rfl rfl) rfl rfl rfl ?_
          refine V_goto C dX9_of_53 ?_
          exact V_iretN C dX9_of_75 hT (PQ_rd (by unfold S_of; rw [if_pos hh, if_pos c17, hk_nI hi8]; first | (rw [c45]; rfl) | (rw [c59]; rfl) | (rw [of_8 hw c30 c45 c59]; rfl)) (EqY.rf σ))
      · have hw6 : w < 6 := (nI_ltI (a := w) (b := 6) (by omega) (by omega)).mp (Int32.not_le.mp c30)
        refine V_aload_n C dX9_of_33 rfl ?_
        refine V_iload_n C dX9_of_34 rfl ?_
        refine V_iload_n C dX9_of_35 rfl ?_
        refine V_cv C hE dX9_of_36 (c_X9_its (i := i) (j := w) rfl hi (by omega)) kyX9_its q1016 (isoO 73 rfl rfl rfl rfl) rfl rfl rfl ?_
        refine V_goto C dX9_of_39 ?_
        exact V_iretN C dX9_of_75 hT (PQ_rd (by unfold S_of; rw [if_pos hh, if_pos c17, hk_nI hi8]; rw [ofV_lt hw6]) (EqY.rf σ))
    · refine V_aload_n C dX9_of_20 rfl ?_
      refine V_ldc C dX9_of_21 q994 ?_
      refine V_cv C hE dX9_of_23 (c_X9_finds (j := 0) (by decide +kernel) (by omega)) kyX9_finds q995 (isoO 73 rfl rfl rfl rfl) rfl rfl rfl ?_
      exact V_iretN C dX9_of_26 hT (PQ_fail (by decide +kernel) (by unfold S_of; all_goals (first | rw [if_pos hh] | rw [if_neg hh]); all_goals (first | rw [if_pos c17] | rw [if_neg c17])) (EqY.rf σ))
  · refine V_cv C hE dX9_of_2 (c_X9_isHouse) kyX9_isHouse q1011 (isoO 73 rfl rfl rfl rfl) rfl rfl rfl ?_
    refine V_ifeq_b C dX9_of_5 (fun c5 => ?_) (fun c5 => absurd c5 (hh))
    refine V_aload_n C dX9_of_20 rfl ?_
    refine V_ldc C dX9_of_21 q994 ?_
    refine V_cv C hE dX9_of_23 (c_X9_finds (j := 0) (by decide +kernel) (by omega)) kyX9_finds q995 (isoO 73 rfl rfl rfl rfl) rfl rfl rfl ?_
    exact V_iretN C dX9_of_26 hT (PQ_fail (by decide +kernel) (by unfold S_of; all_goals (first | rw [if_pos hh] | rw [if_neg hh])) (EqY.rf σ))

theorem part_0 {v : Int32} : inP v 0 6 ↔ (inP 0 0 4 ∧ inP v (loV 0) (hiV 0)) := ⟨fun q => ⟨⟨by decide, by decide⟩, q⟩, fun q => q.2⟩
theorem part_2 {v : Int32} : inP v 1 40 ↔ (inP 2 0 4 ∧ inP v (loV 2) (hiV 2)) := ⟨fun q => ⟨⟨by decide, by decide⟩, q⟩, fun q => q.2⟩
theorem part_3 {v : Int32} : inP v 0 99 ↔ (inP 3 0 4 ∧ inP v (loV 3) (hiV 3)) := ⟨fun q => ⟨⟨by decide, by decide⟩, q⟩, fun q => q.2⟩
theorem swq3 (a : Int32) : a = 0 ∨ a = 2 ∨ a = 3 ∨ (a = 1 ∨ (a.toInt < 0 ∨ 3 < a.toInt)) := by
  rcases sw_x 3 (by omega) a with ⟨j, hj, rfl⟩ | h
  · rcases (show j = 0 ∨ j = 1 ∨ j = 2 ∨ j = 3 by omega) with rfl | rfl | rfl | rfl <;> simp [nI]
  · exact Or.inr (Or.inr (Or.inr (Or.inr h)))
theorem swq3n {a : Int32} (h : a = 1 ∨ (a.toInt < 0 ∨ 3 < a.toInt)) (h1 : ¬ a = 1) (h4 : ¬ a = 4) : ¬ inP a 0 4 := by
  rcases h with h | h
  · exact fun _ => h1 h
  · rintro ⟨q1, q2⟩
    obtain ⟨k, rfl, hk⟩ := i32_le (m := 4) (by omega) q1 q2
    rw [nI_toInt (by omega)] at h
    have : k = 4 := by omega
    subst this; exact h4 rfl
theorem sw3_lh {a : Int32} (h : a = 1 ∨ a = 4) : inP a 0 4 ∧ loV a = 0 ∧ hiV a = 400 := by
  rcases h with rfl | rfl <;> exact ⟨by constructor <;> decide, rfl, rfl⟩

theorem partx_n {w v : Int32} (h : w = 1 ∨ (w.toInt < 0 ∨ 3 < w.toInt)) (h1 : ¬ w = 1) (h4 : ¬ w = 4) : ¬ (inP w 0 4 ∧ inP v (loV w) (hiV w)) := fun q => swq3n h h1 h4 q.1
theorem partx_y {w v : Int32} (h : w = 1 ∨ w = 4) : inP v 0 400 ↔ (inP w 0 4 ∧ inP v (loV w) (hiV w)) := by
  obtain ⟨a, b, c⟩ := sw3_lh h
  rw [b, c]
  exact ⟨fun q => ⟨a, q⟩, fun q => q.2⟩

theorem c_X9_isPart {l : Launch} {E : En} {σ : Sg} {w v : Int32}  : MD l yX9_isPart cX9_isPart 2 (some .boolean) rmX9_isPart E [.int w, .int v] σ (some (.int (bI (inP w 0 4 ∧ inP v (loV w) (hiV w))))) (σ) := by
  refine MD_of (by decide +kernel) rfl fun x C hE hT hcan => ?_
  have C : CX x cX9_isPart RX9 rmX9_isPart := C
  refine V_L (L' := [some (.int w), some (.int v)]) rfl ?_
  refine V_iload_n C dX9_isPart_0 rfl ?_
  rcases swq3 w with rfl | rfl | rfl | hsw
  · refine V_tableIn (tgt := 32) C dX9_isPart_1 (by decide) (by decide) rfl (by decide) ?_
    refine V_iload_n C dX9_isPart_32 rfl ?_
    refine V_i2l C dX9_isPart_33 ?_
    refine V_lconst C 0 dX9_isPart_34 (by decide) ?_
    refine V_ldc2 C dX9_isPart_35 q990 ?_
    refine V_cs C hE dX9_isPart_38 (c_X9_in (a := v) (lo := 0) (hi := 6) (by decide +kernel) (by decide +kernel)) kyX9_in q991 rfl rfl rfl ?_
    exact V_zretD C dX9_isPart_41 hT (bI_congr part_0) rfl
  · refine V_tableIn (tgt := 42) C dX9_isPart_1 (by decide) (by decide) rfl (by decide) ?_
    refine V_iload_n C dX9_isPart_42 rfl ?_
    refine V_i2l C dX9_isPart_43 ?_
    refine V_lconst C 1 dX9_isPart_44 (by decide) ?_
    refine V_ldc2 C dX9_isPart_45 q1039 ?_
    refine V_cs C hE dX9_isPart_48 (c_X9_in (a := v) (lo := 1) (hi := 40) (by decide +kernel) (by decide +kernel)) kyX9_in q991 rfl rfl rfl ?_
    exact V_zretD C dX9_isPart_51 hT (bI_congr part_2) rfl
  · refine V_tableIn (tgt := 52) C dX9_isPart_1 (by decide) (by decide) rfl (by decide) ?_
    refine V_iload_n C dX9_isPart_52 rfl ?_
    refine V_i2l C dX9_isPart_53 ?_
    refine V_lconst C 0 dX9_isPart_54 (by decide) ?_
    refine V_ldc2 C dX9_isPart_55 q1040 ?_
    refine V_cs C hE dX9_isPart_58 (c_X9_in (a := v) (lo := 0) (hi := 99) (by decide +kernel) (by decide +kernel)) kyX9_in q991 rfl rfl rfl ?_
    exact V_zretD C dX9_isPart_61 hT (bI_congr part_3) rfl
  · have j62 : V x (eA E) (AP x E σ) 0 0 62 [some (.int w), some (.int v)] [] := by
      refine V_iload_n C dX9_isPart_62 rfl ?_
      refine V_iconst C 1 dX9_isPart_63 (by decide) ?_
      refine V_icmp_eq C dX9_isPart_64 (fun c64 => ?_) (fun c64 => ?_)
      · refine V_iload_n C dX9_isPart_72 rfl ?_
        refine V_i2l C dX9_isPart_73 ?_
        refine V_lconst C 0 dX9_isPart_74 (by decide) ?_
        refine V_ldc2 C dX9_isPart_75 q1041 ?_
        refine V_cs C hE dX9_isPart_78 (c_X9_in (a := v) (lo := 0) (hi := 400) (by decide +kernel) (by decide +kernel)) kyX9_in q991 rfl rfl rfl ?_
        refine V_ifeq_b C dX9_isPart_81 (fun c81 => ?_) (fun c81 => ?_)
        · refine V_iconst C 0 dX9_isPart_88 (by decide) ?_
          exact V_zretD C dX9_isPart_89 hT (by first | exact (bI_t ((partx_y (by first | exact Or.inl c64 | exact Or.inr c69)).mp c81)).symm | exact (bI_f (fun q => c81 ((partx_y (by first | exact Or.inl c64 | exact Or.inr c69)).mpr q))).symm | exact (bI_f (partx_n hsw c64 c69)).symm) rfl
        · refine V_iconst C 1 dX9_isPart_84 (by decide) ?_
          refine V_goto C dX9_isPart_85 ?_
          exact V_zretD C dX9_isPart_89 hT (by first | exact (bI_t ((partx_y (by first | exact Or.inl c64 | exact Or.inr c69)).mp c81)).symm | exact (bI_f (fun q => c81 ((partx_y (by first | exact Or.inl c64 | exact Or.inr c69)).mpr q))).symm | exact (bI_f (partx_n hsw c64 c69)).symm) rfl
      · refine V_iload_n C dX9_isPart_67 rfl ?_
        refine V_iconst C 4 dX9_isPart_68 (by decide) ?_
        refine V_icmp_ne C dX9_isPart_69 (fun c69 => ?_) (fun c69 => ?_)
        · refine V_iconst C 0 dX9_isPart_88 (by decide) ?_
          exact V_zretD C dX9_isPart_89 hT (by first | exact (bI_t ((partx_y (by first | exact Or.inl c64 | exact Or.inr c69)).mp c81)).symm | exact (bI_f (fun q => c81 ((partx_y (by first | exact Or.inl c64 | exact Or.inr c69)).mpr q))).symm | exact (bI_f (partx_n hsw c64 c69)).symm) rfl
        · refine V_iload_n C dX9_isPart_72 rfl ?_
          refine V_i2l C dX9_isPart_73 ?_
          refine V_lconst C 0 dX9_isPart_74 (by decide) ?_
          refine V_ldc2 C dX9_isPart_75 q1041 ?_
          refine V_cs C hE dX9_isPart_78 (c_X9_in (a := v) (lo := 0) (hi := 400) (by decide +kernel) (by decide +kernel)) kyX9_in q991 rfl rfl rfl ?_
          refine V_ifeq_b C dX9_isPart_81 (fun c81 => ?_) (fun c81 => ?_)
          · refine V_iconst C 0 dX9_isPart_88 (by decide) ?_
            exact V_zretD C dX9_isPart_89 hT (by first | exact (bI_t ((partx_y (by first | exact Or.inl c64 | exact Or.inr c69)).mp c81)).symm | exact (bI_f (fun q => c81 ((partx_y (by first | exact Or.inl c64 | exact Or.inr c69)).mpr q))).symm | exact (bI_f (partx_n hsw c64 c69)).symm) rfl
          · refine V_iconst C 1 dX9_isPart_84 (by decide) ?_
            refine V_goto C dX9_isPart_85 ?_
            exact V_zretD C dX9_isPart_89 hT (by first | exact (bI_t ((partx_y (by first | exact Or.inl c64 | exact Or.inr c69)).mp c81)).symm | exact (bI_f (fun q => c81 ((partx_y (by first | exact Or.inl c64 | exact Or.inr c69)).mpr q))).symm | exact (bI_f (partx_n hsw c64 c69)).symm) rfl
    rcases hsw with rfl | hsw
    · exact V_tableIn (tgt := 62) C dX9_isPart_1 (by decide) (by decide) rfl (by decide) j62
    · exact V_tableOut (tgt := 62) C dX9_isPart_1 hsw (by decide) j62

theorem c_X9_change {l : Launch} {E : En} {σ : Sg} {p0 p1 p2 : Int32}  : MN l yX9_change cX9_change 5 (some .int) rmX9_change E [.ref (ad E 73), .int p0, .int p1, .int p2] σ (PQ σ (S_change (σ 74) p0 p1 p2) (us σ 74 (uh (σ 74) (hk p0) (hk p1) p2))) := by
  refine MN_of (by decide +kernel) rfl fun x C hE hT hcan => ?_
  have C : CX x cX9_change RX9 rmX9_change := C
  refine V_L (L' := [some (.ref (ad E 73)), some (.int p0), some (.int p1), some (.int p2), none]) rfl ?_
  refine V_aload_n C dX9_change_0 rfl ?_
  refine V_iload_n C dX9_change_1 rfl ?_
  by_cases hh : isH (σ 74) p0
  · obtain ⟨i, hi, rfl, hi8⟩ := isH_of (hcan.2.1 74 (by omega) (by omega)) hh
    refine V_cv C hE dX9_change_2 (c_X9_isHouse) kyX9_isHouse q1011 (isoO 73 rfl rfl rfl rfl) rfl rfl rfl ?_
    refine V_ifeq_b C dX9_change_5 (fun c5 => absurd (hh) c5) (fun c5 => ?_)
    refine V_iload_n C dX9_change_8 rfl ?_
    refine V_iload_n C dX9_change_9 rfl ?_
    refine V_cs C hE dX9_change_10 (c_X9_isPart) kyX9_isPart q1036 rfl rfl rfl ?_
    refine V_ifne_b C dX9_change_13 (fun c13 => ?_) (fun c13 => ?_)
    · obtain ⟨w, rfl, hw⟩ := i32_le (m := 4) (by omega) c13.1.1 c13.1.2
      refine V_aload_n C dX9_change_23 rfl ?_
      refine V_iload_n C dX9_change_24 rfl ?_
      refine V_iload_n C dX9_change_25 rfl ?_
      refine V_cv C hE dX9_change_26 (c_X9_its (i := i) (j := w) rfl hi (by omega)) kyX9_its q1016 (isoO 73 rfl rfl rfl rfl) rfl rfl rfl ?_
      refine V_istore C dX9_change_29 rfl ?_
      refine V_aload_n C dX9_change_31 rfl ?_
      refine V_get C dX9_change_32 (rdO (j := 0) 73 rfl rfl rfl rfl rfl) in_X9 (by decide) q907 rfl ?_
      refine V_iload_n C dX9_change_35 rfl ?_
      refine V_iload_n C dX9_change_36 rfl ?_
      refine V_cs C hE dX9_change_37 (c_X9_at rfl) kyX9_at q1004 rfl rfl rfl ?_
      refine V_iload_n C dX9_change_40 rfl ?_
      refine V_iastN C (15+6*i+w) rfl (by omega) (by omega) dX9_change_41 (wrMh 74 rfl rfl (by first | assumption | omega | (simp (disch := omega) only [us_s, us_n, nh_uh, nh_upd, nh_passN, nh_goF, nh_quarterF]; assumption)) w (by omega)) ?_
      refine V_iload C dX9_change_42 rfl ?_
      exact V_iretN C dX9_change_44 hT (PQ_ok (by unfold S_change; rw [if_pos hh, if_pos c13.1, if_pos c13.2, hk_nI hi8, hk_n (by omega)]) rfl (by rw [hk_nI hi8, hk_n (by omega)]; exact EqY.rf _))
    · refine V_aload_n C dX9_change_16 rfl ?_
      refine V_ldc C dX9_change_17 q994 ?_
      refine V_cv C hE dX9_change_19 (c_X9_finds (j := 0) (by decide +kernel) (by omega)) kyX9_finds q995 (isoO 73 rfl rfl rfl rfl) rfl rfl rfl ?_
      exact V_iretN C dX9_change_22 hT (PQ_fail (by decide +kernel) (by unfold S_change; rw [if_pos hh]; by_cases qa : inP p1 0 4; (rw [if_pos qa, if_neg (fun qb => c13 ⟨qa, qb⟩)]); rw [if_neg qa]) (EqY.rf σ))
  · refine V_cv C hE dX9_change_2 (c_X9_isHouse) kyX9_isHouse q1011 (isoO 73 rfl rfl rfl rfl) rfl rfl rfl ?_
    refine V_ifeq_b C dX9_change_5 (fun c5 => ?_) (fun c5 => absurd c5 (hh))
    refine V_aload_n C dX9_change_16 rfl ?_
    refine V_ldc C dX9_change_17 q994 ?_
    refine V_cv C hE dX9_change_19 (c_X9_finds (j := 0) (by decide +kernel) (by omega)) kyX9_finds q995 (isoO 73 rfl rfl rfl rfl) rfl rfl rfl ?_
    exact V_iretN C dX9_change_22 hT (PQ_fail (by decide +kernel) (by unfold S_change; rw [if_neg hh]) (EqY.rf σ))

theorem c_X9_steep {l : Launch} {E : En} {σ : Sg} {p0 p1 : Int32}  : MN l yX9_steep cX9_steep 4 (some .int) rmX9_steep E [.ref (ad E 73), .int p0, .int p1] σ (PQ σ (S_steep (σ 74) p0 p1) (us σ 74 (upd (σ 74) (8 + hk p0) p1))) := by
  refine MN_of (by decide +kernel) rfl fun x C hE hT hcan => ?_
  have C : CX x cX9_steep RX9 rmX9_steep := C
  refine V_L (L' := [some (.ref (ad E 73)), some (.int p0), some (.int p1), none]) rfl ?_
  refine V_iload_n C dX9_steep_0 rfl ?_
  refine V_i2l C dX9_steep_1 ?_
  refine V_lconst C 0 dX9_steep_2 (by decide) ?_
  refine V_ldc2 C dX9_steep_3 q990 ?_
  refine V_cs C hE dX9_steep_6 (c_X9_in (a := p0) (lo := 0) (hi := 6) (by decide +kernel) (by decide +kernel)) kyX9_in q991 rfl rfl rfl ?_
  refine V_ifeq_b C dX9_steep_9 (fun c9 => ?_) (fun c9 => ?_)
  · refine V_aload_n C dX9_steep_24 rfl ?_
    refine V_ldc C dX9_steep_25 q994 ?_
    refine V_cv C hE dX9_steep_27 (c_X9_finds (j := 0) (by decide +kernel) (by omega)) kyX9_finds q995 (isoO 73 rfl rfl rfl rfl) rfl rfl rfl ?_
    exact V_iretN C dX9_steep_30 hT (PQ_fail (by decide +kernel) (by unfold S_steep; all_goals (first | rw [if_pos c9] | rw [if_neg c9])) (EqY.rf σ))
  · refine V_iload_n C dX9_steep_12 rfl ?_
    refine V_i2l C dX9_steep_13 ?_
    refine V_lconst C 0 dX9_steep_14 (by decide) ?_
    refine V_ldc2 C dX9_steep_15 q1046 ?_
    refine V_cs C hE dX9_steep_18 (c_X9_in (a := p1) (lo := 0) (hi := 9) (by decide +kernel) (by decide +kernel)) kyX9_in q991 rfl rfl rfl ?_
    refine V_ifne_b C dX9_steep_21 (fun c21 => ?_) (fun c21 => ?_)
    · obtain ⟨w, rfl, hw⟩ := i32_le (m := 6) (by omega) c9.1 c9.2
      refine V_aload_n C dX9_steep_31 rfl ?_
      refine V_get C dX9_steep_32 (rdO (j := 0) 73 rfl rfl rfl rfl rfl) in_X9 (by decide) q907 rfl ?_
      refine V_bipush C 8 dX9_steep_35 (by decide) ?_
      refine V_iload_n C dX9_steep_37 rfl ?_
      refine V_iadd C dX9_steep_38 ?_
      refine V_ialdN C (8+w) (nI_add 8 w) (by omega) (by omega) dX9_steep_39 (rdM 74 (8+w) rfl rfl (sc8 (by omega))) ?_
      refine V_istore_n C dX9_steep_40 rfl ?_
      refine V_aload_n C dX9_steep_41 rfl ?_
      refine V_get C dX9_steep_42 (rdO (j := 0) 73 rfl rfl rfl rfl rfl) in_X9 (by decide) q907 rfl ?_
      refine V_bipush C 8 dX9_steep_45 (by decide) ?_
      refine V_iload_n C dX9_steep_47 rfl ?_
      refine V_iadd C dX9_steep_48 ?_
      refine V_iload_n C dX9_steep_49 rfl ?_
      refine V_iastN C (8+w) (nI_add 8 w) (by omega) (by omega) dX9_steep_50 (wrM 74 (8+w) rfl rfl (sc8 (by omega)) (q1n (by omega))) ?_
      refine V_iload_n C dX9_steep_51 rfl ?_
      exact V_iretN C dX9_steep_52 hT (PQ_ok (by unfold S_steep; rw [if_pos c9, if_pos c21, hk_n (by omega)]) rfl (by rw [hk_n (by omega)]; exact EqY.rf _))
    · refine V_aload_n C dX9_steep_24 rfl ?_
      refine V_ldc C dX9_steep_25 q994 ?_
      refine V_cv C hE dX9_steep_27 (c_X9_finds (j := 0) (by decide +kernel) (by omega)) kyX9_finds q995 (isoO 73 rfl rfl rfl rfl) rfl rfl rfl ?_
      exact V_iretN C dX9_steep_30 hT (PQ_fail (by decide +kernel) (by unfold S_steep; all_goals (first | rw [if_pos c9] | rw [if_neg c9]); all_goals (first | rw [if_pos c21] | rw [if_neg c21])) (EqY.rf σ))

theorem c_X9_weather {l : Launch} {E : En} {σ : Sg} {p0 p1 : Int32}  : MN l yX9_weather cX9_weather 4 (some .int) rmX9_weather E [.ref (ad E 73), .int p0, .int p1] σ (PQ σ (S_weather (σ 74) p0 p1) (us σ 74 (N_weather (σ 74) p0 p1))) := by
  refine MN_of (by decide +kernel) rfl fun x C hE hT hcan => ?_
  have C : CX x cX9_weather RX9 rmX9_weather := C
  refine V_L (L' := [some (.ref (ad E 73)), some (.int p0), some (.int p1), none]) rfl ?_
  refine V_iload_n C dX9_weather_0 rfl ?_
  refine V_i2l C dX9_weather_1 ?_
  refine V_lconst C 0 dX9_weather_2 (by decide) ?_
  refine V_lconst C 1 dX9_weather_3 (by decide) ?_
  refine V_cs C hE dX9_weather_4 (c_X9_in (a := p0) (lo := 0) (hi := 1) (by decide +kernel) (by decide +kernel)) kyX9_in q991 rfl rfl rfl ?_
  refine V_ifeq_b C dX9_weather_7 (fun c7 => ?_) (fun c7 => ?_)
  · refine V_aload_n C dX9_weather_30 rfl ?_
    refine V_ldc C dX9_weather_31 q994 ?_
    refine V_cv C hE dX9_weather_33 (c_X9_finds (j := 0) (by decide +kernel) (by omega)) kyX9_finds q995 (isoO 73 rfl rfl rfl rfl) rfl rfl rfl ?_
    exact V_iretN C dX9_weather_36 hT (PQ_fail (by decide +kernel) (by unfold S_weather; rw [if_neg (fun e => c7 (by rw [e]; exact ⟨by decide, by decide⟩)), if_neg (fun e => c7 (by rw [e]; exact ⟨by decide, by decide⟩))]) (EqY.rf σ))
  · rcases in01 c7 with rfl | rfl
    · refine V_iload_n C dX9_weather_10 rfl ?_
      refine V_i2l C dX9_weather_11 ?_
      refine V_lconst C 0 dX9_weather_12 (by decide) ?_
      refine V_iload_n C dX9_weather_13 rfl ?_
      refine V_if_ne C dX9_weather_14 (fun c14 => absurd (rfl) c14) (fun c14 => ?_)
      refine V_lconst C 1 dX9_weather_17 (by decide) ?_
      refine V_goto C dX9_weather_18 ?_
      refine V_cs C hE dX9_weather_24 (c_X9_in (a := p1) (lo := 0) (hi := 1) (by decide +kernel) (by decide +kernel)) kyX9_in q991 rfl rfl rfl ?_
      refine V_ifne_b C dX9_weather_27 (fun c27 => ?_) (fun c27 => ?_)
      · refine V_aload_n C dX9_weather_37 rfl ?_
        refine V_get C dX9_weather_38 (rdO (j := 0) 73 rfl rfl rfl rfl rfl) in_X9 (by decide) q907 rfl ?_
        refine V_iconst C 5 dX9_weather_41 (by decide) ?_
        refine V_iload_n C dX9_weather_42 rfl ?_
        refine V_iadd C dX9_weather_43 ?_
        refine V_iald C 5 (by decide) rfl rfl dX9_weather_44 (rdM 74 5 rfl rfl rfl) ?_
        refine V_istore_n C dX9_weather_45 rfl ?_
        refine V_aload_n C dX9_weather_46 rfl ?_
        refine V_get C dX9_weather_47 (rdO (j := 0) 73 rfl rfl rfl rfl rfl) in_X9 (by decide) q907 rfl ?_
        refine V_iconst C 5 dX9_weather_50 (by decide) ?_
        refine V_iload_n C dX9_weather_51 rfl ?_
        refine V_iadd C dX9_weather_52 ?_
        refine V_iload_n C dX9_weather_53 rfl ?_
        refine V_iast C 5 (by decide) rfl rfl dX9_weather_54 (wrM 74 5 rfl rfl rfl rfl) ?_
        refine V_iload_n C dX9_weather_55 rfl ?_
        exact V_iretN C dX9_weather_56 hT (PQ_ok (by unfold S_weather; rw [if_pos rfl, if_pos c27]) rfl (by unfold N_weather; rw [if_pos rfl]; exact EqY.rf _))
      · refine V_aload_n C dX9_weather_30 rfl ?_
        refine V_ldc C dX9_weather_31 q994 ?_
        refine V_cv C hE dX9_weather_33 (c_X9_finds (j := 0) (by decide +kernel) (by omega)) kyX9_finds q995 (isoO 73 rfl rfl rfl rfl) rfl rfl rfl ?_
        exact V_iretN C dX9_weather_36 hT (PQ_fail (by decide +kernel) (by unfold S_weather; rw [if_pos rfl, if_neg c27]) (EqY.rf σ))
    · refine V_iload_n C dX9_weather_10 rfl ?_
      refine V_i2l C dX9_weather_11 ?_
      refine V_lconst C 0 dX9_weather_12 (by decide) ?_
      refine V_iload_n C dX9_weather_13 rfl ?_
      refine V_if_ne C dX9_weather_14 (fun c14 => ?_) (fun c14 => absurd c14 (by decide))
      refine V_ldc2 C dX9_weather_21 q1051 ?_
      refine V_cs C hE dX9_weather_24 (c_X9_in (a := p1) (lo := 0) (hi := 100) (by decide +kernel) (by decide +kernel)) kyX9_in q991 rfl rfl rfl ?_
      refine V_ifne_b C dX9_weather_27 (fun c27 => ?_) (fun c27 => ?_)
      · refine V_aload_n C dX9_weather_37 rfl ?_
        refine V_get C dX9_weather_38 (rdO (j := 0) 73 rfl rfl rfl rfl rfl) in_X9 (by decide) q907 rfl ?_
        refine V_iconst C 5 dX9_weather_41 (by decide) ?_
        refine V_iload_n C dX9_weather_42 rfl ?_
        refine V_iadd C dX9_weather_43 ?_
        refine V_iald C 6 (by decide) rfl rfl dX9_weather_44 (rdM 74 6 rfl rfl rfl) ?_
        refine V_istore_n C dX9_weather_45 rfl ?_
        refine V_aload_n C dX9_weather_46 rfl ?_
        refine V_get C dX9_weather_47 (rdO (j := 0) 73 rfl rfl rfl rfl rfl) in_X9 (by decide) q907 rfl ?_
        refine V_iconst C 5 dX9_weather_50 (by decide) ?_
        refine V_iload_n C dX9_weather_51 rfl ?_
        refine V_iadd C dX9_weather_52 ?_
        refine V_iload_n C dX9_weather_53 rfl ?_
        refine V_iast C 6 (by decide) rfl rfl dX9_weather_54 (wrM 74 6 rfl rfl rfl rfl) ?_
        refine V_iload_n C dX9_weather_55 rfl ?_
        exact V_iretN C dX9_weather_56 hT (PQ_ok (by unfold S_weather; rw [if_neg (by decide), if_pos rfl, if_pos c27]) rfl (by unfold N_weather; rw [if_neg (by decide)]; exact EqY.rf _))
      · refine V_aload_n C dX9_weather_30 rfl ?_
        refine V_ldc C dX9_weather_31 q994 ?_
        refine V_cv C hE dX9_weather_33 (c_X9_finds (j := 0) (by decide +kernel) (by omega)) kyX9_finds q995 (isoO 73 rfl rfl rfl rfl) rfl rfl rfl ?_
        exact V_iretN C dX9_weather_36 hT (PQ_fail (by decide +kernel) (by unfold S_weather; rw [if_neg (by decide), if_pos rfl, if_neg c27]) (EqY.rf σ))

theorem c_X9_lend {l : Launch} {E : En} {σ : Sg} {p0 p1 p2 : Int32}  : MN l yX9_lend cX9_lend 4 (some .int) rmX9_lend E [.ref (ad E 73), .int p0, .int p1, .int p2] σ (PQ σ (S_lend (σ 74) p0 p1 p2) (us σ 74 (N_lend (σ 74) (hk p0) (hk p1) p2))) := by
  refine MN_of (by decide +kernel) rfl fun x C hE hT hcan => ?_
  have C : CX x cX9_lend RX9 rmX9_lend := C
  have h8 : nh (σ 74) ≤ 8 := (hcan.2.1 74 (by omega) (by omega)).2.1
  refine V_L (L' := [some (.ref (ad E 73)), some (.int p0), some (.int p1), some (.int p2)]) rfl ?_
  refine V_aload_n C dX9_lend_0 rfl ?_
  refine V_iload_n C dX9_lend_1 rfl ?_
  by_cases hh : isH (σ 74) p0
  · obtain ⟨i, hi, rfl, hi8⟩ := isH_of (hcan.2.1 74 (by omega) (by omega)) hh
    refine V_cv C hE dX9_lend_2 (c_X9_isHouse) kyX9_isHouse q1011 (isoO 73 rfl rfl rfl rfl) rfl rfl rfl ?_
    try simp (disch := omega) only [us_us, us_s, us_n, hf_uh_s, hf_uh_n]
    refine V_ifeq_b C dX9_lend_5 (fun c5 => absurd (hh) c5) (fun c5 => ?_)
    refine V_aload_n C dX9_lend_8 rfl ?_
    refine V_iload_n C dX9_lend_9 rfl ?_
    by_cases hb : isH (σ 74) p1
    · obtain ⟨j, hj, rfl, hj8⟩ := isH_of (hcan.2.1 74 (by omega) (by omega)) hb
      refine V_cv C hE dX9_lend_10 (c_X9_isHouse) kyX9_isHouse q1011 (isoO 73 rfl rfl rfl rfl) rfl rfl rfl ?_
      try simp (disch := omega) only [us_us, us_s, us_n, hf_uh_s, hf_uh_n]
      refine V_ifeq_b C dX9_lend_13 (fun c13 => absurd (hb) c13) (fun c13 => ?_)
      refine V_iload_n C dX9_lend_16 rfl ?_
      refine V_iload_n C dX9_lend_17 rfl ?_
      refine V_icmp_eq C dX9_lend_18 (fun c18 => ?_) (fun c18 => ?_)
      · refine V_aload_n C dX9_lend_33 rfl ?_
        refine V_ldc C dX9_lend_34 q994 ?_
        refine V_cv C hE dX9_lend_36 (c_X9_finds (j := 0) (by decide +kernel) (by omega)) kyX9_finds q995 (isoO 73 rfl rfl rfl rfl) rfl rfl rfl ?_
        try simp (disch := omega) only [us_us, us_s, us_n, hf_uh_s, hf_uh_n]
        exact V_iretN C dX9_lend_39 hT (PQ_fail (by decide +kernel) (by unfold S_lend; (try rw [hk_nI hi8]); (try rw [hk_nI hj8]); all_goals (first | rw [if_pos hh] | rw [if_neg hh]); all_goals (first | rw [if_pos hb] | rw [if_neg hb]); all_goals (first | rw [if_pos c18] | rw [if_neg c18])) (EqY.rf σ))
      · refine V_iload_n C dX9_lend_21 rfl ?_
        refine V_i2l C dX9_lend_22 ?_
        refine V_lconst C 1 dX9_lend_23 (by decide) ?_
        refine V_ldc2 C dX9_lend_24 q1040 ?_
        refine V_cs C hE dX9_lend_27 (c_X9_in (a := p2) (lo := 1) (hi := 99) (by decide +kernel) (by decide +kernel)) kyX9_in q991 rfl rfl rfl ?_
        try simp (disch := omega) only [us_us, us_s, us_n, hf_uh_s, hf_uh_n]
        refine V_ifne_b C dX9_lend_30 (fun c30 => ?_) (fun c30 => ?_)
        · have hij : i ≠ j := fun e => c18 (by rw [e])
          refine V_aload_n C dX9_lend_40 rfl ?_
          refine V_iload_n C dX9_lend_41 rfl ?_
          refine V_iconst C 3 dX9_lend_42 (by decide) ?_
          refine V_cv C hE dX9_lend_43 (c_X9_its (j := 3) rfl (by first | assumption | omega | (simp (disch := omega) only [us_s, us_n, nh_uh, nh_upd, nh_passN, nh_goF, nh_quarterF]; assumption)) (by omega)) kyX9_its q1016 (isoO 73 rfl rfl rfl rfl) rfl rfl rfl ?_
          try simp (disch := omega) only [us_us, us_s, us_n, hf_uh_s, hf_uh_n]
          refine V_iload_n C dX9_lend_46 rfl ?_
          refine V_icmp_lt C dX9_lend_47 (fun c47 => ?_) (fun c47 => ?_)
          · refine V_aload_n C dX9_lend_63 rfl ?_
            refine V_ldc C dX9_lend_64 q1056 ?_
            refine V_cv C hE dX9_lend_66 (c_X9_finds (j := 4) (by decide +kernel) (by omega)) kyX9_finds q995 (isoO 73 rfl rfl rfl rfl) rfl rfl rfl ?_
            try simp (disch := omega) only [us_us, us_s, us_n, hf_uh_s, hf_uh_n]
            exact V_iretN C dX9_lend_69 hT (PQ_fail (by decide +kernel) (by unfold S_lend; (try rw [hk_nI hi8]); (try rw [hk_nI hj8]); all_goals (first | rw [if_pos hh] | rw [if_neg hh]); all_goals (first | rw [if_pos hb] | rw [if_neg hb]); all_goals (first | rw [if_pos c18] | rw [if_neg c18]); all_goals (first | rw [if_pos c30] | rw [if_neg c30]); all_goals (first | rw [if_pos c47] | rw [if_neg c47])) (EqY.rf σ))
          · refine V_aload_n C dX9_lend_50 rfl ?_
            refine V_iload_n C dX9_lend_51 rfl ?_
            refine V_iconst C 3 dX9_lend_52 (by decide) ?_
            refine V_cv C hE dX9_lend_53 (c_X9_its (j := 3) rfl (by first | assumption | omega | (simp (disch := omega) only [us_s, us_n, nh_uh, nh_upd, nh_passN, nh_goF, nh_quarterF]; assumption)) (by omega)) kyX9_its q1016 (isoO 73 rfl rfl rfl rfl) rfl rfl rfl ?_
            try simp (disch := omega) only [us_us, us_s, us_n, hf_uh_s, hf_uh_n]
            refine V_iload_n C dX9_lend_56 rfl ?_
            refine V_iadd C dX9_lend_57 ?_
            refine V_bipush C 99 dX9_lend_58 (by decide) ?_
            refine V_icmp_le C dX9_lend_60 (fun c60 => ?_) (fun c60 => ?_)
            · refine V_aload_n C dX9_lend_70 rfl ?_
              refine V_get C dX9_lend_71 (rdO (j := 0) 73 rfl rfl rfl rfl rfl) in_X9 (by decide) q907 rfl ?_
              refine V_iload_n C dX9_lend_74 rfl ?_
              refine V_iconst C 3 dX9_lend_75 (by decide) ?_
              refine V_cs C hE dX9_lend_76 (c_X9_at rfl) kyX9_at q1004 rfl rfl rfl ?_
              try simp (disch := omega) only [us_us, us_s, us_n, hf_uh_s, hf_uh_n]
              refine V_dup2 C dX9_lend_79 rfl rfl ?_
              refine V_ialdN C (15+6*i+3) rfl (by omega) (by omega) dX9_lend_80 (rdMh 74 rfl rfl (by first | assumption | omega | (simp (disch := omega) only [us_s, us_n, nh_uh, nh_upd, nh_passN, nh_goF, nh_quarterF]; assumption)) 3 (by omega)) ?_
              try simp (disch := omega) only [us_us, us_s, us_n, hf_uh_s, hf_uh_n]
              refine V_iload_n C dX9_lend_81 rfl ?_
              refine V_isub C dX9_lend_82 ?_
              refine V_iastN C (15+6*i+3) rfl (by omega) (by omega) dX9_lend_83 (wrMh 74 rfl rfl (by first | assumption | omega | (simp (disch := omega) only [us_s, us_n, nh_uh, nh_upd, nh_passN, nh_goF, nh_quarterF]; assumption)) 3 (by omega)) ?_
              try simp (disch := omega) only [us_us, us_s, us_n, hf_uh_s, hf_uh_n]
              refine V_aload_n C dX9_lend_84 rfl ?_
              refine V_get C dX9_lend_85 (rdO (j := 0) 73 rfl rfl rfl rfl rfl) in_X9 (by decide) q907 rfl ?_
              refine V_iload_n C dX9_lend_88 rfl ?_
              refine V_iconst C 3 dX9_lend_89 (by decide) ?_
              refine V_cs C hE dX9_lend_90 (c_X9_at rfl) kyX9_at q1004 rfl rfl rfl ?_
              try simp (disch := omega) only [us_us, us_s, us_n, hf_uh_s, hf_uh_n]
              refine V_dup2 C dX9_lend_93 rfl rfl ?_
              refine V_ialdN C (15+6*j+3) rfl (by omega) (by omega) dX9_lend_94 (rdMh 74 rfl rfl (by first | assumption | omega | (simp (disch := omega) only [us_s, us_n, nh_uh, nh_upd, nh_passN, nh_goF, nh_quarterF]; assumption)) 3 (by omega)) ?_
              try simp (disch := omega) only [us_us, us_s, us_n, hf_uh_s, hf_uh_n]
              refine V_iload_n C dX9_lend_95 rfl ?_
              refine V_iadd C dX9_lend_96 ?_
              refine V_iastN C (15+6*j+3) rfl (by omega) (by omega) dX9_lend_97 (wrMh 74 rfl rfl (by first | assumption | omega | (simp (disch := omega) only [us_s, us_n, nh_uh, nh_upd, nh_passN, nh_goF, nh_quarterF]; assumption)) 3 (by omega)) ?_
              try simp (disch := omega) only [us_us, us_s, us_n, hf_uh_s, hf_uh_n]
              refine V_aload_n C dX9_lend_98 rfl ?_
              refine V_iload_n C dX9_lend_99 rfl ?_
              refine V_iconst C 3 dX9_lend_100 (by decide) ?_
              refine V_cv C hE dX9_lend_101 (c_X9_its (j := 3) rfl (by first | assumption | omega | (simp (disch := omega) only [us_s, us_n, nh_uh, nh_upd, nh_passN, nh_goF, nh_quarterF]; assumption)) (by omega)) kyX9_its q1016 (isoO 73 rfl rfl rfl rfl) rfl rfl rfl ?_
              try simp (disch := omega) only [us_us, us_s, us_n, hf_uh_s, hf_uh_n]
              exact V_iretN C dX9_lend_104 hT (PQ_ok (by unfold S_lend; (try rw [hk_nI hi8]); (try rw [hk_nI hj8]); all_goals (first | rw [if_pos hh] | rw [if_neg hh]); all_goals (first | rw [if_pos hb] | rw [if_neg hb]); all_goals (first | rw [if_pos c18] | rw [if_neg c18]); all_goals (first | rw [if_pos c30] | rw [if_neg c30]); all_goals (first | rw [if_pos c47] | rw [if_neg c47]); all_goals (first | rw [if_pos c60] | rw [if_neg c60])) rfl (by rw [hk_nI hi8, hk_nI hj8]; exact EqY.rf _))
            · refine V_aload_n C dX9_lend_63 rfl ?_
              refine V_ldc C dX9_lend_64 q1056 ?_
              refine V_cv C hE dX9_lend_66 (c_X9_finds (j := 4) (by decide +kernel) (by omega)) kyX9_finds q995 (isoO 73 rfl rfl rfl rfl) rfl rfl rfl ?_
              try simp (disch := omega) only [us_us, us_s, us_n, hf_uh_s, hf_uh_n]
              exact V_iretN C dX9_lend_69 hT (PQ_fail (by decide +kernel) (by unfold S_lend; (try rw [hk_nI hi8]); (try rw [hk_nI hj8]); all_goals (first | rw [if_pos hh] | rw [if_neg hh]); all_goals (first | rw [if_pos hb] | rw [if_neg hb]); all_goals (first | rw [if_pos c18] | rw [if_neg c18]); all_goals (first | rw [if_pos c30] | rw [if_neg c30]); all_goals (first | rw [if_pos c47] | rw [if_neg c47]); all_goals (first | rw [if_pos c60] | rw [if_neg c60])) (EqY.rf σ))
        · refine V_aload_n C dX9_lend_33 rfl ?_
          refine V_ldc C dX9_lend_34 q994 ?_
          refine V_cv C hE dX9_lend_36 (c_X9_finds (j := 0) (by decide +kernel) (by omega)) kyX9_finds q995 (isoO 73 rfl rfl rfl rfl) rfl rfl rfl ?_
          try simp (disch := omega) only [us_us, us_s, us_n, hf_uh_s, hf_uh_n]
          exact V_iretN C dX9_lend_39 hT (PQ_fail (by decide +kernel) (by unfold S_lend; (try rw [hk_nI hi8]); (try rw [hk_nI hj8]); all_goals (first | rw [if_pos hh] | rw [if_neg hh]); all_goals (first | rw [if_pos hb] | rw [if_neg hb]); all_goals (first | rw [if_pos c18] | rw [if_neg c18]); all_goals (first | rw [if_pos c30] | rw [if_neg c30])) (EqY.rf σ))
    · refine V_cv C hE dX9_lend_10 (c_X9_isHouse) kyX9_isHouse q1011 (isoO 73 rfl rfl rfl rfl) rfl rfl rfl ?_
      try simp (disch := omega) only [us_us, us_s, us_n, hf_uh_s, hf_uh_n]
      refine V_ifeq_b C dX9_lend_13 (fun c13 => ?_) (fun c13 => absurd c13 (hb))
      refine V_aload_n C dX9_lend_33 rfl ?_
      refine V_ldc C dX9_lend_34 q994 ?_
      refine V_cv C hE dX9_lend_36 (c_X9_finds (j := 0) (by decide +kernel) (by omega)) kyX9_finds q995 (isoO 73 rfl rfl rfl rfl) rfl rfl rfl ?_
      try simp (disch := omega) only [us_us, us_s, us_n, hf_uh_s, hf_uh_n]
      exact V_iretN C dX9_lend_39 hT (PQ_fail (by decide +kernel) (by unfold S_lend; (try rw [hk_nI hi8]); (try rw [hk_nI hj8]); all_goals (first | rw [if_pos hh] | rw [if_neg hh]); all_goals (first | rw [if_pos hb] | rw [if_neg hb])) (EqY.rf σ))
  · refine V_cv C hE dX9_lend_2 (c_X9_isHouse) kyX9_isHouse q1011 (isoO 73 rfl rfl rfl rfl) rfl rfl rfl ?_
    try simp (disch := omega) only [us_us, us_s, us_n, hf_uh_s, hf_uh_n]
    refine V_ifeq_b C dX9_lend_5 (fun c5 => ?_) (fun c5 => absurd c5 (hh))
    refine V_aload_n C dX9_lend_33 rfl ?_
    refine V_ldc C dX9_lend_34 q994 ?_
    refine V_cv C hE dX9_lend_36 (c_X9_finds (j := 0) (by decide +kernel) (by omega)) kyX9_finds q995 (isoO 73 rfl rfl rfl rfl) rfl rfl rfl ?_
    try simp (disch := omega) only [us_us, us_s, us_n, hf_uh_s, hf_uh_n]
    exact V_iretN C dX9_lend_39 hT (PQ_fail (by decide +kernel) (by unfold S_lend; (try rw [hk_nI hi8]); (try rw [hk_nI hj8]); all_goals (first | rw [if_pos hh] | rw [if_neg hh])) (EqY.rf σ))

theorem c_X9_way {l : Launch} {E : En} {σ : Sg} {p0 p1 : Int32}  : MN l yX9_way cX9_way 3 (some .int) rmX9_way E [.ref (ad E 73), .int p0, .int p1] σ (PQ σ (S_way (σ 74) p0 p1) (σ)) := by
  refine MN_of (by decide +kernel) rfl fun x C hE hT hcan => ?_
  have C : CX x cX9_way RX9 rmX9_way := C
  refine V_L (L' := [some (.ref (ad E 73)), some (.int p0), some (.int p1)]) rfl ?_
  refine V_aload_n C dX9_way_0 rfl ?_
  refine V_iload_n C dX9_way_1 rfl ?_
  by_cases hh : isH (σ 74) p0
  · obtain ⟨i, hi, rfl, hi8⟩ := isH_of (hcan.2.1 74 (by omega) (by omega)) hh
    refine V_cv C hE dX9_way_2 (c_X9_isHouse) kyX9_isHouse q1011 (isoO 73 rfl rfl rfl rfl) rfl rfl rfl ?_
    refine V_ifeq_b C dX9_way_5 (fun c5 => absurd (hh) c5) (fun c5 => ?_)
    refine V_aload_n C dX9_way_8 rfl ?_
    refine V_iload_n C dX9_way_9 rfl ?_
    by_cases hb : isH (σ 74) p1
    · obtain ⟨j, hj, rfl, hj8⟩ := isH_of (hcan.2.1 74 (by omega) (by omega)) hb
      refine V_cv C hE dX9_way_10 (c_X9_isHouse) kyX9_isHouse q1011 (isoO 73 rfl rfl rfl rfl) rfl rfl rfl ?_
      refine V_ifeq_b C dX9_way_13 (fun c13 => absurd (hb) c13) (fun c13 => ?_)
      refine V_aload_n C dX9_way_16 rfl ?_
      refine V_iload_n C dX9_way_17 rfl ?_
      refine V_iload_n C dX9_way_18 rfl ?_
      refine V_cv C hE dX9_way_19 (c_X9_wayOf (a := i) (b := j) (by omega) (by omega)) kyX9_wayOf q1061 (isoO 73 rfl rfl rfl rfl) rfl rfl rfl ?_
      refine V_goto C dX9_way_22 ?_
      exact V_iretN C dX9_way_31 hT (PQ_rd (by unfold S_way; (try rw [hk_nI hi8]); (try rw [hk_nI hj8]); all_goals (first | rw [if_pos hh] | rw [if_neg hh]); all_goals (first | rw [if_pos hb] | rw [if_neg hb])) (EqY.rf σ))
    · refine V_cv C hE dX9_way_10 (c_X9_isHouse) kyX9_isHouse q1011 (isoO 73 rfl rfl rfl rfl) rfl rfl rfl ?_
      refine V_ifeq_b C dX9_way_13 (fun c13 => ?_) (fun c13 => absurd c13 (hb))
      refine V_aload_n C dX9_way_25 rfl ?_
      refine V_ldc C dX9_way_26 q994 ?_
      refine V_cv C hE dX9_way_28 (c_X9_finds (j := 0) (by decide +kernel) (by omega)) kyX9_finds q995 (isoO 73 rfl rfl rfl rfl) rfl rfl rfl ?_
      exact V_iretN C dX9_way_31 hT (PQ_fail (by decide +kernel) (by unfold S_way; (try rw [hk_nI hi8]); (try rw [hk_nI hj8]); all_goals (first | rw [if_pos hh] | rw [if_neg hh]); all_goals (first | rw [if_pos hb] | rw [if_neg hb])) (EqY.rf σ))
  · refine V_cv C hE dX9_way_2 (c_X9_isHouse) kyX9_isHouse q1011 (isoO 73 rfl rfl rfl rfl) rfl rfl rfl ?_
    refine V_ifeq_b C dX9_way_5 (fun c5 => ?_) (fun c5 => absurd c5 (hh))
    refine V_aload_n C dX9_way_25 rfl ?_
    refine V_ldc C dX9_way_26 q994 ?_
    refine V_cv C hE dX9_way_28 (c_X9_finds (j := 0) (by decide +kernel) (by omega)) kyX9_finds q995 (isoO 73 rfl rfl rfl rfl) rfl rfl rfl ?_
    exact V_iretN C dX9_way_31 hT (PQ_fail (by decide +kernel) (by unfold S_way; (try rw [hk_nI hi8]); (try rw [hk_nI hj8]); all_goals (first | rw [if_pos hh] | rw [if_neg hh])) (EqY.rf σ))

theorem c_X9_send {l : Launch} {E : En} {σ : Sg} {p0 : Int32}  (hG : GV (σ 74)) : MN l yX9_send cX9_send 2 (some .int) rmX9_send E [.ref (ad E 73), .int p0] σ (PQ σ (S_send (σ 74) p0) (us σ 74 (goF (σ 74) (hk p0)))) := by
  refine MN_of (by decide +kernel) rfl fun x C hE hT hcan => ?_
  have C : CX x cX9_send RX9 rmX9_send := C
  refine V_L (L' := [some (.ref (ad E 73)), some (.int p0)]) rfl ?_
  refine V_aload_n C dX9_send_0 rfl ?_
  refine V_iload_n C dX9_send_1 rfl ?_
  by_cases hh : isH (σ 74) p0
  · obtain ⟨i, hi, rfl, hi8⟩ := isH_of (hcan.2.1 74 (by omega) (by omega)) hh
    refine V_cv C hE dX9_send_2 (c_X9_isHouse) kyX9_isHouse q1011 (isoO 73 rfl rfl rfl rfl) rfl rfl rfl ?_
    refine V_ifne_b C dX9_send_5 (fun c5 => ?_) (fun c5 => absurd (hh) c5)
    refine V_aload_n C dX9_send_15 rfl ?_
    refine V_cv C hE dX9_send_16 (c_X9_isGoing) kyX9_isGoing q1069 (isoO 73 rfl rfl rfl rfl) rfl rfl rfl ?_
    refine V_ifeq_b C dX9_send_19 (fun c19 => ?_) (fun c19 => ?_)
    · refine V_aload_n C dX9_send_29 rfl ?_
      refine V_iload_n C dX9_send_30 rfl ?_
      refine V_cv0 C hE dX9_send_31 (c_X9_sends (b := i) hG.2.2.1 hG.2.2.2 (by omega)) kyX9_sends q1073 (isoO 73 rfl rfl rfl rfl) rfl rfl rfl ?_
      refine V_aload_n C dX9_send_34 rfl ?_
      refine V_get C dX9_send_35 (rdO (j := 0) 73 rfl rfl rfl rfl rfl) in_X9 (by decide) q907 rfl ?_
      refine V_iconst C 3 dX9_send_38 (by decide) ?_
      refine V_iald C 3 rfl rfl rfl dX9_send_39 (rdM 74 3 rfl rfl rfl) ?_
      try simp only [us_s, goF_3]
      exact V_iretN C dX9_send_40 hT (PQ_ok (by unfold S_send; (try rw [hk_nI hi8]); (try rw [hk_nI hj8]); all_goals (first | rw [if_pos hh] | rw [if_neg hh]); all_goals (first | rw [if_pos c19] | rw [if_neg c19])) rfl (by rw [hk_nI hi8]; exact EqY.rf _))
    · refine V_aload_n C dX9_send_22 rfl ?_
      refine V_ldc C dX9_send_23 q1056 ?_
      refine V_cv C hE dX9_send_25 (c_X9_finds (j := 4) (by decide +kernel) (by omega)) kyX9_finds q995 (isoO 73 rfl rfl rfl rfl) rfl rfl rfl ?_
      exact V_iretN C dX9_send_28 hT (PQ_fail (by decide +kernel) (by unfold S_send; (try rw [hk_nI hi8]); (try rw [hk_nI hj8]); all_goals (first | rw [if_pos hh] | rw [if_neg hh]); all_goals (first | rw [if_pos c19] | rw [if_neg c19])) (EqY.rf σ))
  · refine V_cv C hE dX9_send_2 (c_X9_isHouse) kyX9_isHouse q1011 (isoO 73 rfl rfl rfl rfl) rfl rfl rfl ?_
    refine V_ifne_b C dX9_send_5 (fun c5 => absurd c5 (hh)) (fun c5 => ?_)
    refine V_aload_n C dX9_send_8 rfl ?_
    refine V_ldc C dX9_send_9 q994 ?_
    refine V_cv C hE dX9_send_11 (c_X9_finds (j := 0) (by decide +kernel) (by omega)) kyX9_finds q995 (isoO 73 rfl rfl rfl rfl) rfl rfl rfl ?_
    exact V_iretN C dX9_send_14 hT (PQ_fail (by decide +kernel) (by unfold S_send; (try rw [hk_nI hi8]); (try rw [hk_nI hj8]); all_goals (first | rw [if_pos hh] | rw [if_neg hh])) (EqY.rf σ))

