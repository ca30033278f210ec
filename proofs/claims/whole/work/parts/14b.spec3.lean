/-! the quarter keeps the numbers in their bounds -/
theorem burns_b (k : Int32) : 0 ≤ burnsV k ∧ burnsV k ≤ 2 := by unfold burnsV; constructor <;> grind
theorem heats_b (k w : Int32) : 0 ≤ heatsV k w ∧ heatsV k w ≤ 60 := by unfold heatsV; constructor <;> grind
theorem warm_b {w h : Int32} (h1 : 0 ≤ w) (h2 : w ≤ 400) (h3 : 0 ≤ h) (h4 : h ≤ 60) : 0 ≤ warmV w h ∧ warmV w h ≤ 400 := by
  unfold warmV; constructor <;> grind
theorem cool_b {w l : Int32} (h1 : 0 ≤ w) (h2 : w ≤ 400) (h3 : 0 ≤ l) (h4 : l ≤ 800) : 0 ≤ coolV w l ∧ coolV w l ≤ 400 := by
  unfold coolV; constructor <;> grind
theorem warm_0 {w : Int32} (h2 : w ≤ 400) : warmV w 0 = w := by unfold warmV; grind
theorem div_b {a b m : Int32} (h1 : 0 ≤ a) (h2 : a ≤ m) (h3 : 1 ≤ b) (hm : m ≤ 1000) : 0 ≤ a / b ∧ a / b ≤ m := by
  rw [Int32.le_iff_toInt_le] at h1 h2 h3 hm
  have e0 : (0 : Int32).toInt = 0 := by decide
  have e1 : (1 : Int32).toInt = 1 := by decide
  have e2 : (1000 : Int32).toInt = 1000 := by decide
  rw [e0] at h1; rw [e1] at h3; rw [e2] at hm
  have hb := b.toInt_lt
  have hd : (a / b).toInt = a.toInt / b.toInt := by
    rw [Int32.toInt_div, Int.tdiv_eq_ediv_of_nonneg h1]
    have q1 : 0 ≤ a.toInt / b.toInt := Int.ediv_nonneg h1 (by omega)
    have q2 : a.toInt / b.toInt ≤ a.toInt := Int.ediv_le_self _ h1
    rw [Int.bmod_def]; split <;> omega
  have q1 : 0 ≤ a.toInt / b.toInt := Int.ediv_nonneg h1 (by omega)
  have q2 : a.toInt / b.toInt ≤ a.toInt := Int.ediv_le_self _ h1
  rw [Int32.le_iff_toInt_le, Int32.le_iff_toInt_le, hd, e0]
  omega
theorem plain_b {w wall out : Int32} (h1 : 0 ≤ w) (h2 : w ≤ 400) (h3 : 1 ≤ wall) (h4 : 0 ≤ out) : 0 ≤ plainV w wall out ∧ plainV w wall out ≤ 400 := by
  unfold plainV
  by_cases h : w < out
  · rw [if_pos h]; decide
  · rw [if_neg h]
    exact div_b (m := 400) (by grind) (by grind) h3 (by decide)
theorem loses_b {k w wall out : Int32} (h1 : 0 ≤ w) (h2 : w ≤ 400) (h3 : 1 ≤ wall) (h4 : 0 ≤ out) : 0 ≤ losesV k w wall out ∧ losesV k w wall out ≤ 800 := by
  obtain ⟨a, b⟩ := plain_b h1 h2 h3 h4
  have c := div_b (m := 400) a b (b := 2) (by decide) (by decide)
  unfold losesV
  constructor <;> grind
theorem InH_uh {f : Nat → Int32} {i j a : Nat} {y : Int32} (h : InH f a) (hj : j < 6) (h1 : j = 1 → 0 ≤ y ∧ y ≤ 400) (h2 : j ≠ 2) (h3 : j = 3 → 0 ≤ y ∧ y ≤ 99) (h4 : j ≠ 4) : InH (uh f i j y) a := by
  obtain ⟨a1, a2, a3, a4⟩ := h
  by_cases e : a = i
  · subst e
    refine ⟨?_, ?_, ?_, ?_⟩
    · by_cases q : j = 1
      · subst q; rw [hf_uh_s]; exact h1 rfl
      · rw [hf_uh_n (by omega) hj (by omega)]; exact a1
    · rw [hf_uh_n (by omega) hj (by omega)]; exact a2
    · by_cases q : j = 3
      · subst q; rw [hf_uh_s]; exact h3 rfl
      · rw [hf_uh_n (by omega) hj (by omega)]; exact a3
    · rw [hf_uh_n (by omega) hj (by omega)]; exact a4
  · refine ⟨?_, ?_, ?_, ?_⟩ <;> rw [hf_uh_n (by omega) hj (by omega)] <;> assumption
theorem Inv_uh {f : Nat → Int32} {i j : Nat} {y : Int32} (h : Inv f) (hi : i < nh f) (hj : j < 6) (h1 : j = 1 → 0 ≤ y ∧ y ≤ 400) (h2 : j ≠ 2) (h3 : j = 3 → 0 ≤ y ∧ y ≤ 99) (h4 : j ≠ 4) : Inv (uh f i j y) := by
  obtain ⟨a, b, c, d, e⟩ := h
  refine ⟨Can_uh a hi hj, fun k hk => ?_, ?_, ?_, ?_⟩
  · rw [nh_uh] at hk; exact InH_uh (b k hk) hj h1 h2 h3 h4
  · rw [uh_lo (by omega)]; exact c
  · rw [uh_lo (by omega)]; exact d
  · rw [uh_lo (by omega)]; exact e
theorem Inv_upd {f : Nat → Int32} {k : Nat} {y : Int32} (h : Inv f) (hk : k < 15 ∨ 63 ≤ k) (hk2 : k < 73) (h1 : k ≠ 1) (h3 : k = 3 → 0 ≤ y) (h6 : k = 6 → 0 ≤ y ∧ y ≤ 100) : Inv (upd f k y) := by
  obtain ⟨a, b, c, d, e⟩ := h
  have h8 := a.2.1
  refine ⟨Can_upd a h1 hk hk2, fun i hi => ?_, ?_, ?_⟩
  · rw [nh_upd h1] at hi
    have q := b i hi
    unfold InH at q ⊢
    rw [hf_upd hk (by omega) (by omega), hf_upd hk (by omega) (by omega), hf_upd hk (by omega) (by omega), hf_upd hk (by omega) (by omega)]
    exact q
  · by_cases q : k = 3
    · subst q; rw [upd_s]; exact h3 rfl
    · rw [upd_n (Ne.symm q)]; exact c
  · by_cases q : k = 6
    · subst q; rw [upd_s]; exact h6 rfl
    · rw [upd_n (Ne.symm q)]; exact ⟨d, e⟩
theorem nh_getF {f : Nat → Int32} {j : Nat} {b : Int32} : nh (getF f j b) = nh f := by unfold getF; split <;> first | exact nh_uh | rfl
theorem Inv_getF {f : Nat → Int32} {j : Nat} {b : Int32} (h : Inv f) (hj : j < nh f) (h1 : 0 ≤ b) (h2 : b ≤ 60) : Inv (getF f j b) := by
  unfold getF
  split
  · obtain ⟨⟨a1, a2⟩, -⟩ := h.2.1 j hj
    have c := div_b (m := 60) h1 h2 (b := 4) (by decide) (by decide)
    exact Inv_uh h hj (by omega) (fun _ => warm_b a1 a2 c.1 c.2) (by omega) (by omega) (by omega)
  · exact h
theorem Inv_burnF {f : Nat → Int32} {i : Nat} (h : Inv f) (hi : i < nh f) (hb : burnsV (hf f i 0) ≤ hf f i 3) : Inv (burnF f i) := by
  have hh := heats_b (hf f i 0) (hf f i 1)
  have hq := burns_b (hf f i 0)
  obtain ⟨⟨a1, a2⟩, -, ⟨a3, a4⟩, -⟩ := h.2.1 i hi
  have i1 := Inv_uh (j := 3) (y := hf f i 3 - burnsV (hf f i 0)) h hi (by omega) (by omega) (by omega) (fun _ => ⟨by grind, by grind⟩) (by omega)
  have i2 := Inv_upd (k := 4) (y := f 4 + burnsV (hf f i 0)) i1 (by omega) (by omega) (by omega) (by omega) (by omega)
  have n2 : nh (upd (uh f i 3 (hf f i 3 - burnsV (hf f i 0))) 4 (f 4 + burnsV (hf f i 0))) = nh f := by rw [nh_upd (by omega), nh_uh]
  have i3 := Inv_uh (j := 1) (y := warmV (hf f i 1) (heatsV (hf f i 0) (hf f i 1))) i2 (i := i) (by rw [n2]; exact hi) (by omega) (fun _ => warm_b a1 a2 hh.1 hh.2) (by omega) (by omega) (by omega)
  unfold burnF
  simp only
  split
  · split
    · exact Inv_getF (Inv_getF i3 (by rw [nh_uh, n2]; omega) hh.1 hh.2) (by rw [nh_getF, nh_uh, n2]; assumption) hh.1 hh.2
    · exact Inv_getF i3 (by rw [nh_uh, n2]; assumption) hh.1 hh.2
  · split
    · exact Inv_getF i3 (by rw [nh_uh, n2]; omega) hh.1 hh.2
    · exact i3
theorem Inv_coolN {f : Nat → Int32} (h : Inv f) : ∀ i, i ≤ nh f → Inv (coolN i f) := by
  intro i
  induction i with
  | zero => intro _; exact h
  | succ i ih =>
    intro hi
    have q := ih (by omega)
    have n : nh (coolN i f) = nh f := coolN_nh i
    obtain ⟨⟨a1, a2⟩, ⟨a3, a4⟩, -⟩ := q.2.1 i (by omega)
    have l := loses_b (k := hf (coolN i f) i 0) a1 a2 a3 q.2.2.2.1
    exact Inv_uh q (by omega) (by omega) (fun _ => cool_b a1 a2 l.1 l.2) (by omega) (by omega) (by omega)
theorem Inv_brdF {p : Prop} [Decidable p] {f : Nat → Int32} {i : Nat} (h : Inv f) (hi : p → i < nh f) : Inv (brdF p f i) := by
  unfold brdF
  split
  · rename_i c
    exact Inv_uh h (hi c.1) (by omega) (by omega) (by omega) (by omega) (by omega)
  · exact h
theorem Inv_tickF {f : Nat → Int32} (h : Inv f) : Inv (tickF f) := by
  unfold tickF
  simp only
  have h3 := h.2.2.1
  split
  · exact Inv_upd (Inv_upd (k := 3) h (by omega) (by omega) (by omega) (fun _ => by grind) (by omega)) (by omega) (by omega) (by omega) (by omega) (by omega)
  · exact Inv_upd h (by omega) (by omega) (by omega) (by omega) (by omega)
theorem hx_of {f : Nat → Int32} (hc : Can f) (h : isH f (f 2)) : hx f < nh f ∧ f 2 = nI (hx f) := by
  obtain ⟨i, a, b, c⟩ := isH_of hc h
  unfold hx
  rw [b, nI_clamp (by omega)]
  exact ⟨a, rfl⟩
theorem nh_burnF {f : Nat → Int32} {i : Nat} : nh (burnF f i) = nh f := by
  unfold burnF; try simp only
  split <;> split <;> simp only [nh_getF, nh_uh] <;> rw [nh_upd (by omega), nh_uh]
theorem getF_lo {f : Nat → Int32} {j k : Nat} {b : Int32} (h : k < 15) : getF f j b k = f k := by unfold getF; split <;> first | exact uh_lo h | rfl
theorem burnF_lo {f : Nat → Int32} {i k : Nat} (h : k < 15) (h4 : k ≠ 4) : burnF f i k = f k := by
  unfold burnF; try simp only
  split <;> split <;> (try simp only [getF_lo h, uh_lo h]) <;> rw [upd_n h4, uh_lo h]
theorem getF_hf {f : Nat → Int32} {j a c : Nat} {b : Int32} (hc : c ≠ 1) (hc6 : c < 6) : hf (getF f j b) a c = hf f a c := by unfold getF; split <;> first | exact hf_uh_n (by omega) (by omega) hc6 | rfl
theorem burnF_hf {f : Nat → Int32} {i a c : Nat} (ha : a < 8) (hc : c ≠ 1) (hc3 : c ≠ 3) (hc6 : c < 6) : hf (burnF f i) a c = hf f a c := by
  unfold burnF; try simp only
  split <;> split <;> (try simp only [getF_hf hc hc6]) <;> rw [hf_uh_n (by omega) (by omega) hc6, hf_upd (by omega) ha hc6, hf_uh_n (by omega) (by omega) hc6]
theorem Inv_qF {p : Prop} [Decidable p] {f : Nat → Int32} (h : Inv f) (hp : p → canB f) : Inv (qF p f) := by
  have hi : p → hx f < nh f := fun q => (hx_of h.1 (hp q).1).1
  have h1 : Inv (if p then burnF f (hx f) else f) := by
    split
    · rename_i q; exact Inv_burnF h (hi q) (hp q).2.2
    · exact h
  have n1 : nh (if p then burnF f (hx f) else f) = nh f := by split <;> first | exact nh_burnF | rfl
  unfold qF
  exact Inv_tickF (Inv_brdF (Inv_coolN h1 _ (by omega)) (fun q => by rw [coolN_nh, n1]; exact hi q))
theorem Inv_quarterF {f : Nat → Int32} (h : Inv f) : Inv (quarterF f) := Inv_qF h (fun q => q)
theorem Inv_passN {f : Nat → Int32} (h : Inv f) : ∀ n, Inv (passN n f) := by
  intro n
  induction n with
  | zero => exact h
  | succ n ih => exact Inv_quarterF ih
theorem nI_m1 {a : Nat} (h : 1 ≤ a) : nI a - 1 = nI (a - 1) := by
  obtain ⟨b, rfl⟩ : ∃ b, a = b + 1 := ⟨a - 1, by omega⟩
  exact nI_pred b
theorem getF_eq {f : Nat → Int32} {j : Nat} {b : Int32} (h : hf f j 1 ≤ 400) : uh f j 1 (warmV (hf f j 1) (getsV (hf f j 0) b)) = getF f j b := by
  unfold getF getsV
  by_cases c : hf f j 0 = 1 ∨ hf f j 0 = 3
  · rw [if_pos c, if_pos c]
  · rw [if_neg c, if_neg c, warm_0 h]; exact upd_id f _
theorem getF_hn {f : Nat → Int32} {j a c : Nat} {b : Int32} (h : a ≠ j) (hc : c < 6) : hf (getF f j b) a c = hf f a c := by
  unfold getF; split
  · exact hf_uh_n (by omega) (by omega) hc
  · rfl
/-- chilled, house by house -/
def chV (f : Nat → Int32) (y : Int32) : Nat → Int32
  | 0 => y
  | i + 1 => if coldV (hf f i 0) (hf f i 1) (hf f i 4) then 1 else chV f y i
theorem chV_01 {f : Nat → Int32} {y : Int32} (h : y = 0 ∨ y = 1) : ∀ i, chV f y i = 0 ∨ chV f y i = 1 := by
  intro i
  induction i with
  | zero => exact h
  | succ i ih => unfold chV; split <;> first | exact Or.inr rfl | exact ih
/-- least and chilled of a village, by what they are -/
def lw (f : Nat → Int32) (a y : Int32) : Nat → Int32 := upd (upd f 0 a) 1 y
theorem lw_0 (f : Nat → Int32) (a y : Int32) : lw f a y 0 = a := by unfold lw; rw [upd_n (by decide), upd_s]
theorem lw_1 (f : Nat → Int32) (a y : Int32) : lw f a y 1 = y := upd_s _ _ _
theorem lw_u0 (f : Nat → Int32) (a y a2 : Int32) : upd (lw f a y) 0 a2 = lw f a2 y := by
  funext k; unfold lw
  by_cases h0 : k = 0
  · subst h0; rw [upd_s, upd_n (by decide), upd_s]
  · by_cases h1 : k = 1
    · subst h1; rw [upd_n (by decide), upd_s, upd_s]
    · rw [upd_n h0, upd_n h1, upd_n h0, upd_n h1, upd_n h0]
theorem lw_u1 (f : Nat → Int32) (a y y2 : Int32) : upd (lw f a y) 1 y2 = lw f a y2 := upd_upd _ _ _ _
theorem lw_lw (f : Nat → Int32) (a y a2 y2 : Int32) : lw (lw f a y) a2 y2 = lw f a2 y2 := by
  show upd (upd (lw f a y) 0 a2) 1 y2 = _
  rw [lw_u0, lw_u1]
theorem lw_id (f : Nat → Int32) : lw f (f 0) (f 1) = f := by unfold lw; rw [upd_id, upd_id]
/-- a leg: least and chilled behind i quarters -/
def lgA (g : Nat → Int32) (a : Int32) : Nat → Int32
  | 0 => a
  | i + 1 => lstN (passN (i + 1) g) (lgA g a i) (nh (passN (i + 1) g))
def lgC (g : Nat → Int32) (y : Int32) : Nat → Int32
  | 0 => y
  | i + 1 => chV (passN (i + 1) g) (lgC g y i) (nh (passN (i + 1) g))
theorem lgC_01 {g : Nat → Int32} {y : Int32} (h : y = 0 ∨ y = 1) : ∀ i, lgC g y i = 0 ∨ lgC g y i = 1 := by
  intro i
  induction i with
  | zero => exact h
  | succ i ih => exact chV_01 ih _
theorem nh_quarterF (f : Nat → Int32) : nh (quarterF f) = nh f := by
  unfold quarterF qF tickF
  simp only
  have e : ∀ g : Nat → Int32, nh (if 0 < g 3 then upd g 3 (g 3 - 1) else g) = nh g := fun g => by split <;> first | exact nh_upd (by omega) | rfl
  rw [nh_upd (by omega), e]
  unfold brdF
  split <;> split <;> simp only [nh_uh, coolN_nh, nh_burnF]
theorem nh_passN (f : Nat → Int32) : ∀ n, nh (passN n f) = nh f := by
  intro n
  induction n with
  | zero => rfl
  | succ n ih => exact (nh_quarterF _).trans ih
/-- a new house at the end -/
def newF (f : Nat → Int32) (k : Int32) : Nat → Int32 := begF (upd f 1 (nI (nh f + 1))) (nh f) k
theorem uh_eq {f : Nat → Int32} {i j k : Nat} {y : Int32} (h : k = 15 + 6*i + j) : uh f i j y k = y := by subst h; exact upd_s _ _ _
theorem begF_at {f : Nat → Int32} {i j : Nat} {k : Int32} (hj : j < 6) : hf (begF f i k) i j = (if j = 0 then k else if j = 1 then 100 else if j = 2 then 10 else if j = 3 then 8 else if j = 4 then 60 else 0) := by
  unfold begF
  rcases (show j = 0 ∨ j = 1 ∨ j = 2 ∨ j = 3 ∨ j = 4 ∨ j = 5 by omega) with rfl | rfl | rfl | rfl | rfl | rfl <;> simp (disch := omega) only [hf_uh_s, hf_uh_n] <;> rfl
theorem begF_off {f : Nat → Int32} {i k' : Nat} {k : Int32} (h : k' < 15 + 6*i ∨ 15 + 6*i + 6 ≤ k') : begF f i k k' = f k' := by
  unfold begF uh
  simp (disch := omega) only [upd_n]
theorem newF_grow {f a : Nat → Int32} {k : Int32} (hc : Can f) (h8 : nh f < 8) (ha : ∀ i j, i < nh f → j < 6 → a (15+6*i+j) = hf f i j) : begF (regrow f (nh f + 1) a) (nh f) k = newF f k := by
  funext q
  unfold newF
  by_cases h : q < 15 + 6 * nh f ∨ 15 + 6 * nh f + 6 ≤ q
  · rw [begF_off h, begF_off h]
    by_cases h1 : q = 1
    · subst h1; rw [upd_s]; exact if_pos rfl
    · rw [upd_n h1]
      by_cases h2 : q < 15 ∨ 63 ≤ q
      · exact regrow_lo h1 h2
      · obtain ⟨i, j, hi, hj, rfl⟩ : ∃ i j, i < 8 ∧ j < 6 ∧ q = 15 + 6*i + j := ⟨(q-15)/6, (q-15)%6, by omega, by omega, by omega⟩
        have e := regrow_hf (f := f) (a := a) (m := nh f + 1) hi hj
        unfold hf at e
        rw [e]
        by_cases hn : i < nh f
        · rw [if_pos (by omega), ha i j hn hj]; rfl
        · rw [if_neg (by omega)]; exact (hc.2.2.2 i j (by omega) hi hj).symm
  · obtain ⟨j, hj, rfl⟩ : ∃ j, j < 6 ∧ q = 15 + 6 * nh f + j := ⟨q - 15 - 6 * nh f, by omega, by omega⟩
    exact (begF_at hj).trans (begF_at hj).symm
/-- houses copied one by one -/
def cpN (g : Nat → Int32) : Nat → (Nat → Int32) → Nat → Int32
  | 0, f => f
  | i + 1, f => cpF (cpN g i f) i g i
theorem cpF_at {f g : Nat → Int32} {i i2 j : Nat} (hj : j < 6) : hf (cpF f i g i2) i j = hf g i2 j := by
  unfold cpF
  rcases (show j = 0 ∨ j = 1 ∨ j = 2 ∨ j = 3 ∨ j = 4 ∨ j = 5 by omega) with rfl | rfl | rfl | rfl | rfl | rfl <;> simp (disch := omega) only [hf_uh_s, hf_uh_n]
theorem cpF_off {f g : Nat → Int32} {i i2 k' : Nat} (h : k' < 15 + 6*i ∨ 15 + 6*i + 6 ≤ k') : cpF f i g i2 k' = f k' := by
  unfold cpF uh
  simp (disch := omega) only [upd_n]
theorem cpN_lo {g f : Nat → Int32} {k : Nat} (h : k < 15) : ∀ i, cpN g i f k = f k := by
  intro i
  induction i with
  | zero => rfl
  | succ i ih => exact (cpF_off (by omega)).trans ih
theorem cpN_nh {g f : Nat → Int32} (i : Nat) : nh (cpN g i f) = nh f := by unfold nh; rw [cpN_lo (by omega)]
theorem cpN_hi {g f : Nat → Int32} {k : Nat} (h : 63 ≤ k) : ∀ i, i ≤ 8 → cpN g i f k = f k := by
  intro i
  induction i with
  | zero => intro _; rfl
  | succ i ih => intro hi; exact (cpF_off (by omega)).trans (ih (by omega))
theorem cpN_hf {g f : Nat → Int32} {a j : Nat} (hj : j < 6) : ∀ i, hf (cpN g i f) a j = if a < i then hf g a j else hf f a j := by
  intro i
  induction i with
  | zero => rw [if_neg (by omega)]; rfl
  | succ i ih =>
    show hf (cpF _ i g i) a j = _
    by_cases e : a = i
    · subst e; rw [cpF_at hj, if_pos (by omega)]
    · have e2 : hf (cpF (cpN g i f) i g i) a j = hf (cpN g i f) a j := cpF_off (by omega)
      rw [e2, ih]
      by_cases q : a < i
      · rw [if_pos q, if_pos (by omega)]
      · rw [if_neg q, if_neg (by omega)]
/-- what be() makes of a village -/
theorem be_eq {f g a : Nat → Int32} (hf' : Can f) (hg : Can g) : upd (upd (upd (upd (upd (upd (upd (cpP (cpS (cpN g (nh g) (regrow f (nh g) a)) g) g) 5 (g 5)) 6 (g 6)) 2 (g 2)) 3 (g 3)) 0 (g 0)) 4 (g 4)) 7 (g 7) = g := by
  have h8 := hg.2.1
  funext k
  by_cases h73 : 73 ≤ k
  · rw [upd_n (by omega), upd_n (by omega), upd_n (by omega), upd_n (by omega), upd_n (by omega), upd_n (by omega), upd_n (by omega)]
    show (if 63 ≤ k ∧ k < 73 then g k else if 8 ≤ k ∧ k < 15 then g k else _) = _
    rw [if_neg (by omega), if_neg (by omega), cpN_hi (by omega) _ h8, regrow_lo (by omega) (by omega), hf'.2.2.1 k h73, hg.2.2.1 k h73]
  by_cases hs : 8 ≤ k
  · rw [upd_n (by omega), upd_n (by omega), upd_n (by omega), upd_n (by omega), upd_n (by omega), upd_n (by omega), upd_n (by omega)]
    show (if 63 ≤ k ∧ k < 73 then g k else if 8 ≤ k ∧ k < 15 then g k else _) = _
    by_cases h63 : 63 ≤ k
    · rw [if_pos (by omega)]
    · by_cases h15 : k < 15
      · rw [if_neg (by omega), if_pos (by omega)]
      · rw [if_neg (by omega), if_neg (by omega)]
        obtain ⟨i, j, hi, hj, rfl⟩ : ∃ i j, i < 8 ∧ j < 6 ∧ k = 15 + 6*i + j := ⟨(k-15)/6, (k-15)%6, by omega, by omega, by omega⟩
        have e := cpN_hf (g := g) (f := regrow f (nh g) a) (a := i) hj (nh g)
        unfold hf at e
        rw [e]
        by_cases q : i < nh g
        · rw [if_pos q]
        · rw [if_neg q]
          have e2 := regrow_hf (f := f) (a := a) (m := nh g) hi hj
          unfold hf at e2
          rw [e2, if_neg q]; exact (hg.2.2.2 i j (by omega) hi hj).symm
  · rcases (show k = 0 ∨ k = 1 ∨ k = 2 ∨ k = 3 ∨ k = 4 ∨ k = 5 ∨ k = 6 ∨ k = 7 by omega) with rfl | rfl | rfl | rfl | rfl | rfl | rfl | rfl
    all_goals simp (disch := omega) only [upd_s, upd_n]
    show (if 63 ≤ 1 ∧ 1 < 73 then g 1 else if 8 ≤ 1 ∧ 1 < 15 then g 1 else _) = _
    rw [if_neg (by omega), if_neg (by omega), cpN_lo (by omega), hg.1]
    exact if_pos rfl
