/-! what the system gives up -/
theorem quarter_4 {f : Nat → Int32} {x : Nat} (h : f 4 = nI x) : ∃ j, j ≤ 2 ∧ quarterF f 4 = nI (x + j) := by
  have e : quarterF f 4 = (if canB f then burnF f (hx f) else f) 4 := by
    unfold quarterF qF tickF
    try simp only
    rw [upd_n (show (4:Nat) ≠ 0 by omega)]
    have e : ∀ g : Nat → Int32, (if 0 < g 3 then upd g 3 (g 3 - 1) else g) 4 = g 4 := fun g => by split <;> first | exact upd_n (by omega) | rfl
    rw [e, brdF_lo (by omega), coolN_lo (by omega)]
  rw [e]
  split
  · have b4 : burnF f (hx f) 4 = f 4 + burnsV (hf f (hx f) 0) := by
      unfold burnF; try simp only
      split <;> split <;> (try simp only [getF_lo (show (4:Nat) < 15 by omega), uh_lo (show (4:Nat) < 15 by omega)]) <;> rw [upd_s]
    rw [b4, h]
    obtain ⟨b1, b2⟩ := burns_b (hf f (hx f) 0)
    obtain ⟨k, e2, hk⟩ := i32_le (m := 2) (by omega) b1 b2
    exact ⟨k, hk, by rw [e2, nI_add]⟩
  · exact ⟨0, by omega, h⟩
theorem passN_4 {f : Nat → Int32} {x : Nat} (h : f 4 = nI x) : ∀ n, ∃ j, j ≤ 2 * n ∧ passN n f 4 = nI (x + j) := by
  intro n
  induction n with
  | zero => exact ⟨0, by omega, h⟩
  | succ n ih =>
    obtain ⟨j, hj, e⟩ := ih
    obtain ⟨j2, hj2, e2⟩ := quarter_4 e
    exact ⟨j + j2, by omega, by show quarterF (passN n f) 4 = _; rw [e2]; congr 1; omega⟩
/-- logs burnt, as a number -/
def Q4 (f : Nat → Int32) (m : Nat) : Prop := ∃ x, f 4 = nI x ∧ x ≤ m
theorem Q4_leg {s : Int32} {g : Nat → Int32} {b m : Nat} (hG : GV g) (hb : b ≤ 7) (hs : inP s 1 12) (h : Q4 g m) (hm : m ≤ 1000000) : Q4 (legV s g b) (m + 164) ∧ g 4 ≤ legV s g b 4 := by
  obtain ⟨x, e, hx⟩ := h
  have hk := (legK_b hG hb hs).2
  obtain ⟨j, hj, e2⟩ := passN_4 (f := goF g b) (x := x) (by rw [goF_n (by omega) (by omega)]; exact e) (legK s g b)
  have e3 : legV s g b 4 = nI (x + j) := e2
  exact ⟨⟨x + j, e3, by omega⟩, by rw [e3, e]; exact nI_le (by omega) (by omega)⟩
abbrev gC (md : Nat) (B : Bst) (t : Tri) : Prop := gM md B t ∨ (md = 1 ∧ 0 ≤ B.1 ∧ B.2 ≤ t.1 4)
theorem gC_stp {md : Nat} {g : Nat → Int32} {m : Nat} {code : Int32} {t : Tri} {B : Bst} (h : gC md B t) : stp md g m code t B = B := by
  rcases h with h | ⟨rfl, h1, h2⟩
  · exact gM_stp h
  · unfold stp
    rw [if_neg (by omega), if_pos rfl, if_neg]
    rintro ⟨-, q | q⟩
    · exact absurd h1 (Int32.not_le.mpr q)
    · exact absurd h2 (Int32.not_le.mpr q)
theorem gC_lgT {md : Nat} {s : Int32} {t : Tri} {b m : Nat} {B : Bst} (hG : GV t.1) (hb : b ≤ 7) (hs : inP s 1 12) (hq : Q4 t.1 m) (hm : m ≤ 1000000) (hy : t.2.2 = 0 ∨ t.2.2 = 1) (h : gC md B t) : gC md B (lgT (waM md) s t b) := by
  rcases h with h | ⟨rfl, h1, h2⟩
  · exact Or.inl (gM_lgT hy h)
  · exact Or.inr ⟨rfl, h1, Int32.le_trans h2 (Q4_leg hG hb hs hq hm).2⟩
theorem fC_gu {md : Nat} {g : Nat → Int32} {m : Nat} {s : Int32} {told : Nat} {t : Tri} {B : Bst} {q i n : Nat} (hG : GV t.1) (hs : inP s 1 12) (hq : Q4 t.1 q) (hm : q ≤ 1000000) (hy : t.2.2 = 0 ∨ t.2.2 = 1) (hn : n ≤ 8) (hi : i ≤ n) (h : gC md (fC md g m s told t i B) t) : fC md g m s told t n B = fC md g m s told t i B :=
  itN_id2 n hi (fun c h1 h2 => gC_stp (gC_lgT hG (by omega) hs hq hm hy h))
theorem fB_gu {md : Nat} {g : Nat → Int32} {m : Nat} {s : Int32} {told : Nat} {t : Tri} {B : Bst} {q i n : Nat} (hG : GV t.1) (hs : inP s 1 12) (hq : Q4 t.1 q) (hm : q ≤ 900000) (h0 : 0 ≤ t.2.1) (h4 : t.2.1 ≤ 400) (hy : t.2.2 = 0 ∨ t.2.2 = 1) (hn : n ≤ 8) (hi : i ≤ n) (h : gC md (fBk md g m s told t n i B) t) : fB md g m s told t n B = fBk md g m s told t n i B :=
  itN_id2 n hi (fun b h1 h2 => by
    have hb : b ≤ 7 := by omega
    have z := gC_lgT (b := b) hG hb hs hq (by omega) hy h
    exact itN_id n (fun c hc => gC_stp (gC_lgT (lgT_f hG hb h0 h4).1 (by omega) hs (Q4_leg hG hb hs hq (by omega)).1 (by omega) (lgT_01 hy) z)))
/-- the beginning doesn't count -/
theorem itN_0 {B : Type} {F : Nat → B → B} {b b' : B} (h : F 0 b = F 0 b') : ∀ n, itN F (n+1) b = itN F (n+1) b' := by
  intro n
  induction n with
  | zero => exact h
  | succ n ih => show F (n+1) (itN F (n+1) b) = F (n+1) (itN F (n+1) b'); rw [ih]
theorem fA_beg {g : Nat → Int32} {m : Nat} {s : Int32} {f : Nat → Int32} {n : Nat} {x y : Int32} (hG : GV f) (hn : 0 < n) : fA 0 g m s f n (x, -1) = fA 0 g m s f n (y, -1) := by
  obtain ⟨k, rfl⟩ : ∃ k, n = k + 1 := ⟨n - 1, by omega⟩
  have a1 := lgT_f (wa := 0) (s := s) (t := (f, 400, 0)) (b := 0) hG (by omega) (show (0:Int32) ≤ 400 by decide) (show (400:Int32) ≤ 400 by decide)
  generalize ht1 : lgT 0 s (f, 400, 0) 0 = t1 at a1
  have a2 := lgT_f (wa := 0) (s := s) (b := 0) a1.1 (by omega) a1.2.1 a1.2.2.1
  generalize ht2 : lgT 0 s t1 0 = t2 at a2
  have a3 := lgT_f (wa := 0) (s := s) (b := 0) a2.1 (by omega) a2.2.1 a2.2.2.1
  have h : ∀ (code z : Int32), stp 0 g m code (lgT 0 s t2 0) (z, -1) = (code, (lgT 0 s t2 0).2.1) := fun code z => by
    unfold stp
    rw [if_pos rfl]
    exact if_pos (Int32.lt_of_lt_of_le (show (-1:Int32) < 0 by decide) a3.2.1)
  have h2 : ∀ told, fC 0 g m s told t2 (k+1) (x, -1) = fC 0 g m s told t2 (k+1) (y, -1) := fun told => by
    unfold fC
    exact itN_0 ((h _ x).trans (h _ y).symm) k
  have h3 : ∀ told, fB 0 g m s told t1 (k+1) (x, -1) = fB 0 g m s told t1 (k+1) (y, -1) := fun told => by
    unfold fB fBk
    refine itN_0 ?_ k
    show fC 0 g m s (10 * told + 0) (lgT 0 s t1 0) (k+1) (x, -1) = fC 0 g m s (10 * told + 0) (lgT 0 s t1 0) (k+1) (y, -1)
    rw [ht2]; exact h2 _
  unfold fA fAk
  refine itN_0 ?_ k
  show fB 0 g m s 0 (lgT 0 s (f, 400, 0) 0) (k+1) (x, -1) = fB 0 g m s 0 (lgT 0 s (f, 400, 0) 0) (k+1) (y, -1)
  rw [ht1]; exact h3 0
/-- the system's cells of the best so far -/
def Wb (md : Nat) (B : Bst) (u : Sg) : Prop := (md = 0 → u 85 1 = B.1 ∧ u 85 0 = B.2) ∧ (md = 1 → u 85 1 = B.1 ∧ (0 ≤ B.1 → u 85 0 = B.2)) ∧ (md = 2 → u 85 1 = B.1)
def EqX2 (σ u : Sg) : Prop := ∀ c, ¬ TR c → c ≠ 85 → u c = σ c
theorem EqX2.put {σ u : Sg} (h : EqX2 σ u) {c : Nat} {f : Nat → Int32} (hc : TR c ∨ c = 85) : EqX2 σ (us u c f) := fun c' h1 h2 => by
  rw [us_n (by rintro rfl; rcases hc with q | q; exact h1 q; exact h2 q)]; exact h c' h1 h2
/-- a village in a round -/
def VT (md : Nat) (t : Tri) (v : Nat) (u : Sg) : Prop := u v = t.1 ∧ u (5+v) 0 = t.2.1 ∧ (md = 1 → u (5+v) 1 = t.2.2)
theorem VT.o {md : Nat} {t : Tri} {v c : Nat} {u : Sg} {f : Nat → Int32} (h : VT md t v u) (h1 : c ≠ v) (h2 : c ≠ 5 + v) : VT md t v (us u c f) := by
  unfold VT; rw [us_n (Ne.symm h1), us_n (Ne.symm h2)]; exact h
theorem VT.be {md : Nat} {t : Tri} {v w : Nat} {u : Sg} (h : VT md t w u) (hv : v < 5) (hw : w < 5) (hne : w ≠ v) : VT md t v (us (us u v (u w)) (5+v) (lw (u (5+v)) (u (5+w) 0) (u (5+w) 1))) := by
  unfold VT
  rw [us_n (show v ≠ 5 + v by omega), us_s, us_s, lw_0, lw_1]
  exact h
theorem VT.leg {md : Nat} {s : Int32} {t : Tri} {v b : Nat} {u : Sg} (h : VT md t v u) (hv : v < 5) : VT md (lgT (waM md) s t b) v (us (us u v (passN (legK s (u v) b) (goF (u v) b))) (5+v) (lw (u (5+v)) (lgA (goF (u v) b) (u (5+v) 0) (legK s (u v) b)) (lgC (goF (u v) b) (u (5+v) 1) (legK s (u v) b)))) := by
  obtain ⟨h1, h2, h3⟩ := h
  unfold VT
  rw [us_n (show v ≠ 5 + v by omega), us_s, us_s, lw_0, lw_1, h1, h2]
  refine ⟨rfl, rfl, fun q => ?_⟩
  rw [h3 q]
  show _ = if waM md = 0 then 0 else _
  rw [if_neg (by unfold waM; rw [if_pos q]; decide)]; rfl
theorem VT.beg {md : Nat} {v w : Nat} {u : Sg} (hv : v < 5) (hw : w < 5) (hne : w ≠ v) : VT md (u w, 400, 0) v (us (us u v (u w)) (5+v) (lw (u (5+v)) 400 0)) := by
  unfold VT
  rw [us_n (show v ≠ 5 + v by omega), us_s, us_s, lw_0, lw_1]
  exact ⟨rfl, rfl, fun _ => rfl⟩
theorem T100 (a b c : Nat) : (100 : Int32) * nI a + 10 * nI b + nI c = nI (10 * (10 * a + b) + c) := by
  show nI 100 * nI a + nI 10 * nI b + nI c = _
  rw [nI_mul, nI_mul, nI_add, nI_add]
  congr 1; omega
theorem Wb.o {md : Nat} {B : Bst} {u : Sg} {c : Nat} {f : Nat → Int32} (h : Wb md B u) (hc : c ≠ 85) : Wb md B (us u c f) := by
  unfold Wb at h ⊢; rw [us_n (Ne.symm hc)]; exact h
/-- a look -/
theorem Wb.l0 {g : Nat → Int32} {m : Nat} {code : Int32} {t : Tri} {B : Bst} {u : Sg} {v : Nat} (h : Wb 0 B u) (ht : VT 0 t v u) : Wb 0 (stp 0 g m code t B) (us u 85 (if u 85 0 < u (5+v) 0 then upd (upd (u 85) 0 (u (5+v) 0)) 1 code else u 85)) := by
  obtain ⟨h1, h2⟩ := h.1 rfl
  unfold stp Wb
  rw [if_pos rfl, us_s, h2, ht.2.1]
  refine ⟨fun _ => ?_, fun q => absurd q (by omega), fun q => absurd q (by omega)⟩
  split
  · rw [upd_s, upd_n (by omega), upd_s]; exact ⟨rfl, rfl⟩
  · exact ⟨h1, h2⟩
theorem Wb.l1 {g : Nat → Int32} {m : Nat} {code : Int32} {t : Tri} {B : Bst} {u : Sg} {v : Nat} (h : Wb 1 B u) (ht : VT 1 t v u) : Wb 1 (stp 1 g m code t B) (us u 85 (if ¬ u (5+v) 1 = 0 ∨ (0 ≤ u 85 1 ∧ u 85 0 ≤ u v 4) then u 85 else upd (upd (u 85) 0 (u v 4)) 1 code)) := by
  obtain ⟨h1, h2⟩ := h.2.1 rfl
  have e : stp 1 g m code t B = if t.2.2 = 0 ∧ (B.1 < 0 ∨ t.1 4 < B.2) then (code, t.1 4) else B := by
    unfold stp; rw [if_neg (by omega), if_pos rfl]
  rw [e]
  unfold Wb
  rw [us_s, ht.2.2 rfl, ht.1]
  refine ⟨fun q => absurd q (by omega), fun _ => ?_, fun q => absurd q (by omega)⟩
  by_cases c : ¬ t.2.2 = 0 ∨ (0 ≤ u 85 1 ∧ u 85 0 ≤ t.1 4)
  · rw [if_pos c, if_neg]
    · exact ⟨h1, h2⟩
    · rintro ⟨q1, q2⟩
      rcases c with c | ⟨c1, c2⟩
      · exact c q1
      · rw [h1] at c1
        rw [h2 c1] at c2
        rcases q2 with q | q
        · exact absurd c1 (Int32.not_le.mpr q)
        · exact absurd c2 (Int32.not_le.mpr q)
  · rw [if_neg c, if_pos]
    · rw [upd_s, upd_n (by omega), upd_s]; exact ⟨rfl, fun _ => rfl⟩
    · refine ⟨Classical.byContradiction (fun q => c (Or.inl q)), ?_⟩
      by_cases q : 0 ≤ B.1
      · refine Or.inr (Int32.not_le.mp (fun z => c (Or.inr ⟨by rw [h1]; exact q, by rw [h2 q]; exact z⟩)))
      · exact Or.inl (Int32.not_le.mp q)
theorem Wb.l2 {g : Nat → Int32} {m : Nat} {code : Int32} {t : Tri} {B : Bst} {u : Sg} {v : Nat} (h : Wb 2 B u) (ht : VT 2 t v u) : Wb 2 (stp 2 g m code t B) (us u 85 (upd (u 85) 1 (u 85 1 + fitB g m (u v) (nh (u v))))) := by
  unfold stp Wb
  rw [if_neg (by omega), if_neg (by omega), us_s, h.2.2 rfl, ht.1]
  exact ⟨fun q => absurd q (by omega), fun q => absurd q (by omega), fun _ => upd_s _ _ _⟩
theorem gu_0 {t : Tri} {B : Bst} {u : Sg} {v : Nat} (h : Wb 0 B u) (ht : VT 0 t v u) (c : u (5+v) 0 ≤ u 85 0) : gC 0 B t := by
  rw [(h.1 rfl).2, ht.2.1] at c; exact Or.inl (Or.inl ⟨rfl, c⟩)
theorem gu_1 {t : Tri} {B : Bst} {u : Sg} {v : Nat} (h : Wb 1 B u) (ht : VT 1 t v u) (c : ¬ u (5+v) 1 = 0 ∨ (0 ≤ u 85 1 ∧ u 85 0 ≤ u v 4)) : gC 1 B t := by
  obtain ⟨h1, h2⟩ := h.2.1 rfl
  rw [ht.2.2 rfl, ht.1] at c
  rcases c with c | ⟨c1, c2⟩
  · exact Or.inl (Or.inr ⟨rfl, c⟩)
  · rw [h1] at c1; rw [h2 c1] at c2; exact Or.inr ⟨rfl, c1, c2⟩
