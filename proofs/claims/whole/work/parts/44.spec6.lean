/-! rounds as the reference watches them -/
abbrev Tri : Type := (Nat → Int32) × Int32 × Int32
def wcA (g : Nat → Int32) (a : Int32) : Int32 := if lstF g < a then lstF g else a
def wcY (wa : Int32) (g : Nat → Int32) : Int32 := if wa = 0 then 0 else if setF g = 0 then 0 else 1
theorem wcY_01 (wa : Int32) (g : Nat → Int32) : wcY wa g = 0 ∨ wcY wa g = 1 := by
  unfold wcY; split
  · exact Or.inl rfl
  · split
    · exact Or.inl rfl
    · exact Or.inr rfl
abbrev dnP (fl a y : Int32) : Prop := a ≤ fl ∨ ¬ y = 0
def wt (wa fl : Int32) : Nat → Tri → Tri
  | 0, t => t
  | n + 1, t => if dnP fl t.2.1 t.2.2 then t else wt wa fl n (quarterF t.1, wcA (quarterF t.1) t.2.1, wcY wa (quarterF t.1))
def vis (wa fl s : Int32) (b : Nat) (t : Tri) : Tri := wt wa fl (legK s t.1 b) (goF t.1 b, t.2.1, t.2.2)
/-- the round of houses h 0, h 1, .. -/
def gR (wa fl s : Int32) (h : Nat → Nat) (t : Tri) : Nat → Tri
  | 0 => t
  | i + 1 => vis wa fl s (h i) (gR wa fl s h t i)
theorem wt_GV {wa fl : Int32} : ∀ (n : Nat) (t : Tri), GV t.1 → GV (wt wa fl n t).1 := by
  intro n
  induction n with
  | zero => intro t h; exact h
  | succ n ih =>
    intro t h
    unfold wt
    split
    · exact h
    · exact ih _ (GV_passN h 1)
theorem wt_nh {wa fl : Int32} : ∀ (n : Nat) (t : Tri), nh (wt wa fl n t).1 = nh t.1 := by
  intro n
  induction n with
  | zero => intro t; rfl
  | succ n ih =>
    intro t
    unfold wt
    split
    · rfl
    · exact (ih _).trans (nh_quarterF _)
theorem vis_GV {wa fl s : Int32} {b : Nat} {t : Tri} (h : GV t.1) (hb : b ≤ 7) : GV (vis wa fl s b t).1 := wt_GV _ _ (GV_goF h hb)
theorem vis_nh {wa fl s : Int32} {b : Nat} {t : Tri} : nh (vis wa fl s b t).1 = nh t.1 := (wt_nh _ _).trans nh_goF
theorem gR_GV {wa fl s : Int32} {h : Nat → Nat} {t : Tri} (g : GV t.1) : ∀ i, (∀ j, j < i → h j ≤ 7) → GV (gR wa fl s h t i).1 := by
  intro i
  induction i with
  | zero => intro _; exact g
  | succ i ih => intro q; exact vis_GV (ih (fun j hj => q j (by omega))) (q i (by omega))
theorem gR_nh {wa fl s : Int32} {h : Nat → Nat} {t : Tri} : ∀ i, nh (gR wa fl s h t i).1 = nh t.1 := by
  intro i
  induction i with
  | zero => rfl
  | succ i ih => exact vis_nh.trans ih
theorem lstN_min (f : Nat → Int32) {a : Int32} (h : a ≤ 400) : ∀ n, lstN f a n = if lstN f 400 n < a then lstN f 400 n else a := by
  intro n
  induction n with
  | zero => show a = if (400 : Int32) < a then 400 else a; rw [if_neg (Int32.not_lt.mpr h)]
  | succ n ih =>
    show (if ¬ hf f n 0 = 4 ∧ hf f n 1 < lstN f a n then hf f n 1 else lstN f a n) = if (if ¬ hf f n 0 = 4 ∧ hf f n 1 < lstN f 400 n then hf f n 1 else lstN f 400 n) < a then (if ¬ hf f n 0 = 4 ∧ hf f n 1 < lstN f 400 n then hf f n 1 else lstN f 400 n) else a
    rw [ih]
    generalize hf f n 1 = w
    generalize lstN f 400 n = m
    by_cases k : hf f n 0 = 4
    · rw [if_neg (show ¬ (¬ hf f n 0 = 4 ∧ w < if m < a then m else a) from fun z => z.1 k), if_neg (show ¬ (¬ hf f n 0 = 4 ∧ w < m) from fun z => z.1 k)]
    · grind
theorem wcA_eq {g : Nat → Int32} {a : Int32} (h : a ≤ 400) : wcA g a = lstN g a (nh g) := by
  unfold wcA lstF; exact (lstN_min g h _).symm
theorem wcA_le (g : Nat → Int32) (a : Int32) : wcA g a ≤ a := by
  unfold wcA; split
  · rename_i h; exact Int32.le_of_lt h
  · exact Int32.le_refl a
/-- from the front -/
theorem passN_f (g : Nat → Int32) : ∀ n, passN n (quarterF g) = passN (n + 1) g := by
  intro n
  induction n with
  | zero => rfl
  | succ n ih => show quarterF (passN n (quarterF g)) = quarterF (passN (n + 1) g); rw [ih]
theorem lgA_f (g : Nat → Int32) (a : Int32) : ∀ n, lgA (quarterF g) (lstN (quarterF g) a (nh (quarterF g))) n = lgA g a (n + 1) := by
  intro n
  induction n with
  | zero => rfl
  | succ n ih =>
    show lstN (passN (n+1) (quarterF g)) (lgA (quarterF g) _ n) (nh (passN (n+1) (quarterF g))) = lstN (passN (n+2) g) (lgA g a (n+1)) (nh (passN (n+2) g))
    rw [ih, passN_f]
theorem lgC_f (g : Nat → Int32) (y : Int32) : ∀ n, lgC (quarterF g) (chV (quarterF g) y (nh (quarterF g))) n = lgC g y (n + 1) := by
  intro n
  induction n with
  | zero => rfl
  | succ n ih =>
    show chV (passN (n+1) (quarterF g)) (lgC (quarterF g) _ n) (nh (passN (n+1) (quarterF g))) = chV (passN (n+2) g) (lgC g y (n+1)) (nh (passN (n+2) g))
    rw [ih, passN_f]
theorem lstN_le (f : Nat → Int32) (a : Int32) : ∀ n, lstN f a n ≤ a := by
  intro n
  induction n with
  | zero => exact Int32.le_refl a
  | succ n ih =>
    unfold lstN
    split
    · rename_i h; exact Int32.le_trans (Int32.le_of_lt h.2) ih
    · exact ih
theorem lgA_le (g : Nat → Int32) (a : Int32) : ∀ n, lgA g a n ≤ a := by
  intro n
  induction n with
  | zero => exact Int32.le_refl a
  | succ n ih => exact Int32.le_trans (lstN_le _ _ _) ih
theorem lgC_1 (g : Nat → Int32) : ∀ n, lgC g 1 n = 1 := by
  have c : ∀ (f : Nat → Int32) n, chV f 1 n = 1 := by
    intro f n
    induction n with
    | zero => rfl
    | succ n ih => unfold chV; split <;> first | rfl | exact ih
  intro n
  induction n with
  | zero => rfl
  | succ n ih => show chV _ (lgC g 1 n) _ = 1; rw [ih]; exact c _ _
theorem or_n0 {a : Int32} {i : Nat} (h : i < 8) : ¬ a ||| ((1 : Int32) <<< (nI i &&& 31)) = 0 := by
  intro e
  have z : (a ||| ((1 : Int32) <<< (nI i &&& 31))) &&& ((1 : Int32) <<< (nI i &&& 31)) = (1 : Int32) <<< (nI i &&& 31) := by
    apply Int32.toBitVec_inj.mp
    simp only [Int32.toBitVec_and, Int32.toBitVec_or]
    ext k hk
    simp only [BitVec.getElem_and, BitVec.getElem_or]
    cases (a.toBitVec[k]) <;> cases ((1 : Int32) <<< (nI i &&& 31)).toBitVec[k] <;> rfl
  rw [e] at z
  rcases (show i = 0 ∨ i = 1 ∨ i = 2 ∨ i = 3 ∨ i = 4 ∨ i = 5 ∨ i = 6 ∨ i = 7 by omega) with rfl | rfl | rfl | rfl | rfl | rfl | rfl | rfl <;> revert z <;> decide +kernel
theorem chV_set {f : Nat → Int32} : ∀ n, n ≤ 8 → (chV f 0 n = 0 ↔ setN f n = 0) ∧ (chV f 0 n = 0 ∨ chV f 0 n = 1) := by
  intro n
  induction n with
  | zero => intro _; exact ⟨⟨fun _ => rfl, fun _ => rfl⟩, Or.inl rfl⟩
  | succ n ih =>
    intro hn
    unfold chV setN
    by_cases h : coldV (hf f n 0) (hf f n 1) (hf f n 4)
    · rw [if_pos h, if_pos h]
      exact ⟨⟨fun q => absurd q (by decide), fun q => absurd q (or_n0 (by omega))⟩, Or.inr rfl⟩
    · rw [if_neg h, if_neg h]; exact ih (by omega)
theorem wcY_ch {wa : Int32} {g : Nat → Int32} (h : nh g ≤ 8) (hw : ¬ wa = 0) : wcY wa g = chV g 0 (nh g) := by
  unfold wcY setF
  rw [if_neg hw]
  obtain ⟨c1, c2⟩ := chV_set (f := g) (nh g) h
  by_cases e : setN g (nh g) = 0
  · rw [if_pos e, c1.mpr e]
  · rw [if_neg e]
    rcases c2 with q | q
    · exact absurd (c1.mp q) e
    · exact q.symm
/-- what the watching comes to -/
theorem wt_spec {wa fl : Int32} : ∀ (n : Nat) (g : Nat → Int32) (a : Int32), nh g ≤ 8 → a ≤ 400 →
    (¬ dnP fl (wt wa fl n (g, a, 0)).2.1 (wt wa fl n (g, a, 0)).2.2 → wt wa fl n (g, a, 0) = (passN n g, lgA g a n, 0) ∧ fl < lgA g a n ∧ (¬ wa = 0 → lgC g 0 n = 0)) ∧
    (dnP fl (wt wa fl n (g, a, 0)).2.1 (wt wa fl n (g, a, 0)).2.2 → lgA g a n ≤ fl ∨ (¬ wa = 0 ∧ lgC g 0 n = 1)) := by
  intro n
  induction n with
  | zero =>
    intro g a h8 ha
    refine ⟨fun h => ⟨rfl, Int32.not_le.mp (fun q => h (Or.inl q)), fun _ => rfl⟩, fun h => ?_⟩
    rcases h with h | h
    · exact Or.inl h
    · exact absurd rfl h
  | succ n ih =>
    intro g a h8 ha
    by_cases hd : a ≤ fl
    · have e : wt wa fl (n+1) (g, a, 0) = (g, a, 0) := if_pos (Or.inl hd)
      rw [e]
      exact ⟨fun h => absurd (Or.inl hd) h, fun _ => Or.inl (Int32.le_trans (lgA_le _ _ _) hd)⟩
    · have e : wt wa fl (n+1) (g, a, 0) = wt wa fl n (quarterF g, wcA (quarterF g) a, wcY wa (quarterF g)) := if_neg (fun q => q.elim hd (fun z => z rfl))
      rw [e]
      have ha1 : wcA (quarterF g) a ≤ 400 := Int32.le_trans (wcA_le _ _) ha
      have hn1 : nh (quarterF g) ≤ 8 := by rw [nh_quarterF]; exact h8
      rcases wcY_01 wa (quarterF g) with hy | hy
      · rw [hy]
        obtain ⟨p, q⟩ := ih (quarterF g) (wcA (quarterF g) a) hn1 ha1
        have hc : ¬ wa = 0 → chV (quarterF g) 0 (nh (quarterF g)) = 0 := fun w => by rw [← wcY_ch hn1 w]; exact hy
        constructor
        · intro h
          obtain ⟨p1, p2, p3⟩ := p h
          rw [p1]
          rw [wcA_eq ha, lgA_f] at p2 ⊢
          rw [passN_f]
          exact ⟨rfl, p2, fun w => by rw [← lgC_f, hc w]; exact p3 w⟩
        · intro h
          rcases q h with z | ⟨z1, z2⟩
          · rw [wcA_eq ha, lgA_f] at z; exact Or.inl z
          · refine Or.inr ⟨z1, ?_⟩
            rw [← lgC_f, hc z1]; exact z2
      · have hw : ¬ wa = 0 := fun w => by
          rw [show wcY wa (quarterF g) = 0 from if_pos w] at hy; exact absurd hy (by decide)
        have e2 : ∀ k, wt wa fl k (quarterF g, wcA (quarterF g) a, wcY wa (quarterF g)) = (quarterF g, wcA (quarterF g) a, wcY wa (quarterF g)) := fun k => by
          cases k with
          | zero => rfl
          | succ k => exact if_pos (Or.inr (by show ¬ wcY wa (quarterF g) = 0; rw [hy]; decide))
        rw [e2]
        refine ⟨fun h => absurd (Or.inr (by show ¬ wcY wa (quarterF g) = 0; rw [hy]; decide)) h, fun _ => Or.inr ⟨hw, ?_⟩⟩
        rw [← lgC_f, ← wcY_ch hn1 hw, hy]
        exact lgC_1 _ n
/-- without a floor and without cold asked it runs through -/
theorem lstN_0 {f : Nat → Int32} {a : Int32} (h : ∀ i, i < nh f → 0 ≤ hf f i 1) (ha : 0 ≤ a) : ∀ n, n ≤ nh f → 0 ≤ lstN f a n := by
  intro n
  induction n with
  | zero => intro _; exact ha
  | succ n ih =>
    intro hn
    unfold lstN
    split
    · exact h n (by omega)
    · exact ih (by omega)
theorem lgA_0 {g : Nat → Int32} {a : Int32} (h : Inv g) (ha : 0 ≤ a) : ∀ n, 0 ≤ lgA g a n := by
  intro n
  induction n with
  | zero => exact ha
  | succ n ih => exact lstN_0 (fun i hi => ((Inv_passN h (n+1)).2.1 i hi).1.1) ih _ (Nat.le_refl _)
theorem wt_run {g : Nat → Int32} {a : Int32} (n : Nat) (h : Inv g) (h0 : 0 ≤ a) (ha : a ≤ 400) : wt 0 (-1) n (g, a, 0) = (passN n g, lgA g a n, 0) := by
  obtain ⟨p, q⟩ := wt_spec (wa := 0) (fl := -1) n g a h.1.2.1 ha
  by_cases hd : dnP (-1) (wt 0 (-1) n (g, a, 0)).2.1 (wt 0 (-1) n (g, a, 0)).2.2
  · rcases q hd with z | ⟨z, -⟩
    · exact absurd (Int32.le_trans (lgA_0 h h0 n) z) (by decide)
    · exact absurd rfl z
  · exact (p hd).1
theorem gR_run {s : Int32} {h : Nat → Nat} {f : Nat → Int32} (g : GV f) : ∀ i, (∀ j, j < i → h j ≤ 7) → gR 0 (-1) s h (f, 400, 0) i = (rnV s h f i, rnA s h f 400 i, 0) ∧ 0 ≤ rnA s h f 400 i ∧ rnA s h f 400 i ≤ 400 := by
  intro i
  induction i with
  | zero => intro _; exact ⟨rfl, by show (0:Int32) ≤ 400; decide, by show (400:Int32) ≤ 400; decide⟩
  | succ i ih =>
    intro q
    obtain ⟨e, e1, e2⟩ := ih (fun j hj => q j (by omega))
    have gi := GV_rnV (s := s) g i (fun j hj => q j (by omega))
    have gg := GV_goF gi (b := h i) (q i (by omega))
    refine ⟨?_, lgA_0 gg.1 e1 _, Int32.le_trans (lgA_le _ _ _) e2⟩
    show vis 0 (-1) s (h i) (gR 0 (-1) s h (f, 400, 0) i) = _
    rw [e]
    exact wt_run (legK s (rnV s h f i) (h i)) gg.1 e1 e2
/-- the picture with a round's state -/
def rS (σ : Sg) (t : Tri) : Sg := us (us σ 74 t.1) 73 (upd (upd (σ 73) 6 t.2.1) 7 t.2.2)
theorem rS_74 (σ : Sg) (t : Tri) : rS σ t 74 = t.1 := by unfold rS; rw [us_n (by omega), us_s]
theorem rS_73 (σ : Sg) (t : Tri) : rS σ t 73 = upd (upd (σ 73) 6 t.2.1) 7 t.2.2 := us_s _ _ _
theorem rS_n {σ : Sg} {t : Tri} {c : Nat} (h1 : c ≠ 73) (h2 : c ≠ 74) : rS σ t c = σ c := by unfold rS; rw [us_n h1, us_n h2]
theorem rS_6 (σ : Sg) (t : Tri) : rS σ t 73 6 = t.2.1 := by rw [rS_73, upd_n (by omega), upd_s]
theorem rS_7 (σ : Sg) (t : Tri) : rS σ t 73 7 = t.2.2 := by rw [rS_73, upd_s]
theorem rS_j {σ : Sg} {t : Tri} {j : Nat} (h1 : j ≠ 6) (h2 : j ≠ 7) : rS σ t 73 j = σ 73 j := by rw [rS_73, upd_n h2, upd_n h1]
theorem rS_p74 (σ : Sg) (g g' : Nat → Int32) (a y : Int32) : us (rS σ (g, a, y)) 74 g' = rS σ (g', a, y) := by
  unfold rS; funext c
  by_cases h : c = 74
  · subst h; rw [us_s, us_n (by omega), us_s]
  · rw [us_n h]
    by_cases h3 : c = 73
    · subst h3; rw [us_s, us_s]
    · rw [us_n h3, us_n h, us_n h3, us_n h]
theorem rS_p6 (σ : Sg) (g : Nat → Int32) (a y a' : Int32) : us (rS σ (g, a, y)) 73 (upd (rS σ (g, a, y) 73) 6 a') = rS σ (g, a', y) := by
  rw [rS_73]; unfold rS; rw [us_us]; congr 1
  funext k; unfold upd; try simp only
  split
  · rename_i e; subst e; rfl
  · rename_i e; split
    · rfl
    · first | rfl | (rw [if_neg e]; rfl)
theorem rS_p7 (σ : Sg) (g : Nat → Int32) (a y y' : Int32) : us (rS σ (g, a, y)) 73 (upd (rS σ (g, a, y) 73) 7 y') = rS σ (g, a, y') := by
  rw [rS_73]; unfold rS; rw [us_us, upd_upd]
theorem rS_id (σ : Sg) : rS σ (σ 74, σ 73 6, σ 73 7) = σ := by
  unfold rS; rw [us_id, upd_id, upd_id, us_id]
theorem rS_rS (σ : Sg) (t t' : Tri) : rS (rS σ t) t' = rS σ t' := by
  funext c
  by_cases h : c = 74
  · subst h; rw [rS_74, rS_74]
  · by_cases h3 : c = 73
    · subst h3; rw [rS_73, rS_73, rS_73]
      funext k; unfold upd; try simp only
      split
      · rfl
      · rename_i e; split
        · rfl
        · rename_i e2; first | rfl | (rw [if_neg e, if_neg e2])
    · rw [rS_n h3 h, rS_n h3 h, rS_n h3 h]
theorem rS_u74 (σ : Sg) (f : Nat → Int32) (t : Tri) : rS (us σ 74 f) t = rS σ t := by
  unfold rS; rw [us_us, us_n (show (73:Nat) ≠ 74 by omega)]
theorem rS_beg (σ : Sg) : us (us σ 73 (upd (σ 73) 6 400)) 73 (upd (us σ 73 (upd (σ 73) 6 400) 73) 7 0) = rS σ (σ 74, 400, 0) := by
  unfold rS; rw [us_us, us_s, us_id]
theorem rS_Z {σ u : Sg} (h : EqZ σ u) (t : Tri) : EqZ σ (rS u t) := by
  have e : rS u t = us (us (us u 74 t.1) 73 (upd (us u 74 t.1 73) 6 t.2.1)) 73 (upd ((us (us u 74 t.1) 73 (upd (us u 74 t.1 73) 6 t.2.1)) 73) 7 t.2.2) := by
    unfold rS; rw [us_us, us_s, us_n (show (73:Nat) ≠ 74 by omega)]
  rw [e]
  exact (h.p74.slot (by omega)).slot (by omega)
theorem vis_run {s : Int32} {g : Nat → Int32} {a : Int32} {b : Nat} (h : GV g) (hb : b ≤ 7) (h0 : 0 ≤ a) (ha : a ≤ 400) : vis 0 (-1) s b (g, a, 0) = (legV s g b, legA s g a b, 0) := wt_run (legK s g b) (GV_goF h hb).1 h0 ha
