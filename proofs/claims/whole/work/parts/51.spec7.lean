/-! rounds of three -/
abbrev Bst : Type := Int32 × Int32
def itN {B : Type} (F : Nat → B → B) : Nat → B → B
  | 0, b => b
  | i + 1, b => F i (itN F i b)
theorem itN_id {B : Type} {F : Nat → B → B} {b : B} : ∀ n, (∀ i, i < n → F i b = b) → itN F n b = b := by
  intro n
  induction n with
  | zero => intro _; rfl
  | succ n ih => intro h; show F n (itN F n b) = b; rw [ih (fun i hi => h i (by omega))]; exact h n (by omega)
theorem itN_id2 {B : Type} {F : Nat → B → B} {b : B} {m : Nat} : ∀ n, m ≤ n → (∀ i, m ≤ i → i < n → F i (itN F m b) = itN F m b) → itN F n b = itN F m b := by
  intro n
  induction n with
  | zero => intro h _; rw [show m = 0 by omega]
  | succ n ih =>
    intro hm h
    rcases Nat.lt_or_ge n m with c | c
    · rw [show m = n + 1 by omega]
    · show F n (itN F n b) = _
      rw [ih c (fun i h1 h2 => h i h1 (by omega))]; exact h n c (by omega)
/-- a full leg; cold counts where it is asked -/
def lgT (wa s : Int32) (t : Tri) (b : Nat) : Tri := (legV s t.1 b, legA s t.1 t.2.1 b, if wa = 0 then 0 else legC s t.1 t.2.2 b)
abbrev waM (md : Nat) : Int32 := if md = 1 then 1 else 0
abbrev flM (md : Nat) (B : Bst) : Int32 := if md = 0 then B.2 else -1
/-- breads as a sheet tells -/
def fitP (g : Nat → Int32) (m : Nat) (f : Nat → Int32) : Nat → Prop
  | 0 => True
  | i + 1 => fitP g m f i ∧ (i < m → hf f i 5 = g i)
def decFit (g : Nat → Int32) (m : Nat) (f : Nat → Int32) : (n : Nat) → Decidable (fitP g m f n)
  | 0 => isTrue trivial
  | n + 1 => match decFit g m f n with
    | isTrue h => if q : n < m → hf f n 5 = g n then isTrue ⟨h, q⟩ else isFalse (fun z => q z.2)
    | isFalse h => isFalse (fun z => h z.1)
def fitB (g : Nat → Int32) (m : Nat) (f : Nat → Int32) (n : Nat) : Int32 := @ite _ (fitP g m f n) (decFit g m f n) 1 0
theorem fitB_t {g : Nat → Int32} {m : Nat} {f : Nat → Int32} {n : Nat} (h : fitP g m f n) : fitB g m f n = 1 := @if_pos _ (decFit g m f n) h _ _ _
theorem fitB_f {g : Nat → Int32} {m : Nat} {f : Nat → Int32} {n : Nat} (h : ¬ fitP g m f n) : fitB g m f n = 0 := @if_neg _ (decFit g m f n) h _ _ _
theorem fit_at {g : Nat → Int32} {m : Nat} {f : Nat → Int32} : ∀ n, fitP g m f n → ∀ i, i < n → i < m → hf f i 5 = g i := by
  intro n
  induction n with
  | zero => intro _ i h; omega
  | succ n ih =>
    intro h i hi hm
    by_cases e : i = n
    · subst e; exact h.2 hm
    · exact ih h.1 i (by omega) hm
theorem fit_of {g : Nat → Int32} {m : Nat} {f : Nat → Int32} : ∀ n, (∀ i, i < n → i < m → hf f i 5 = g i) → fitP g m f n := by
  intro n
  induction n with
  | zero => intro _; trivial
  | succ n ih => intro h; exact ⟨ih (fun i hi => h i (by omega)), h n (by omega)⟩
/-- a round of three is through -/
def stp (md : Nat) (g : Nat → Int32) (m : Nat) (code : Int32) (t : Tri) (B : Bst) : Bst :=
  if md = 0 then (if B.2 < t.2.1 then (code, t.2.1) else B)
  else if md = 1 then (if t.2.2 = 0 ∧ (B.1 < 0 ∨ t.1 4 < B.2) then (code, t.1 4) else B)
  else (B.1 + fitB g m t.1 (nh t.1), B.2)
def fC (md : Nat) (g : Nat → Int32) (m : Nat) (s : Int32) (told : Nat) (t : Tri) (n : Nat) (B : Bst) : Bst := itN (fun c => stp md g m (nI (10 * told + c)) (lgT (waM md) s t c)) n B
def fBk (md : Nat) (g : Nat → Int32) (m : Nat) (s : Int32) (told : Nat) (t : Tri) (n k : Nat) (B : Bst) : Bst := itN (fun b => fC md g m s (10 * told + b) (lgT (waM md) s t b) n) k B
def fB (md : Nat) (g : Nat → Int32) (m : Nat) (s : Int32) (told : Nat) (t : Tri) (n : Nat) (B : Bst) : Bst := fBk md g m s told t n n B
def fAk (md : Nat) (g : Nat → Int32) (m : Nat) (s : Int32) (f : Nat → Int32) (n k : Nat) (B : Bst) : Bst := itN (fun a => fB md g m s a (lgT (waM md) s (f, 400, 0) a) n) k B
def fA (md : Nat) (g : Nat → Int32) (m : Nat) (s : Int32) (f : Nat → Int32) (n : Nat) (B : Bst) : Bst := fAk md g m s f n n B
/-- nothing can come of it -/
abbrev gM (md : Nat) (B : Bst) (t : Tri) : Prop := (md = 0 ∧ t.2.1 ≤ B.2) ∨ (md = 1 ∧ ¬ t.2.2 = 0)
theorem gM_stp {md : Nat} {g : Nat → Int32} {m : Nat} {code : Int32} {t : Tri} {B : Bst} (h : gM md B t) : stp md g m code t B = B := by
  unfold stp
  rcases h with ⟨rfl, h⟩ | ⟨rfl, h⟩
  · rw [if_pos rfl, if_neg (Int32.not_lt.mpr h)]
  · rw [if_neg (by omega), if_pos rfl, if_neg (fun q => h q.1)]
theorem legA_le {s : Int32} {g : Nat → Int32} {a : Int32} {b : Nat} : legA s g a b ≤ a := lgA_le _ _ _
theorem lgC_n0 {g : Nat → Int32} {y : Int32} (h : y = 0 ∨ y = 1) (hy : ¬ y = 0) (n : Nat) : ¬ lgC g y n = 0 := by
  rcases h with h | h
  · exact absurd h hy
  · rw [h, lgC_1]; decide
theorem gM_lgT {md : Nat} {s : Int32} {t : Tri} {b : Nat} {B : Bst} (hy : t.2.2 = 0 ∨ t.2.2 = 1) (h : gM md B t) : gM md B (lgT (waM md) s t b) := by
  rcases h with ⟨rfl, h⟩ | ⟨rfl, h⟩
  · exact Or.inl ⟨rfl, Int32.le_trans legA_le h⟩
  · refine Or.inr ⟨rfl, ?_⟩
    show ¬ (if (1 : Int32) = 0 then 0 else legC s t.1 t.2.2 b) = 0
    rw [if_neg (by decide)]
    exact lgC_n0 hy h _
theorem lgT_01 {wa s : Int32} {t : Tri} {b : Nat} (hy : t.2.2 = 0 ∨ t.2.2 = 1) : (lgT wa s t b).2.2 = 0 ∨ (lgT wa s t b).2.2 = 1 := by
  show (if wa = 0 then 0 else legC s t.1 t.2.2 b) = 0 ∨ _
  unfold lgT
  split
  · exact Or.inl rfl
  · exact lgC_01 hy _
theorem fC_id {md : Nat} {g : Nat → Int32} {m : Nat} {s : Int32} {told : Nat} {t : Tri} {B : Bst} (hy : t.2.2 = 0 ∨ t.2.2 = 1) (h : gM md B t) (n : Nat) : fC md g m s told t n B = B :=
  itN_id n (fun _ _ => gM_stp (gM_lgT hy h))
/-- what the reference's visit comes to -/
theorem vis_c {md : Nat} {s : Int32} {g : Nat → Int32} {a : Int32} {b : Nat} {B : Bst} (hG : GV g) (hb : b ≤ 7) (h0 : 0 ≤ a) (ha : a ≤ 400) :
    (¬ dnP (flM md B) (vis (waM md) (flM md B) s b (g, a, 0)).2.1 (vis (waM md) (flM md B) s b (g, a, 0)).2.2 → vis (waM md) (flM md B) s b (g, a, 0) = lgT (waM md) s (g, a, 0) b ∧ (lgT (waM md) s (g, a, 0) b).2.2 = 0) ∧
    (dnP (flM md B) (vis (waM md) (flM md B) s b (g, a, 0)).2.1 (vis (waM md) (flM md B) s b (g, a, 0)).2.2 → gM md B (lgT (waM md) s (g, a, 0) b)) := by
  have gg := GV_goF hG hb
  obtain ⟨p, q⟩ := wt_spec (wa := waM md) (fl := flM md B) (legK s g b) (goF g b) a gg.1.1.2.1 ha
  constructor
  · intro h
    obtain ⟨p1, p2, p3⟩ := p h
    by_cases w : waM md = 0
    · refine ⟨p1.trans ?_, if_pos w⟩
      show _ = (legV s g b, legA s g a b, if waM md = 0 then 0 else legC s g 0 b)
      rw [if_pos w]; rfl
    · have e : (lgT (waM md) s (g, a, 0) b).2.2 = 0 := (if_neg w).trans (p3 w)
      refine ⟨p1.trans ?_, e⟩
      show _ = (legV s g b, legA s g a b, (lgT (waM md) s (g, a, 0) b).2.2)
      rw [e]; rfl
  · intro h
    rcases q h with z | ⟨z1, z2⟩
    · by_cases c : md = 0
      · subst c; exact Or.inl ⟨rfl, z⟩
      · have e : flM md B = -1 := if_neg c
        rw [e] at z
        exact absurd (Int32.le_trans (lgA_0 gg.1 h0 _) z) (by decide)
    · have c : md = 1 := by
        by_cases c : md = 1
        · exact c
        · exact absurd (show waM md = 0 from if_neg c) z1
      refine Or.inr ⟨c, ?_⟩
      show ¬ (if waM md = 0 then 0 else legC s g 0 b) = 0
      rw [if_neg z1]
      intro e
      have : lgC (goF g b) 0 (legK s g b) = 0 := e
      rw [z2] at this; exact absurd this (by decide)
theorem wt_y0 {fl : Int32} : ∀ (n : Nat) (t : Tri), t.2.2 = 0 → (wt 0 fl n t).2.2 = 0 := by
  intro n
  induction n with
  | zero => intro t h; exact h
  | succ n ih =>
    intro t h
    unfold wt
    split
    · exact h
    · exact ih _ (show wcY 0 (quarterF t.1) = 0 from if_pos rfl)
theorem wcA_0 {g : Nat → Int32} {a : Int32} (h : Inv g) (ha : 0 ≤ a) : 0 ≤ wcA g a := by
  unfold wcA; split
  · exact lstN_0 (fun i hi => (h.2.1 i hi).1.1) (by decide) _ (Nat.le_refl _)
  · exact ha
theorem wt_a0 {wa fl : Int32} : ∀ (n : Nat) (t : Tri), Inv t.1 → 0 ≤ t.2.1 → 0 ≤ (wt wa fl n t).2.1 := by
  intro n
  induction n with
  | zero => intro t _ h; exact h
  | succ n ih =>
    intro t hI h
    unfold wt
    split
    · exact h
    · exact ih _ (Inv_quarterF hI) (wcA_0 (Inv_quarterF hI) h)
/-- the watched state gives the same step -/
theorem vis_stp {md : Nat} {gg : Nat → Int32} {m : Nat} {s code : Int32} {g : Nat → Int32} {a : Int32} {b : Nat} {B : Bst} (hmd : md < 3) (hG : GV g) (hb : b ≤ 7) (h0 : 0 ≤ a) (ha : a ≤ 400) : stp md gg m code (vis (waM md) (flM md B) s b (g, a, 0)) B = stp md gg m code (lgT (waM md) s (g, a, 0) b) B := by
  obtain ⟨p, q⟩ := vis_c (md := md) (s := s) (B := B) hG hb h0 ha
  by_cases h : dnP (flM md B) (vis (waM md) (flM md B) s b (g, a, 0)).2.1 (vis (waM md) (flM md B) s b (g, a, 0)).2.2
  · rw [gM_stp (q h)]
    have z := q h
    rcases z with ⟨rfl, z⟩ | ⟨rfl, z⟩
    · rcases h with h | h
      · exact gM_stp (Or.inl ⟨rfl, h⟩)
      · exact absurd (wt_y0 (legK s g b) (goF g b, a, 0) rfl) h
    · rcases h with h | h
      · have e : (0 : Int32) ≤ (vis (waM 1) (flM 1 B) s b (g, a, 0)).2.1 := wt_a0 (legK s g b) (goF g b, a, 0) (GV_goF hG hb).1 h0
        exact absurd (Int32.le_trans e h) (by show ¬ (0 : Int32) ≤ -1; decide)
      · exact gM_stp (Or.inr ⟨rfl, h⟩)
  · rw [(p h).1]
