theorem q71 : Cond.initialized RX7 ∈ lw_gd := gd 71 (by decide +kernel) rfl
theorem q86 : Cond.instanceMethod Lib.objectInit ∈ lw_gd := gd 86 (by decide +kernel) rfl
theorem q87 : Cond.code Lib.objectInit ⟨#[0xb1]⟩ 1 none ∈ lw_gd := gd 87 (by decide +kernel) rfl
theorem q552 : Cond.classLink RX8 195 RX6 ∈ lw_gd := gd 552 (by decide +kernel) rfl
theorem q553 : Cond.instantiable RX6 2 ∈ lw_gd := gd 553 (by decide +kernel) rfl
theorem q554 : Cond.methodLinkNest RX8 197 yX6_init RX8 ∈ lw_nw := gdn 554 (by decide +kernel) rfl
theorem q555 : Cond.instanceMethod yX6_init ∈ lw_gd := gd 555 (by decide +kernel) rfl
theorem q556 : Cond.code yX6_init cX6_init 1 none ∈ lw_gd := gd 556 (by decide +kernel) rfl
theorem q557 : Cond.methodLinkNest RX6 1 yX7_init RX8 ∈ lw_nw := gdn 557 (by decide +kernel) rfl
theorem q558 : Cond.instanceMethod yX7_init ∈ lw_gd := gd 558 (by decide +kernel) rfl
theorem q559 : Cond.code yX7_init cX7_init 1 none ∈ lw_gd := gd 559 (by decide +kernel) rfl
theorem q617 : Cond.classLink RX8 206 RX4 ∈ lw_gd := gd 617 (by decide +kernel) rfl
theorem q618 : Cond.instantiable RX4 2 ∈ lw_gd := gd 618 (by decide +kernel) rfl
theorem q619 : Cond.methodLinkNest RX8 208 yX4_init RX8 ∈ lw_nw := gdn 619 (by decide +kernel) rfl
theorem q620 : Cond.instanceMethod yX4_init ∈ lw_gd := gd 620 (by decide +kernel) rfl
theorem q621 : Cond.code yX4_init cX4_init 1 none ∈ lw_gd := gd 621 (by decide +kernel) rfl
theorem q622 : Cond.methodLinkNest RX4 1 yX7_init RX8 ∈ lw_nw := gdn 622 (by decide +kernel) rfl
theorem q864 : Cond.methodLinkNest RX0 1 yX7_init RX8 ∈ lw_nw := gdn 864 (by decide +kernel) rfl
theorem kNyX7_init : KN yX7_init cX7_init 1 none 0 := ⟨q71, q559, by decide +kernel⟩
theorem kNyX6_init : KN yX6_init cX6_init 1 none 0 := ⟨q72, q556, by decide +kernel⟩
theorem kNyX4_init : KN yX4_init cX4_init 1 none 0 := ⟨q73, q621, by decide +kernel⟩
theorem us_comm {σ : Sg} {c d : Nat} {f g : Nat → Int32} (h : c ≠ d) : us (us σ c f) d g = us (us σ d g) c f := by
  funext e
  by_cases h1 : e = d
  · subst h1; rw [us_s, us_n (Ne.symm h), us_s]
  · by_cases h2 : e = c
    · subst h2; rw [us_n h1, us_s, us_s]
    · rw [us_n h1, us_n h2, us_n h2, us_n h1]
def Bsim (B B' : Bst) : Prop := B.1 = B'.1 ∧ (0 ≤ B.1 → B.2 = B'.2)
theorem stp1_sim {g : Nat → Int32} {m : Nat} {code : Int32} {t : Tri} {B B' : Bst} (h : Bsim B B') : Bsim (stp 1 g m code t B) (stp 1 g m code t B') := by
  obtain ⟨h1, h2⟩ := h
  have e : ∀ B : Bst, stp 1 g m code t B = if t.2.2 = 0 ∧ (B.1 < 0 ∨ t.1 4 < B.2) then (code, t.1 4) else B := fun B => by unfold stp; rw [if_neg (by omega), if_pos rfl]
  rw [e, e]
  by_cases c : B.1 < 0
  · by_cases y : t.2.2 = 0
    · rw [if_pos ⟨y, Or.inl c⟩, if_pos ⟨y, Or.inl (h1 ▸ c)⟩]; exact ⟨rfl, fun _ => rfl⟩
    · rw [if_neg (fun z => y z.1), if_neg (fun z => y z.1)]; exact ⟨h1, h2⟩
  · have e2 := h2 (Int32.not_lt.mp c)
    have : B = B' := Prod.ext h1 e2
    rw [this]; exact ⟨rfl, fun _ => rfl⟩
theorem itN_sim {F : Nat → Bst → Bst} (h : ∀ i B B', Bsim B B' → Bsim (F i B) (F i B')) {B B' : Bst} (hb : Bsim B B') : ∀ n, Bsim (itN F n B) (itN F n B') := by
  intro n
  induction n with
  | zero => exact hb
  | succ n ih => exact h n _ _ ih
theorem fC_sim {g : Nat → Int32} {m : Nat} {s : Int32} {told n : Nat} {t : Tri} {B B' : Bst} (h : Bsim B B') : Bsim (fC 1 g m s told t n B) (fC 1 g m s told t n B') := by
  exact itN_sim (F := fun c => stp 1 g m (nI (10 * told + c)) (lgT (waM 1) s t c)) (fun i B B' h => stp1_sim (code := nI (10 * told + i)) (t := lgT (waM 1) s t i) h) h n
theorem fB_sim {g : Nat → Int32} {m : Nat} {s : Int32} {told n : Nat} {t : Tri} {B B' : Bst} (h : Bsim B B') : Bsim (fB 1 g m s told t n B) (fB 1 g m s told t n B') := by
  exact itN_sim (F := fun b => fC 1 g m s (10 * told + b) (lgT (waM 1) s t b) n) (fun i B B' h => fC_sim (told := 10 * told + i) (t := lgT (waM 1) s t i) (n := n) h) h n
theorem fA_sim {g : Nat → Int32} {m : Nat} {s : Int32} {f : Nat → Int32} {n : Nat} {B B' : Bst} (h : Bsim B B') : Bsim (fA 1 g m s f n B) (fA 1 g m s f n B') := by
  exact itN_sim (F := fun a => fB 1 g m s a (lgT (waM 1) s (f, 400, 0) a) n) (fun i B B' h => fB_sim (told := i) (t := lgT (waM 1) s (f, 400, 0) i) (n := n) h) h n
theorem bst1_b (g : Nat → Int32) (m : Nat) (s : Int32) (f : Nat → Int32) : (fA 1 g m s f (nh f) (-1, 0)).1 = (bst 1 g m s f).1 := by
  have h : Bsim (-1, 0) (B0 1) := ⟨rfl, fun q => absurd (show (0:Int32) ≤ -1 from q) (by decide)⟩
  unfold bst
  exact (fA_sim h).1

theorem c_X7_init {l : Launch} {E : En} {ws : va_W} {q : Nat}  : MG l yX7_init cX7_init 1 none rmX7_init 0 0 E [.ref q] (PW E ws) (fun r (u : Unit) => r = none) (fun u => PW E ws) := by
  refine MG_ofI (by decide +kernel) rfl rfl fun x C hI hE hT => ?_
  have C : CX x cX7_init RX7 rmX7_init := C
  refine V_L (L' := [some (.ref q)]) rfl ?_
  refine V_aload_n C dX7_init_0 rfl ?_
  refine V_objInit C dX7_init_1 q560 q86 q87 rfl rfl ?_
  exact V_ret C (u := ()) dX7_init_4 hT rfl (fun _ h => h) PM_W

theorem c_X6_init {l : Launch} {E : En} {ws : va_W} {k q : Nat} {a b : Int32} (hk : ws[k]? = some (q, .inr (6, [.int a, .int b]))) : MG l yX6_init cX6_init 1 none rmX6_init 0 0 E [.ref q] (PW E ws) (fun r (u : Unit) => r = none) (fun u => PW E (ws.set k (q, .inr (6, [.int (-1), .int b])))) := by
  refine MG_ofI (by decide +kernel) rfl rfl fun x C hI hE hT => ?_
  have C : CX x cX6_init RX6 rmX6_init := C
  refine V_L (L' := [some (.ref q)]) rfl ?_
  refine V_aload_n C dX6_init_0 rfl ?_
  refine V_callIN C hE dX6_init_1 (c_X7_init (ws := ws) (q := q)) kNyX7_init q557 ⟨rfl, q558⟩ ⟨Nat.le_of_ble_eq_true rfl, Nat.le_of_ble_eq_true rfl⟩ ⟨rfl, rfl⟩ rfl ⟨Nat.le_of_ble_eq_true rfl, Nat.le_of_ble_eq_true rfl⟩ rfl (Nat.le_of_ble_eq_true rfl) PM_W (fun _ => PM_W) ?_
  rintro r u rfl
  refine V_aload_n C dX6_init_4 rfl ?_
  refine V_iconst C (-1) dX6_init_5 (by decide) ?_
  refine V_put C dX6_init_6 (wrW (j := 0) hk rfl (by simp)) ft_X6 (by decide) q561 rfl rfl rfl rfl ?_
  exact V_ret C (u := ()) dX6_init_9 hT rfl (fun _ h => h) PM_W

theorem c_X4_init {l : Launch} {E : En} {ws : va_W} {k q : Nat} {a b : Int32} (hk : ws[k]? = some (q, .inr (4, [.int a, .int b]))) : MG l yX4_init cX4_init 1 none rmX4_init 0 0 E [.ref q] (PW E ws) (fun r (u : Unit) => r = none) (fun u => PW E (ws.set k (q, .inr (4, [.int a, .int (-1)])))) := by
  refine MG_ofI (by decide +kernel) rfl rfl fun x C hI hE hT => ?_
  have C : CX x cX4_init RX4 rmX4_init := C
  refine V_L (L' := [some (.ref q)]) rfl ?_
  refine V_aload_n C dX4_init_0 rfl ?_
  refine V_callIN C hE dX4_init_1 (c_X7_init (ws := ws) (q := q)) kNyX7_init q622 ⟨rfl, q558⟩ ⟨Nat.le_of_ble_eq_true rfl, Nat.le_of_ble_eq_true rfl⟩ ⟨rfl, rfl⟩ rfl ⟨Nat.le_of_ble_eq_true rfl, Nat.le_of_ble_eq_true rfl⟩ rfl (Nat.le_of_ble_eq_true rfl) PM_W (fun _ => PM_W) ?_
  rintro r u rfl
  refine V_aload_n C dX4_init_4 rfl ?_
  refine V_iconst C (-1) dX4_init_5 (by decide) ?_
  refine V_put C dX4_init_6 (wrW (j := 1) hk rfl (by simp)) ft_X4 (by decide) q624 rfl rfl rfl rfl ?_
  exact V_ret C (u := ()) dX4_init_9 hT rfl (fun _ h => h) PM_W

theorem c_X0_init {l : Launch} {E : En} {ws : va_W} {k q p : Nat} {b : Int32} (hk : ws[k]? = some (q, .inr (0, [.null, .int b]))) : MG l yX0_init cX0_init 2 none rmX0_init 0 0 E [.ref q, .ref p] (PW E ws) (fun r (u : Unit) => r = none) (fun u => PW E (ws.set k (q, .inr (0, [.ref p, .int b])))) := by
  refine MG_ofI (by decide +kernel) rfl rfl fun x C hI hE hT => ?_
  have C : CX x cX0_init RX0 rmX0_init := C
  refine V_L (L' := [some (.ref q), some (.ref p)]) rfl ?_
  refine V_aload_n C dX0_init_0 rfl ?_
  refine V_callIN C hE dX0_init_1 (c_X7_init (ws := ws) (q := q)) kNyX7_init q864 ⟨rfl, q558⟩ ⟨Nat.le_of_ble_eq_true rfl, Nat.le_of_ble_eq_true rfl⟩ ⟨rfl, rfl⟩ rfl ⟨Nat.le_of_ble_eq_true rfl, Nat.le_of_ble_eq_true rfl⟩ rfl (Nat.le_of_ble_eq_true rfl) PM_W (fun _ => PM_W) ?_
  rintro r u rfl
  refine V_aload_n C dX0_init_4 rfl ?_
  refine V_aload_n C dX0_init_5 rfl ?_
  refine V_putF C hI dX0_init_6 (wrW (j := 0) hk rfl (by simp)) ft_X0 (by decide) q865 rfl rfl rfl rfl rfl ?_
  exact V_ret C (u := ()) dX0_init_9 hT rfl (fun _ h => h) PM_W

def rnX8_three : Room := { frames := rmX8_three.frames, cells := 1, slots := 2, locals := rmX8_three.locals }

theorem c_X8_three {l : Launch} {E : En} {σ : Sg} {p0 : Int32} (h0 : eW E = 0) (hG : GV (σ 0)) (hq4 : Q4 (σ 0) 20000) : MG l yX8_three cX8_three 4 (some .int) rnX8_three 1 2 E [.ref (ad E 60), .int p0] (PT E σ) (PX σ (S_three (σ 0) p0) (σ 0)) (fun u => PA E u) := by
  refine MG_of (by decide +kernel) rfl fun x C hE hT => V_use fun _ hP0 => ?_
  have C : CX x cX8_three RX8 rnX8_three := C
  have hdc : DC (xs x) := hP0.2
  refine V_to (P' := AP x E σ) (fun _ h => h.1) rfl rfl ?_
  refine V_L (L' := [some (.ref (ad E 60)), some (.int p0), none, none]) rfl ?_
  refine V_aload_n C dX8_three_0 rfl ?_
  refine V_iload_n C dX8_three_1 rfl ?_
  refine V_cv C hE dX8_three_2 (c_X8_roundFinding) kyX8_roundFinding q522 (isoO 60 rfl rfl rfl rfl) rfl rfl rfl ?_
  by_cases hs : inP p0 1 12
  · by_cases hc : 0 < σ 0 3 ∨ σ 0 1 = 0 ∨ 9700 < σ 0 0
    · refine V_st (st' := [.int 4]) (by unfold finR; rw [if_neg (fun z => z hs), if_pos hc]) ?_
      refine V_istore_n C dX8_three_5 rfl ?_
      refine V_iload_n C dX8_three_6 rfl ?_
      refine V_if_lt C dX8_three_7 (fun c7 => absurd c7 (by decide)) (fun c7 => ?_)
      refine V_aload_n C dX8_three_10 rfl ?_
      refine V_iload_n C dX8_three_11 rfl ?_
      refine V_cv C hE dX8_three_12 (c_X8_fail (j := 4) (by omega)) kyX8_fail q273 (isoO 60 rfl rfl rfl rfl) rfl rfl rfl ?_
      refine V_widen (k' := 1) (n' := 2) (by omega) (by omega) ?_
      exact V_iret C (u := _) dX8_three_15 hT (PX_fail (by unfold S_three; rw [if_pos hs, if_pos hc]) (EqX.rf σ)) (fun _ h => h) PM_A
    · refine V_st (st' := [.int (-1)]) (by unfold finR; rw [if_neg (fun z => z hs), if_neg hc]) ?_
      refine V_istore_n C dX8_three_5 rfl ?_
      refine V_iload_n C dX8_three_6 rfl ?_
      refine V_if_lt C dX8_three_7 (fun c7 => ?_) (fun c7 => absurd (by decide) c7)
      refine V_raw fun ρ hA => ?_
      refine V_to (P' := WP x E (wld E ρ)) (fun _ h => h) rfl rfl ?_
      refine V_new (ci := 6) (fs := [.int 0, .int 0]) C hE dX8_three_16 in_X6 tyX6_ok q552 q553 q72 rfl (fun j hj => by rcases (show j = 0 ∨ j = 1 by omega) with rfl | rfl <;> rfl) rfl rfl (fun q => ?_)
      refine V_dup C dX8_three_19 rfl ?_
      refine V_callIN C hE dX8_three_20 (c_X6_init (k := 85) (q := q) (wld_last h0)) kNyX6_init q554 ⟨rfl, q555⟩ ⟨Nat.le_of_ble_eq_true rfl, Nat.le_of_ble_eq_true rfl⟩ ⟨rfl, rfl⟩ rfl ⟨Nat.le_of_ble_eq_true rfl, Nat.le_of_ble_eq_true rfl⟩ rfl (Nat.le_of_ble_eq_true rfl) PM_W (fun _ => PM_W) ?_
      rintro r u rfl
      rw [wld_setL h0]
      refine PA_lift (w := 1) (σ := σ) (f := (fun j => if j = 0 then -1 else 0)) h0 (by omega) rfl hA rfl rfl ?_
      have hE' : CE (mkE E (1) q) (xs x) (xs x).heap := hE
      refine V_astore_n C dX8_three_23 rfl ?_
      refine V_aload_n C dX8_three_24 rfl ?_
      refine V_iload_n C dX8_three_25 rfl ?_
      refine V_aload_n C dX8_three_26 rfl ?_
      refine V_to (P' := TP x (mkE E 1 q) (us σ 85 (fun j => if j = 0 then -1 else 0))) (fun _ h => ⟨h, hdc⟩) rfl rfl ?_
      refine V_call C hE' dX8_three_27 (c_X8_tryThrees0 (E := (mkE E 1 q)) (σ := (us σ 85 (fun j => if j = 0 then -1 else 0))) (s := p0) (f := σ 0) (Bi := (0, -1)) rfl (us_n (by omega)) hG hq4 hs (⟨fun _ => ⟨by rw [us_s]; rfl, by rw [us_s]; rfl⟩, fun z => absurd z (by omega), fun z => absurd z (by omega)⟩)) kyX8_tryThrees q570 (fun H hH => (isoO (E := (mkE E 1 q)) 60 rfl rfl rfl rfl) H hH.1) ⟨Nat.le_of_ble_eq_true rfl, Nat.le_of_ble_eq_true rfl⟩ ⟨rfl, rfl⟩ rfl ⟨Nat.le_of_ble_eq_true rfl, Nat.le_of_ble_eq_true rfl⟩ rfl (Nat.le_of_ble_eq_true rfl) PM_T (fun _ => PM_A) ?_
      rintro r u ⟨rfl, hX, hB⟩
      have hn0 : 0 < nh (σ 0) := by
        rcases Nat.eq_zero_or_pos (nh (σ 0)) with z | z
        · exact absurd (Or.inr (Or.inl (by rw [hG.1.1.1, z]; rfl))) hc
        · exact z
      rw [fA_beg (y := -1) hG hn0, show fA 0 (fun _ => 0) 0 p0 (σ 0) (nh (σ 0)) (-1, -1) = bst 0 (fun _ => 0) 0 p0 (σ 0) from rfl] at hB
      refine V_aload_n C dX8_three_30 rfl ?_
      refine V_getN C hE.nw dX8_three_31 (rd85 (E := (mkE E 1 q)) (j := 1) (by show 1 ≠ 0; omega) (cel85_1 rfl _) rfl rfl) in_X6 (by decide) q564 rfl ?_
      exact V_iret C (u := us u 85 (σ 85)) dX8_three_34 hT (PX_rd (by unfold S_three; rw [if_pos hs, if_neg hc, (hB.1 rfl).1]) hX.out) (fun H h => PA_drop (w := 1) (q := q) h0 (by omega) h) PM_A
  · refine V_st (st' := [.int 0]) (by unfold finR; rw [if_pos hs]) ?_
    refine V_istore_n C dX8_three_5 rfl ?_
    refine V_iload_n C dX8_three_6 rfl ?_
    refine V_if_lt C dX8_three_7 (fun c7 => absurd c7 (by decide)) (fun c7 => ?_)
    refine V_aload_n C dX8_three_10 rfl ?_
    refine V_iload_n C dX8_three_11 rfl ?_
    refine V_cv C hE dX8_three_12 (c_X8_fail (j := 0) (by omega)) kyX8_fail q273 (isoO 60 rfl rfl rfl rfl) rfl rfl rfl ?_
    refine V_widen (k' := 1) (n' := 2) (by omega) (by omega) ?_
    exact V_iret C (u := _) dX8_three_15 hT (PX_fail (by unfold S_three; rw [if_neg hs]) (EqX.rf σ)) (fun _ h => h) PM_A

def rnX8_least : Room := { frames := rmX8_least.frames, cells := 1, slots := 2, locals := rmX8_least.locals }

theorem c_X8_least {l : Launch} {E : En} {σ : Sg} {p0 : Int32} (h0 : eW E = 0) (hG : GV (σ 0)) (hq4 : Q4 (σ 0) 20000) : MG l yX8_least cX8_least 4 (some .int) rnX8_least 1 2 E [.ref (ad E 60), .int p0] (PT E σ) (PX σ (S_least (σ 0) p0) (σ 0)) (fun u => PA E u) := by
  refine MG_of (by decide +kernel) rfl fun x C hE hT => V_use fun _ hP0 => ?_
  have C : CX x cX8_least RX8 rnX8_least := C
  have hdc : DC (xs x) := hP0.2
  refine V_to (P' := AP x E σ) (fun _ h => h.1) rfl rfl ?_
  refine V_L (L' := [some (.ref (ad E 60)), some (.int p0), none, none]) rfl ?_
  refine V_aload_n C dX8_least_0 rfl ?_
  refine V_iload_n C dX8_least_1 rfl ?_
  refine V_cv C hE dX8_least_2 (c_X8_roundFinding) kyX8_roundFinding q522 (isoO 60 rfl rfl rfl rfl) rfl rfl rfl ?_
  by_cases hs : inP p0 1 12
  · by_cases hc : 0 < σ 0 3 ∨ σ 0 1 = 0 ∨ 9700 < σ 0 0
    · refine V_st (st' := [.int 4]) (by unfold finR; rw [if_neg (fun z => z hs), if_pos hc]) ?_
      refine V_istore_n C dX8_least_5 rfl ?_
      refine V_iload_n C dX8_least_6 rfl ?_
      refine V_if_lt C dX8_least_7 (fun c7 => absurd c7 (by decide)) (fun c7 => ?_)
      refine V_aload_n C dX8_least_10 rfl ?_
      refine V_iload_n C dX8_least_11 rfl ?_
      refine V_cv C hE dX8_least_12 (c_X8_fail (j := 4) (by omega)) kyX8_fail q273 (isoO 60 rfl rfl rfl rfl) rfl rfl rfl ?_
      refine V_widen (k' := 1) (n' := 2) (by omega) (by omega) ?_
      exact V_iret C (u := _) dX8_least_15 hT (PX_fail (by unfold S_least; rw [if_pos hs, if_pos hc]) (EqX.rf σ)) (fun _ h => h) PM_A
    · refine V_st (st' := [.int (-1)]) (by unfold finR; rw [if_neg (fun z => z hs), if_neg hc]) ?_
      refine V_istore_n C dX8_least_5 rfl ?_
      refine V_iload_n C dX8_least_6 rfl ?_
      refine V_if_lt C dX8_least_7 (fun c7 => ?_) (fun c7 => absurd (by decide) c7)
      refine V_raw fun ρ hA => ?_
      refine V_to (P' := WP x E (wld E ρ)) (fun _ h => h) rfl rfl ?_
      refine V_new (ci := 6) (fs := [.int 0, .int 0]) C hE dX8_least_16 in_X6 tyX6_ok q552 q553 q72 rfl (fun j hj => by rcases (show j = 0 ∨ j = 1 by omega) with rfl | rfl <;> rfl) rfl rfl (fun q => ?_)
      refine V_dup C dX8_least_19 rfl ?_
      refine V_callIN C hE dX8_least_20 (c_X6_init (k := 85) (q := q) (wld_last h0)) kNyX6_init q554 ⟨rfl, q555⟩ ⟨Nat.le_of_ble_eq_true rfl, Nat.le_of_ble_eq_true rfl⟩ ⟨rfl, rfl⟩ rfl ⟨Nat.le_of_ble_eq_true rfl, Nat.le_of_ble_eq_true rfl⟩ rfl (Nat.le_of_ble_eq_true rfl) PM_W (fun _ => PM_W) ?_
      rintro r u rfl
      rw [wld_setL h0]
      refine PA_lift (w := 1) (σ := σ) (f := (fun j => if j = 0 then -1 else 0)) h0 (by omega) rfl hA rfl rfl ?_
      have hE' : CE (mkE E (1) q) (xs x) (xs x).heap := hE
      refine V_astore_n C dX8_least_23 rfl ?_
      refine V_aload_n C dX8_least_24 rfl ?_
      refine V_iload_n C dX8_least_25 rfl ?_
      refine V_aload_n C dX8_least_26 rfl ?_
      refine V_to (P' := TP x (mkE E 1 q) (us σ 85 (fun j => if j = 0 then -1 else 0))) (fun _ h => ⟨h, hdc⟩) rfl rfl ?_
      refine V_call C hE' dX8_least_27 (c_X8_tryThrees0 (E := (mkE E 1 q)) (σ := (us σ 85 (fun j => if j = 0 then -1 else 0))) (s := p0) (f := σ 0) (Bi := (0, -1)) rfl (us_n (by omega)) hG hq4 hs (⟨fun _ => ⟨by rw [us_s]; rfl, by rw [us_s]; rfl⟩, fun z => absurd z (by omega), fun z => absurd z (by omega)⟩)) kyX8_tryThrees q570 (fun H hH => (isoO (E := (mkE E 1 q)) 60 rfl rfl rfl rfl) H hH.1) ⟨Nat.le_of_ble_eq_true rfl, Nat.le_of_ble_eq_true rfl⟩ ⟨rfl, rfl⟩ rfl ⟨Nat.le_of_ble_eq_true rfl, Nat.le_of_ble_eq_true rfl⟩ rfl (Nat.le_of_ble_eq_true rfl) PM_T (fun _ => PM_A) ?_
      rintro r u ⟨rfl, hX, hB⟩
      have hn0 : 0 < nh (σ 0) := by
        rcases Nat.eq_zero_or_pos (nh (σ 0)) with z | z
        · exact absurd (Or.inr (Or.inl (by rw [hG.1.1.1, z]; rfl))) hc
        · exact z
      rw [fA_beg (y := -1) hG hn0, show fA 0 (fun _ => 0) 0 p0 (σ 0) (nh (σ 0)) (-1, -1) = bst 0 (fun _ => 0) 0 p0 (σ 0) from rfl] at hB
      refine V_aload_n C dX8_least_30 rfl ?_
      refine V_getN C hE.nw dX8_least_31 (rd85 (E := (mkE E 1 q)) (j := 0) (by show 1 ≠ 0; omega) (cel85_1 rfl _) rfl rfl) in_X6 (by decide) q562 rfl ?_
      exact V_iret C (u := us u 85 (σ 85)) dX8_least_34 hT (PX_rd (by unfold S_least; rw [if_pos hs, if_neg hc, (hB.1 rfl).2]) hX.out) (fun H h => PA_drop (w := 1) (q := q) h0 (by omega) h) PM_A
  · refine V_st (st' := [.int 0]) (by unfold finR; rw [if_pos hs]) ?_
    refine V_istore_n C dX8_least_5 rfl ?_
    refine V_iload_n C dX8_least_6 rfl ?_
    refine V_if_lt C dX8_least_7 (fun c7 => absurd c7 (by decide)) (fun c7 => ?_)
    refine V_aload_n C dX8_least_10 rfl ?_
    refine V_iload_n C dX8_least_11 rfl ?_
    refine V_cv C hE dX8_least_12 (c_X8_fail (j := 0) (by omega)) kyX8_fail q273 (isoO 60 rfl rfl rfl rfl) rfl rfl rfl ?_
    refine V_widen (k' := 1) (n' := 2) (by omega) (by omega) ?_
    exact V_iret C (u := _) dX8_least_15 hT (PX_fail (by unfold S_least; rw [if_neg hs]) (EqX.rf σ)) (fun _ h => h) PM_A

def rnX8_thrift : Room := { frames := rmX8_thrift.frames, cells := 1, slots := 2, locals := rmX8_thrift.locals }

theorem c_X8_thrift {l : Launch} {E : En} {σ : Sg} {p0 : Int32} (h0 : eW E = 0) (hG : GV (σ 0)) (hq4 : Q4 (σ 0) 20000) : MG l yX8_thrift cX8_thrift 4 (some .int) rnX8_thrift 1 2 E [.ref (ad E 60), .int p0] (PT E σ) (PX σ (S_thrift (σ 0) p0) (σ 0)) (fun u => PA E u) := by
  refine MG_of (by decide +kernel) rfl fun x C hE hT => V_use fun _ hP0 => ?_
  have C : CX x cX8_thrift RX8 rnX8_thrift := C
  have hdc : DC (xs x) := hP0.2
  refine V_to (P' := AP x E σ) (fun _ h => h.1) rfl rfl ?_
  refine V_L (L' := [some (.ref (ad E 60)), some (.int p0), none, none]) rfl ?_
  refine V_aload_n C dX8_thrift_0 rfl ?_
  refine V_iload_n C dX8_thrift_1 rfl ?_
  refine V_cv C hE dX8_thrift_2 (c_X8_roundFinding) kyX8_roundFinding q522 (isoO 60 rfl rfl rfl rfl) rfl rfl rfl ?_
  by_cases hs : inP p0 1 12
  · by_cases hc : 0 < σ 0 3 ∨ σ 0 1 = 0 ∨ 9700 < σ 0 0
    · refine V_st (st' := [.int 4]) (by unfold finR; rw [if_neg (fun z => z hs), if_pos hc]) ?_
      refine V_istore_n C dX8_thrift_5 rfl ?_
      refine V_iload_n C dX8_thrift_6 rfl ?_
      refine V_if_lt C dX8_thrift_7 (fun c7 => absurd c7 (by decide)) (fun c7 => ?_)
      refine V_aload_n C dX8_thrift_10 rfl ?_
      refine V_iload_n C dX8_thrift_11 rfl ?_
      refine V_cv C hE dX8_thrift_12 (c_X8_fail (j := 4) (by omega)) kyX8_fail q273 (isoO 60 rfl rfl rfl rfl) rfl rfl rfl ?_
      refine V_widen (k' := 1) (n' := 2) (by omega) (by omega) ?_
      exact V_iret C (u := _) dX8_thrift_15 hT (PX_fail (by unfold S_thrift; rw [if_pos hs, if_pos hc]) (EqX.rf σ)) (fun _ h => h) PM_A
    · refine V_st (st' := [.int (-1)]) (by unfold finR; rw [if_neg (fun z => z hs), if_neg hc]) ?_
      refine V_istore_n C dX8_thrift_5 rfl ?_
      refine V_iload_n C dX8_thrift_6 rfl ?_
      refine V_if_lt C dX8_thrift_7 (fun c7 => ?_) (fun c7 => absurd (by decide) c7)
      refine V_raw fun ρ hA => ?_
      refine V_to (P' := WP x E (wld E ρ)) (fun _ h => h) rfl rfl ?_
      refine V_new (ci := 4) (fs := [.int 0, .int 0]) C hE dX8_thrift_16 in_X4 tyX4_ok q617 q618 q73 rfl (fun j hj => by rcases (show j = 0 ∨ j = 1 by omega) with rfl | rfl <;> rfl) rfl rfl (fun q => ?_)
      refine V_dup C dX8_thrift_19 rfl ?_
      refine V_callIN C hE dX8_thrift_20 (c_X4_init (k := 85) (q := q) (wld_last h0)) kNyX4_init q619 ⟨rfl, q620⟩ ⟨Nat.le_of_ble_eq_true rfl, Nat.le_of_ble_eq_true rfl⟩ ⟨rfl, rfl⟩ rfl ⟨Nat.le_of_ble_eq_true rfl, Nat.le_of_ble_eq_true rfl⟩ rfl (Nat.le_of_ble_eq_true rfl) PM_W (fun _ => PM_W) ?_
      rintro r u rfl
      rw [wld_setL h0]
      refine PA_lift (w := 2) (σ := σ) (f := (fun j => if j = 1 then -1 else 0)) h0 (by omega) rfl hA rfl rfl ?_
      have hE' : CE (mkE E (2) q) (xs x) (xs x).heap := hE
      refine V_astore_n C dX8_thrift_23 rfl ?_
      refine V_aload_n C dX8_thrift_24 rfl ?_
      refine V_iload_n C dX8_thrift_25 rfl ?_
      refine V_aload_n C dX8_thrift_26 rfl ?_
      refine V_to (P' := TP x (mkE E 2 q) (us σ 85 (fun j => if j = 1 then -1 else 0))) (fun _ h => ⟨h, hdc⟩) rfl rfl ?_
      refine V_call C hE' dX8_thrift_27 (c_X8_tryThrees1 (E := (mkE E 2 q)) (σ := (us σ 85 (fun j => if j = 1 then -1 else 0))) (s := p0) (f := σ 0) (Bi := (-1, 0)) rfl (us_n (by omega)) hG hq4 hs (⟨fun z => absurd z (by omega), fun _ => ⟨by rw [us_s]; rfl, fun z => absurd (show (0:Int32) ≤ -1 from z) (by decide)⟩, fun z => absurd z (by omega)⟩)) kyX8_tryThrees q570 (fun H hH => (isoO (E := (mkE E 2 q)) 60 rfl rfl rfl rfl) H hH.1) ⟨Nat.le_of_ble_eq_true rfl, Nat.le_of_ble_eq_true rfl⟩ ⟨rfl, rfl⟩ rfl ⟨Nat.le_of_ble_eq_true rfl, Nat.le_of_ble_eq_true rfl⟩ rfl (Nat.le_of_ble_eq_true rfl) PM_T (fun _ => PM_A) ?_
      rintro r u ⟨rfl, hX, hB⟩
      have hn0 : 0 < nh (σ 0) := by
        rcases Nat.eq_zero_or_pos (nh (σ 0)) with z | z
        · exact absurd (Or.inr (Or.inl (by rw [hG.1.1.1, z]; rfl))) hc
        · exact z
      have hb1 : u 85 1 = (bst 1 (fun _ => 0) 0 p0 (σ 0)).1 := by
        rw [(hB.2.1 rfl).1]; exact bst1_b _ _ _ _
      refine V_aload_n C dX8_thrift_30 rfl ?_
      refine V_getN C hE.nw dX8_thrift_31 (rd85 (E := (mkE E 2 q)) (j := 1) (by show 2 ≠ 0; omega) (cel85_2 rfl _) rfl rfl) in_X4 (by decide) q625 rfl ?_
      rw [hb1]
      refine V_if_ge C dX8_thrift_34 (fun c34 => ?_) (fun c34 => ?_)
      · refine V_aload_n C dX8_thrift_45 rfl ?_
        refine V_getN C hE.nw dX8_thrift_46 (rd85 (E := (mkE E 2 q)) (j := 1) (by show 2 ≠ 0; omega) (cel85_2 rfl _) rfl rfl) in_X4 (by decide) q625 rfl ?_
        rw [hb1]
        exact V_iret C (u := us u 85 (σ 85)) dX8_thrift_49 hT (PX_rd (by unfold S_thrift; rw [if_pos hs, if_neg hc, if_neg (Int32.not_lt.mpr c34)]) hX.out) (fun H h => PA_drop (w := 2) (q := q) h0 (by omega) h) PM_A
      · refine V_aload_n C dX8_thrift_37 rfl ?_
        refine V_iconst C 3 dX8_thrift_38 (by decide) ?_
        refine V_cv C hE' dX8_thrift_39 (c_X8_fail (E := (mkE E 2 q)) (j := 3) (by omega)) kyX8_fail q273 (isoO (E := (mkE E 2 q)) 60 rfl rfl rfl rfl) rfl rfl rfl ?_
        refine V_goto C dX8_thrift_42 ?_
        exact V_iret C (u := us (us u 62 (upd (u 62) 3 (u 62 3 + 1))) 85 (σ 85)) dX8_thrift_49 hT (by
          have z := PX_fail (σ := σ) (u := us u 85 (σ 85)) (S := S_thrift (σ 0) p0) (g := σ 0) (j := 3) (by unfold S_thrift; rw [if_pos hs, if_neg hc, if_pos (Int32.not_le.mp c34)]) hX.out
          rw [us_n (show (62:Nat) ≠ 85 by omega)] at z
          have e : us (us u 85 (σ 85)) 62 (upd (u 62) 3 (u 62 3 + 1)) = us (us u 62 (upd (u 62) 3 (u 62 3 + 1))) 85 (σ 85) := us_comm (by omega)
          rw [e] at z
          exact z) (fun H h => PA_drop (w := 2) (q := q) h0 (by omega) h) PM_A
  · refine V_st (st' := [.int 0]) (by unfold finR; rw [if_pos hs]) ?_
    refine V_istore_n C dX8_thrift_5 rfl ?_
    refine V_iload_n C dX8_thrift_6 rfl ?_
    refine V_if_lt C dX8_thrift_7 (fun c7 => absurd c7 (by decide)) (fun c7 => ?_)
    refine V_aload_n C dX8_thrift_10 rfl ?_
    refine V_iload_n C dX8_thrift_11 rfl ?_
    refine V_cv C hE dX8_thrift_12 (c_X8_fail (j := 0) (by omega)) kyX8_fail q273 (isoO 60 rfl rfl rfl rfl) rfl rfl rfl ?_
    refine V_widen (k' := 1) (n' := 2) (by omega) (by omega) ?_
    exact V_iret C (u := _) dX8_thrift_15 hT (PX_fail (by unfold S_thrift; rw [if_neg hs]) (EqX.rf σ)) (fun _ h => h) PM_A

