theorem LH.st2 {nL : Nat} {L : List (Option Value)} {ls ls' : Array Slot} (h : LH nL L ls) {i : Nat} {v : Value} (ho : stOK2 L i = true)
    (h' : lv_has ls' nL ((i, v) :: (lvL 0 L).filter (fun q => !(q.1 == i) && (!(q.1 == i + 1) && !(q.1 + 1 == i && q.2.category == 2))))) : LH nL (L.set i (some v)) ls' := by
  simp only [stOK2, Bool.and_eq_true, Bool.or_eq_true] at ho
  have hlt : i + 1 < L.length := Nat.le_of_ble_eq_true ho.1.1
  refine ⟨by rw [List.length_set]; exact h.1, h'.1, h'.2.1, fun q hq => h'.2.2 q ?_⟩
  obtain ⟨j, w⟩ := q
  obtain ⟨k, hk, hw⟩ := (lvL_mem _ 0 j w).mp hq
  have hjk : k = j := by omega
  subst hjk
  by_cases hki : k = i
  · subst hki
    rw [List.getElem?_set_self (by omega)] at hw
    have : v = w := by simpa using hw
    subst this
    exact List.mem_cons_self
  · rw [List.getElem?_set_ne (Ne.symm hki)] at hw
    refine List.mem_cons_of_mem _ (List.mem_filter.mpr ⟨(lvL_mem L 0 k w).mpr ⟨k, by omega, hw⟩, ?_⟩)
    simp only [Bool.and_eq_true, Bool.not_eq_true', beq_eq_false_iff_ne, ne_eq]
    refine ⟨hki, ?_, ?_⟩
    · intro e
      subst e
      rw [hw] at ho
      have := ho.2
      simp at this
    · by_cases hk1 : k + 1 = i
      · subst hk1
        rcases ho.1.2 with h0 | h0
        · simp at h0
        · simp only [Nat.add_sub_cancel, hw] at h0
          have h1 : w.category = 1 := by simpa using h0
          simp [h1]
      · simp [hk1]
theorem stOK2_lt {L : List (Option Value)} {i : Nat} (h : stOK2 L i = true) : i + 1 < L.length := by
  simp only [stOK2, Bool.and_eq_true, Bool.or_eq_true] at h
  exact Nat.le_of_ble_eq_true h.1.1
theorem V_lstore_n {x : Cx} {cc : ByteArray} {own : String} {R : Room} {A : Nat → Prop} {P : Heap → Prop} {k n pc pc' : Nat} {L : List (Option Value)} {st : List Value} (C : CX x cc own R) {i : Fin 4} {a : Int64} (hd : D1 cc pc (.lstore_n i) 1 pc') (ho : stOK2 L (i : Nat) = true) (h : V x A P k n pc' (L.set (i : Nat) (some (.long a))) (st)) : V x A P k n pc L (.long a :: st) := by
  obtain ⟨p, l, e, R', s, m, args, below, meth, c, Q⟩ := x
  obtain ⟨hx, hb, hR, hown, hts⟩ := C
  obtain ⟨hd, rfl⟩ := hd
  intro H locs ls hP hS hL
  exact lv_lstore_n hx hb hd rfl hL.2 (by rw [← hL.1]; exact stOK2_lt ho) rfl (fun ls hl => h H locs ls hP hS (hL.st2 ho hl))
theorem V_lretD {x : Cx} {cc : ByteArray} {own : String} {R : Room} {E : En} {pc pc' : Nat} {L : List (Option Value)} {σ : Sg} (C : CX x cc own R) {a r0 : Int64} {σ0 : Sg} (hd : D1 cc pc .lreturn 1 pc') (hT : RTD x (some .long) E (some (.long r0)) σ0) (hr : a = r0) (hs : σ = σ0) : V x (eA E) (AP x E σ) 0 0 pc L [.long a] :=
  V_lret C (u := σ) hd hT ⟨by rw [hr], hs⟩ (fun _ h => h) PM_A
/-- the model's slots of the text: from, to, value, isWrong -/
def VF (f : Nat → Int32) (a b c d : Int32) : Nat → Int32 := upd (upd (upd (upd f 18 a) 19 b) 20 c) 21 d
theorem VF_id (f : Nat → Int32) : VF f (f 18) (f 19) (f 20) (f 21) = f := by
  unfold VF
  funext k
  unfold upd
  split
  · next h => rw [h]
  · split
    · next h => rw [h]
    · split
      · next h => rw [h]
      · split
        · next h => rw [h]
        · rfl
theorem VF_g17 {f : Nat → Int32} {a b c d : Int32} : VF f a b c d 17 = f 17 := rfl
theorem VF_g18 {f : Nat → Int32} {a b c d : Int32} : VF f a b c d 18 = a := rfl
theorem VF_g19 {f : Nat → Int32} {a b c d : Int32} : VF f a b c d 19 = b := rfl
theorem VF_g20 {f : Nat → Int32} {a b c d : Int32} : VF f a b c d 20 = c := rfl
theorem VF_g21 {f : Nat → Int32} {a b c d : Int32} : VF f a b c d 21 = d := rfl
theorem VF_21 {f : Nat → Int32} {a b c d y : Int32} : upd (VF f a b c d) 21 y = VF f a b c y := by unfold VF; rw [upd_upd]
theorem VF_20 {f : Nat → Int32} {a b c d y : Int32} : upd (VF f a b c d) 20 y = VF f a b y d := by unfold VF; rw [upd_c (by omega), upd_upd]
theorem VF_19 {f : Nat → Int32} {a b c d y : Int32} : upd (VF f a b c d) 19 y = VF f a y c d := by unfold VF; rw [upd_c (i := 21) (by omega), upd_c (i := 20) (by omega), upd_upd]
theorem VF_18 {f : Nat → Int32} {a b c d y : Int32} : upd (VF f a b c d) 18 y = VF f y b c d := by unfold VF; rw [upd_c (i := 21) (by omega), upd_c (i := 20) (by omega), upd_c (i := 19) (by omega), upd_upd]
/-- the picture while the reference reads: at s, the value v, wrong or not, its row r -/
def ZQ (σ : Sg) (f : Nat → Int32) (n s : Nat) (v w : Int32) (r : Nat → Int32) : Sg := us (us σ 73 (VF f (nI s) (nI (enT (σ 80) n s)) v w)) 74 r
theorem ZQ_73 {σ : Sg} {f r : Nat → Int32} {n s : Nat} {v w : Int32} : ZQ σ f n s v w r 73 = VF f (nI s) (nI (enT (σ 80) n s)) v w := by unfold ZQ; rw [us_n (by omega), us_s]
theorem ZQ_80 {σ : Sg} {f r : Nat → Int32} {n s : Nat} {v w : Int32} : ZQ σ f n s v w r 80 = σ 80 := by unfold ZQ; rw [us_n (by omega), us_n (by omega)]
theorem ZQ_74 {σ : Sg} {f r : Nat → Int32} {n s : Nat} {v w : Int32} : ZQ σ f n s v w r 74 = r := by unfold ZQ; rw [us_s]
theorem ZQ_u74 {σ : Sg} {f r r' : Nat → Int32} {n s : Nat} {v w : Int32} : us (ZQ σ f n s v w r) 74 r' = ZQ σ f n s v w r' := by unfold ZQ; rw [us_us]
theorem ZQ_u73 {σ : Sg} {f r : Nat → Int32} {n s s' : Nat} {v w v' w' : Int32} : us (ZQ σ f n s v w r) 73 (VF f (nI s') (nI (enT (σ 80) n s')) v' w') = ZQ σ f n s' v' w' r := by unfold ZQ; rw [us_comm (c := 74) (d := 73) (by omega), us_us]
/-- a word's letters to the base 32, as the reference counts -/
def wIT (t : Nat → Int32) (s : Nat) : Nat → Int64
  | 0 => 0
  | k + 1 => if wIT t s k ≤ 36028797018963967 then 32 * wIT t s k + (t (s + k) - 96).toInt64 else wIT t s k
def wlT (t : Nat → Int32) (n s : Nat) (w : Int32) : Int64 := if w = 0 ∧ s < n ∧ isLT (t s) then wIT t s (enT t n s - s) else 0
def ltT (b : Int32) : Nat := b.toNatClampNeg - 96
theorem ltT_b {b : Int32} (h : isLT b) : 1 ≤ ltT b ∧ ltT b ≤ 26 ∧ b = nI (96 + ltT b) := by
  obtain ⟨k, rfl, hk⟩ := i32_le (m := 122) (by omega) (Int32.le_trans (by decide) h.1) h.2
  have h1 := (nI_leI (a := 97) (b := k) (by omega) (by omega)).mp h.1
  unfold ltT
  rw [nI_clamp (by omega)]
  exact ⟨by omega, by omega, by congr 1; omega⟩
def bFT (d : Nat → Nat) : Nat → Nat
  | 0 => 0
  | k + 1 => 32 * bFT d k + d k
theorem bF_inj {d e : Nat → Nat} : ∀ (a b : Nat), (∀ j, j < a → 1 ≤ d j ∧ d j ≤ 31) → (∀ j, j < b → 1 ≤ e j ∧ e j ≤ 31) → bFT d a = bFT e b → a = b ∧ ∀ j, j < a → d j = e j := by
  intro a
  induction a with
  | zero =>
    intro b _ he h
    cases b with
    | zero => exact ⟨rfl, fun j hj => absurd hj (by omega)⟩
    | succ b =>
      have := he b (by omega)
      have h' : 0 = 32 * bFT e b + e b := h
      omega
  | succ a ih =>
    intro b hd he h
    cases b with
    | zero =>
      have := hd a (by omega)
      have h' : 32 * bFT d a + d a = 0 := h
      omega
    | succ b =>
      have h1 := hd a (by omega)
      have h2 := he b (by omega)
      have h' : 32 * bFT d a + d a = 32 * bFT e b + e b := h
      obtain ⟨q1, q2⟩ := ih b (fun j hj => hd j (by omega)) (fun j hj => he j (by omega)) (by omega)
      subst q1
      refine ⟨rfl, fun j hj => ?_⟩
      by_cases c : j = a
      · subst c; omega
      · exact q2 j (by omega)
theorem bF_ext {d e : Nat → Nat} : ∀ a, (∀ j, j < a → d j = e j) → bFT d a = bFT e a := by
  intro a
  induction a with
  | zero => intro _; rfl
  | succ a ih => intro h; show 32 * bFT d a + d a = 32 * bFT e a + e a; rw [ih (fun j hj => h j (by omega)), h a (by omega)]
theorem bF_mono {d : Nat → Nat} {a : Nat} : ∀ k, bFT d a ≤ bFT d (a + k) := by
  intro k
  induction k with
  | zero => exact Nat.le_refl _
  | succ k ih => show bFT d a ≤ 32 * bFT d (a + k) + d (a + k); omega
theorem wI_eq {t : Nat → Int32} {s e : Nat} (h : ∀ k, s ≤ k → k < e → isLT (t k)) : ∀ k, s + k ≤ e → (bFT (fun j => ltT (t (s + j))) k ≤ 36028797018963967 * 32 + 31 ∧ wIT t s k = Int64.ofNat (bFT (fun j => ltT (t (s + j))) k)) ∨ (36028797018963967 < bFT (fun j => ltT (t (s + j))) k ∧ 36028797018963967 < wIT t s k) := by
  intro k
  induction k with
  | zero => intro _; exact Or.inl ⟨Nat.zero_le _, rfl⟩
  | succ k ih =>
    intro hk
    obtain ⟨l1, l2, l3⟩ := ltT_b (h (s + k) (by omega) (by omega))
    have hb : bFT (fun j => ltT (t (s + j))) (k + 1) = 32 * bFT (fun j => ltT (t (s + j))) k + ltT (t (s + k)) := rfl
    have le : ∀ m : Nat, m < 2 ^ 62 → (Int64.ofNat m ≤ 36028797018963967 ↔ m ≤ 36028797018963967) := fun m hm => by
      rw [Int64.le_iff_toInt_le, lg_ofNat_toInt (by omega)]
      have : (36028797018963967 : Int64).toInt = 36028797018963967 := by decide
      rw [this]; omega
    have kc : ∀ v : Int64, wIT t s k = v → ¬ v ≤ 36028797018963967 → wIT t s (k + 1) = v := fun v hv hn => by
      show (if wIT t s k ≤ 36028797018963967 then _ else _) = _
      rw [if_neg (by rw [hv]; exact hn), hv]
    rcases ih (by omega) with ⟨h1, h2⟩ | ⟨h1, h2⟩
    · by_cases c : bFT (fun j => ltT (t (s + j))) k ≤ 36028797018963967
      · left
        refine ⟨by rw [hb]; omega, ?_⟩
        show (if wIT t s k ≤ 36028797018963967 then 32 * wIT t s k + (t (s + k) - 96).toInt64 else wIT t s k) = _
        rw [h2, if_pos ((le _ (by omega)).mpr c), hb]
        have e1 : t (s + k) - 96 = nI (ltT (t (s + k))) := by
          rw [show (96 : Int32) = nI 96 from rfl]
          rw (occs := .pos [1]) [l3]
          rw [nI_msub (by omega), Nat.add_sub_cancel_left]
        rw [e1, nI_l (by omega)]
        rw [show (32 : Int64) = lN 32 from rfl, show Int64.ofNat (bFT (fun j => ltT (t (s + j))) k) = lN (bFT (fun j => ltT (t (s + j))) k) from rfl, lN_mul, lN_add]
        rfl
      · right
        have q : ¬ (Int64.ofNat (bFT (fun j => ltT (t (s + j))) k)) ≤ 36028797018963967 := fun z => c ((le _ (by omega)).mp z)
        refine ⟨by rw [hb]; omega, ?_⟩
        rw [kc _ h2 q]; exact Int64.not_le.mp q
    · right
      refine ⟨by rw [hb]; omega, ?_⟩
      rw [kc _ rfl (Int64.not_le.mpr h2)]; exact h2
def csT (i : Nat) : Nat := bFT (fun j => ltT (chT i j)) (lenTx.getD i 0)
theorem cs_ok : ∀ i, i < 15 → csT i ≤ 36028797018963967 ∧ csT i ≠ 0 ∧ lenTx.getD i 0 ≤ 8 ∧ ∀ j, j < lenTx.getD i 0 → isLT (chT i j) := by decide +kernel
theorem lt_inj {a b : Int32} (ha : isLT a) (hb : isLT b) (h : ltT a = ltT b) : a = b := by rw [(ltT_b ha).2.2, (ltT_b hb).2.2, h]
theorem wl_c {t : Nat → Int32} {n s i : Nat} {w : Int32} (hi : i < 15) : lg_cmp (wlT t n s w) (Int64.ofNat (csT i)) = 0 ↔ w = 0 ∧ wdT t n i s := by
  obtain ⟨c1, c2, c3, c4⟩ := cs_ok i hi
  rw [lg_cmp_eq]
  have oi : ∀ a b : Nat, a < 2 ^ 63 → b < 2 ^ 63 → (Int64.ofNat a = Int64.ofNat b ↔ a = b) := fun a b ha hb => ⟨fun h => by
    have := congrArg Int64.toInt h
    rw [lg_ofNat_toInt ha, lg_ofNat_toInt hb] at this
    omega, fun h => by rw [h]⟩
  unfold wlT
  by_cases h : w = 0 ∧ s < n ∧ isLT (t s)
  · rw [if_pos h]
    have hge : s ≤ enT t n s := enT_ge
    have hL : ∀ k, s ≤ k → k < enT t n s → isLT (t k) := fun k h1 h2 => (enT_mL h.2.1 h.2.2 h1 h2).2
    have key : bFT (fun j => ltT (t (s + j))) (enT t n s - s) = csT i ↔ wdT t n i s := by
      constructor
      · intro q
        obtain ⟨e1, e2⟩ := bF_inj _ _ (fun j hj => by have := ltT_b (hL (s + j) (by omega) (by omega)); omega) (fun j hj => by have := ltT_b (c4 j hj); omega) q
        refine wdT_i.mpr ⟨h.2, e1, fun j hj => lt_inj (hL (s + j) (by omega) (by omega)) (c4 j hj) (e2 j (by omega))⟩
      · intro q
        obtain ⟨-, e1, e2⟩ := wdT_i.mp q
        rw [e1]
        exact bF_ext _ (fun j hj => by show ltT (t (s + j)) = ltT (chT i j); rw [e2 j hj])
    rcases wI_eq hL (enT t n s - s) (by omega) with ⟨h1, h2⟩ | ⟨h1, h2⟩
    · rw [h2, oi _ _ (by omega) (by omega), key]
      exact ⟨fun q => ⟨h.1, q⟩, fun q => q.2⟩
    · constructor
      · intro q
        rw [q, Int64.lt_iff_toInt_lt, lg_ofNat_toInt (by omega)] at h2
        have : (36028797018963967 : Int64).toInt = 36028797018963967 := by decide
        rw [this] at h2; omega
      · intro q
        have := key.mpr q.2
        omega
  · rw [if_neg h]
    constructor
    · intro q
      exact absurd ((oi 0 (csT i) (by omega) (by omega)).mp q).symm c2
    · intro q
      exact absurd ⟨q.1, (wdT_i.mp q.2).1⟩ h
def fvT (t : Nat → Int32) (n s : Nat) : Int32 := if s < n ∧ isDT (t s) then nI (vlT t n s) else 0
theorem vf_s {t : Nat → Int32} {s k : Nat} (hd : isDT (t (s + k))) (hv : vfT t s k ≤ 9999) : (nI (vfT t s k) ≤ 999 → 10 * nI (vfT t s k) + t (s + k) - 48 = nI (vfT t s (k + 1))) ∧ (¬ nI (vfT t s k) ≤ 999 → nI (vfT t s k) = nI (vfT t s (k + 1))) := by
  obtain ⟨h1, h2⟩ := dgT_b hd
  have u : vfT t s (k + 1) = if 999 < vfT t s k then vfT t s k else 10 * vfT t s k + dgT (t (s + k)) := rfl
  have le : nI (vfT t s k) ≤ 999 ↔ vfT t s k ≤ 999 := nI_leI (b := 999) (by omega) (by omega)
  constructor
  · intro q
    rw [u, if_neg (by have := le.mp q; omega), h2, show (10 : Int32) * nI (vfT t s k) = nI (10 * vfT t s k) from nI_mul 10 _, nI_add, ← h2, show (48 : Int32) = nI 48 from rfl, nI_msub (by omega)]
    congr 1; omega
  · intro q
    rw [u, if_pos (Nat.lt_of_not_le fun z => q (le.mpr z))]

theorem c_X9_byteAt {l : Launch} {E : En} {σ : Sg} {n i : Nat} (h17 : σ 73 17 = nI n) (hn : n ≤ 120) (hi : i ≤ 200) : MD l yX9_byteAt cX9_byteAt 2 (some .int) rmX9_byteAt E [.ref (ad E 73), .int (nI i)] (σ) (some (.int (bAT (σ 80) n i))) (σ) := by
  refine MD_of (by decide +kernel) rfl fun x C hE hT hcan => ?_
  have C : CX x cX9_byteAt RX9 rmX9_byteAt := C
  refine V_L (L' := [some (.ref (ad E 73)), some (.int (nI i))]) rfl ?_
  refine V_iload_n C dX9_byteAt_0 rfl ?_
  refine V_aload_n C dX9_byteAt_1 rfl ?_
  refine V_get C dX9_byteAt_2 (rdO (j := 17) 73 rfl rfl rfl rfl rfl) in_X9 (by decide) q924 rfl ?_
  refine V_icmp_ge C dX9_byteAt_5 (fun c5 => ?_) (fun c5 => ?_)
  · refine V_iconst C (-1) dX9_byteAt_17 (by decide) ?_
    exact V_iretD C dX9_byteAt_18 hT (by rw [h17] at c5; first | (rw [bAT_out (by have := (nI_leI (a := n) (b := i) (by omega) (by omega)).mp c5; omega)] <;> rfl) | (rw [bAT_in ((nI_ltI (a := i) (b := n) (by omega) (by omega)).mp (Int32.not_le.mp c5))])) rfl
  · refine V_aload_n C dX9_byteAt_8 rfl ?_
    refine V_get C dX9_byteAt_9 (rdO (j := 16) 73 rfl rfl rfl rfl rfl) in_X9 (by decide) q923 rfl ?_
    refine V_iload_n C dX9_byteAt_12 rfl ?_
    refine V_ialdN C i rfl (by rw [h17] at c5; have := (nI_ltI (a := i) (b := n) (by omega) (by omega)).mp (Int32.not_le.mp c5); omega) (by omega) dX9_byteAt_13 (rdOA 80 rfl rfl rfl) ?_
    refine V_goto C dX9_byteAt_14 ?_
    exact V_iretD C dX9_byteAt_18 hT (by rw [h17] at c5; first | (rw [bAT_out (by have := (nI_leI (a := n) (b := i) (by omega) (by omega)).mp c5; omega)] <;> rfl) | (rw [bAT_in ((nI_ltI (a := i) (b := n) (by omega) (by omega)).mp (Int32.not_le.mp c5))])) rfl

theorem c_X9_token {l : Launch} {E : En} {σ : Sg} {f : Nat → Int32} {n e : Nat} {a c g : Int32} (hw : σ 73 = VF f a (nI e) c g) (h17 : f 17 = nI n) (he : e ≤ n) (hn : n ≤ 120) : MD l yX9_token cX9_token 3 none rmX9_token E [.ref (ad E 73)] (σ) (none) (us σ 73 (VF f (nI (skT (σ 80) n e)) (nI (enT (σ 80) n (skT (σ 80) n e))) c g)) := by
  refine MD_of (by decide +kernel) rfl fun x C hE hT hcan => ?_
  have C : CX x cX9_token RX9 rmX9_token := C
  refine V_L (L' := [some (.ref (ad E 73)), none, none]) rfl ?_
  have j34 : ∀ s, s ≤ n → skT (σ 80) n e = s → V x (eA E) (AP x E (us σ 73 (VF f (nI s) (nI e) c g))) 0 0 34 [some (.ref (ad E 73)), none, none] [] := by
    intro s hs hsk
    rw [hsk] at hT
    rcases (show (∃ _ : s < n, isLT (σ 80 s)) ∨ (∃ _ : s < n, isDT (σ 80 s)) ∨ (∃ _ : s < n, ¬ isLT (σ 80 s) ∧ ¬ isDT (σ 80 s)) ∨ ¬ s < n from by
      by_cases q : s < n
      · by_cases q1 : isLT (σ 80 s)
        · exact Or.inl ⟨q, q1⟩
        · by_cases q2 : isDT (σ 80 s)
          · exact Or.inr (Or.inl ⟨q, q2⟩)
          · exact Or.inr (Or.inr (Or.inl ⟨q, q1, q2⟩))
      · exact Or.inr (Or.inr (Or.inr q))) with ⟨hsn, hl⟩ | ⟨hsn, hl⟩ | ⟨hsn, hl, hd⟩ | hsn
    · refine V_aload_n C dX9_token_34 rfl ?_
      refine V_aload_n C dX9_token_35 rfl ?_
      refine V_get C dX9_token_36 (rdO (j := 18) 73 rfl rfl rfl rfl rfl) in_X9 (by decide) q925 rfl ?_
      try simp (disch := omega) only [us_us, us_s, us_n, hw, h17, VF_18, VF_19, VF_20, VF_21, VF_g17, VF_g18, VF_g19, VF_g20, VF_g21]
      refine V_cv C hE dX9_token_39 (c_X9_byteAt (n := n) (i := s) (by simp (disch := omega) only [us_s, VF_g17, h17]) (by omega) (by omega)) kyX9_byteAt q1303 (isoO 73 rfl rfl rfl rfl) rfl rfl rfl ?_
      try simp (disch := omega) only [us_us, us_s, us_n, hw, h17, VF_18, VF_19, VF_20, VF_21, VF_g17, VF_g18, VF_g19, VF_g20, VF_g21]
      refine V_cs C hE dX9_token_42 (c_X9_isLetter) kyX9_isLetter q1307 rfl rfl rfl ?_
      try simp (disch := omega) only [us_us, us_s, us_n, hw, h17, VF_18, VF_19, VF_20, VF_21, VF_g17, VF_g18, VF_g19, VF_g20, VF_g21]
      refine V_istore_n C dX9_token_45 rfl ?_
      refine V_aload_n C dX9_token_46 rfl ?_
      refine V_aload_n C dX9_token_47 rfl ?_
      refine V_get C dX9_token_48 (rdO (j := 18) 73 rfl rfl rfl rfl rfl) in_X9 (by decide) q925 rfl ?_
      try simp (disch := omega) only [us_us, us_s, us_n, hw, h17, VF_18, VF_19, VF_20, VF_21, VF_g17, VF_g18, VF_g19, VF_g20, VF_g21]
      refine V_cv C hE dX9_token_51 (c_X9_byteAt (n := n) (i := s) (by simp (disch := omega) only [us_s, VF_g17, h17]) (by omega) (by omega)) kyX9_byteAt q1303 (isoO 73 rfl rfl rfl rfl) rfl rfl rfl ?_
      try simp (disch := omega) only [us_us, us_s, us_n, hw, h17, VF_18, VF_19, VF_20, VF_21, VF_g17, VF_g18, VF_g19, VF_g20, VF_g21]
      refine V_cs C hE dX9_token_54 (c_X9_isDigit) kyX9_isDigit q1312 rfl rfl rfl ?_
      try simp (disch := omega) only [us_us, us_s, us_n, hw, h17, VF_18, VF_19, VF_20, VF_21, VF_g17, VF_g18, VF_g19, VF_g20, VF_g21]
      refine V_istore_n C dX9_token_57 rfl ?_
      refine V_aload_n C dX9_token_58 rfl ?_
      refine V_aload_n C dX9_token_59 rfl ?_
      refine V_get C dX9_token_60 (rdO (j := 18) 73 rfl rfl rfl rfl rfl) in_X9 (by decide) q925 rfl ?_
      try simp (disch := omega) only [us_us, us_s, us_n, hw, h17, VF_18, VF_19, VF_20, VF_21, VF_g17, VF_g18, VF_g19, VF_g20, VF_g21]
      refine V_aload_n C dX9_token_63 rfl ?_
      refine V_get C dX9_token_64 (rdO (j := 17) 73 rfl rfl rfl rfl rfl) in_X9 (by decide) q924 rfl ?_
      try simp (disch := omega) only [us_us, us_s, us_n, hw, h17, VF_18, VF_19, VF_20, VF_21, VF_g17, VF_g18, VF_g19, VF_g20, VF_g21]
      refine V_icmp_ge C dX9_token_67 (fun c67 => absurd c67 (nI_ge hsn (by omega))) (fun c67 => ?_)
      refine V_aload_n C dX9_token_70 rfl ?_
      refine V_get C dX9_token_71 (rdO (j := 18) 73 rfl rfl rfl rfl rfl) in_X9 (by decide) q925 rfl ?_
      try simp (disch := omega) only [us_us, us_s, us_n, hw, h17, VF_18, VF_19, VF_20, VF_21, VF_g17, VF_g18, VF_g19, VF_g20, VF_g21]
      refine V_iconst C 1 dX9_token_74 (by decide) ?_
      refine V_iadd C dX9_token_75 ?_
      refine V_goto C dX9_token_76 ?_
      refine V_put C dX9_token_83 (wrO (j := 19) 73 rfl rfl rfl rfl rfl rfl) ft_X9 (by decide) q926 rfl rfl rfl rfl ?_
      try simp (disch := omega) only [us_us, us_s, us_n, hw, h17, VF_18, VF_19, VF_20, VF_21, VF_g17, VF_g18, VF_g19, VF_g20, VF_g21]
      have lp : ∀ (d i : Nat) , i + d = n → (rnT lpT (σ 80) n i = rnT lpT (σ 80) n (s + 1)) → V x (eA E) (AP x E (us σ 73 (VF f (nI s) (nI i) c g))) 0 0 86 [some (.ref (ad E 73)), some (.int (bI (isLT (bAT (σ 80) n s)))), some (.int (bI (isDT (bAT (σ 80) n s))))] [] := by
        intro d
        induction d with
        | zero =>
          intro i  hi' hI
          have hN : i = n := by omega
          refine V_iload_n C dX9_token_86 rfl ?_
          refine V_ifeq_b C dX9_token_87 (fun c87 => absurd (bAT_L.mpr ⟨hsn, hl⟩) c87) (fun c87 => ?_)
          refine V_aload_n C dX9_token_90 rfl ?_
          refine V_aload_n C dX9_token_91 rfl ?_
          refine V_get C dX9_token_92 (rdO (j := 19) 73 rfl rfl rfl rfl rfl) in_X9 (by decide) q926 rfl ?_
          try simp (disch := omega) only [us_us, us_s, us_n, hw, h17, VF_18, VF_19, VF_20, VF_21, VF_g17, VF_g18, VF_g19, VF_g20, VF_g21]
          refine V_cv C hE dX9_token_95 (c_X9_byteAt (n := n) (i := i) (by simp (disch := omega) only [us_s, VF_g17, h17]) (by omega) (by omega)) kyX9_byteAt q1303 (isoO 73 rfl rfl rfl rfl) rfl rfl rfl ?_
          try simp (disch := omega) only [us_us, us_s, us_n, hw, h17, VF_18, VF_19, VF_20, VF_21, VF_g17, VF_g18, VF_g19, VF_g20, VF_g21]
          refine V_cs C hE dX9_token_98 (c_X9_isLetter) kyX9_isLetter q1307 rfl rfl rfl ?_
          try simp (disch := omega) only [us_us, us_s, us_n, hw, h17, VF_18, VF_19, VF_20, VF_21, VF_g17, VF_g18, VF_g19, VF_g20, VF_g21]
          refine V_ifne_b C dX9_token_101 (fun c101 => absurd c101 (fun q => absurd (bAT_L.mp q).1 (by omega))) (fun c101 => ?_)
          refine V_iload_n C dX9_token_104 rfl ?_
          refine V_ifeq_b C dX9_token_105 (fun c105 => ?_) (fun c105 => absurd c105 (fun q => not_LD hl (bAT_D.mp q).2))
          exact V_retD C dX9_token_135 hT (by rw [show enT (σ 80) n s = i from by rw [enT_L hsn hl, ← hI]; exact (rnT_k (fun q => by omega))])
        | succ d ih =>
          intro i  hi' hI
          refine V_iload_n C dX9_token_86 rfl ?_
          refine V_ifeq_b C dX9_token_87 (fun c87 => absurd (bAT_L.mpr ⟨hsn, hl⟩) c87) (fun c87 => ?_)
          refine V_aload_n C dX9_token_90 rfl ?_
          refine V_aload_n C dX9_token_91 rfl ?_
          refine V_get C dX9_token_92 (rdO (j := 19) 73 rfl rfl rfl rfl rfl) in_X9 (by decide) q926 rfl ?_
          try simp (disch := omega) only [us_us, us_s, us_n, hw, h17, VF_18, VF_19, VF_20, VF_21, VF_g17, VF_g18, VF_g19, VF_g20, VF_g21]
          refine V_cv C hE dX9_token_95 (c_X9_byteAt (n := n) (i := i) (by simp (disch := omega) only [us_s, VF_g17, h17]) (by omega) (by omega)) kyX9_byteAt q1303 (isoO 73 rfl rfl rfl rfl) rfl rfl rfl ?_
          try simp (disch := omega) only [us_us, us_s, us_n, hw, h17, VF_18, VF_19, VF_20, VF_21, VF_g17, VF_g18, VF_g19, VF_g20, VF_g21]
          refine V_cs C hE dX9_token_98 (c_X9_isLetter) kyX9_isLetter q1307 rfl rfl rfl ?_
          try simp (disch := omega) only [us_us, us_s, us_n, hw, h17, VF_18, VF_19, VF_20, VF_21, VF_g17, VF_g18, VF_g19, VF_g20, VF_g21]
          refine V_ifne_b C dX9_token_101 (fun c101 => ?_) (fun c101 => ?_)
          · refine V_aload_n C dX9_token_122 rfl ?_
            refine V_dup C dX9_token_123 rfl ?_
            refine V_get C dX9_token_124 (rdO (j := 19) 73 rfl rfl rfl rfl rfl) in_X9 (by decide) q926 rfl ?_
            try simp (disch := omega) only [us_us, us_s, us_n, hw, h17, VF_18, VF_19, VF_20, VF_21, VF_g17, VF_g18, VF_g19, VF_g20, VF_g21]
            refine V_iconst C 1 dX9_token_127 (by decide) ?_
            refine V_iadd C dX9_token_128 ?_
            refine V_put C dX9_token_129 (wrO (j := 19) 73 rfl rfl rfl rfl rfl rfl) ft_X9 (by decide) q926 rfl rfl rfl rfl ?_
            try simp (disch := omega) only [us_us, us_s, us_n, hw, h17, VF_18, VF_19, VF_20, VF_21, VF_g17, VF_g18, VF_g19, VF_g20, VF_g21]
            refine V_goto C dX9_token_132 ?_
            exact V_nx (by rw [nI_1]) rfl (ih (i + 1) (by omega) (by rw [← hI]; exact (rnT_s (bAT_L.mp c101).1 (lpT_t.mpr (bAT_L.mp c101).2)).symm))
          · refine V_iload_n C dX9_token_104 rfl ?_
            refine V_ifeq_b C dX9_token_105 (fun c105 => ?_) (fun c105 => absurd c105 (fun q => not_LD hl (bAT_D.mp q).2))
            exact V_retD C dX9_token_135 hT (by rw [show enT (σ 80) n s = i from by rw [enT_L hsn hl, ← hI]; exact (rnT_k (fun q => c101 (bAT_L.mpr ⟨q.1, lpT_t.mp q.2⟩)))])
      exact V_nx (by rw [nI_1]) rfl (lp (n - (s + 1)) (s + 1) (by omega) rfl)
    · refine V_aload_n C dX9_token_34 rfl ?_
      refine V_aload_n C dX9_token_35 rfl ?_
      refine V_get C dX9_token_36 (rdO (j := 18) 73 rfl rfl rfl rfl rfl) in_X9 (by decide) q925 rfl ?_
      try simp (disch := omega) only [us_us, us_s, us_n, hw, h17, VF_18, VF_19, VF_20, VF_21, VF_g17, VF_g18, VF_g19, VF_g20, VF_g21]
      refine V_cv C hE dX9_token_39 (c_X9_byteAt (n := n) (i := s) (by simp (disch := omega) only [us_s, VF_g17, h17]) (by omega) (by omega)) kyX9_byteAt q1303 (isoO 73 rfl rfl rfl rfl) rfl rfl rfl ?_
      try simp (disch := omega) only [us_us, us_s, us_n, hw, h17, VF_18, VF_19, VF_20, VF_21, VF_g17, VF_g18, VF_g19, VF_g20, VF_g21]
      refine V_cs C hE dX9_token_42 (c_X9_isLetter) kyX9_isLetter q1307 rfl rfl rfl ?_
      try simp (disch := omega) only [us_us, us_s, us_n, hw, h17, VF_18, VF_19, VF_20, VF_21, VF_g17, VF_g18, VF_g19, VF_g20, VF_g21]
      refine V_istore_n C dX9_token_45 rfl ?_
      refine V_aload_n C dX9_token_46 rfl ?_
      refine V_aload_n C dX9_token_47 rfl ?_
      refine V_get C dX9_token_48 (rdO (j := 18) 73 rfl rfl rfl rfl rfl) in_X9 (by decide) q925 rfl ?_
      try simp (disch := omega) only [us_us, us_s, us_n, hw, h17, VF_18, VF_19, VF_20, VF_21, VF_g17, VF_g18, VF_g19, VF_g20, VF_g21]
      refine V_cv C hE dX9_token_51 (c_X9_byteAt (n := n) (i := s) (by simp (disch := omega) only [us_s, VF_g17, h17]) (by omega) (by omega)) kyX9_byteAt q1303 (isoO 73 rfl rfl rfl rfl) rfl rfl rfl ?_
      try simp (disch := omega) only [us_us, us_s, us_n, hw, h17, VF_18, VF_19, VF_20, VF_21, VF_g17, VF_g18, VF_g19, VF_g20, VF_g21]
      refine V_cs C hE dX9_token_54 (c_X9_isDigit) kyX9_isDigit q1312 rfl rfl rfl ?_
      try simp (disch := omega) only [us_us, us_s, us_n, hw, h17, VF_18, VF_19, VF_20, VF_21, VF_g17, VF_g18, VF_g19, VF_g20, VF_g21]
      refine V_istore_n C dX9_token_57 rfl ?_
      refine V_aload_n C dX9_token_58 rfl ?_
      refine V_aload_n C dX9_token_59 rfl ?_
      refine V_get C dX9_token_60 (rdO (j := 18) 73 rfl rfl rfl rfl rfl) in_X9 (by decide) q925 rfl ?_
      try simp (disch := omega) only [us_us, us_s, us_n, hw, h17, VF_18, VF_19, VF_20, VF_21, VF_g17, VF_g18, VF_g19, VF_g20, VF_g21]
      refine V_aload_n C dX9_token_63 rfl ?_
      refine V_get C dX9_token_64 (rdO (j := 17) 73 rfl rfl rfl rfl rfl) in_X9 (by decide) q924 rfl ?_
      try simp (disch := omega) only [us_us, us_s, us_n, hw, h17, VF_18, VF_19, VF_20, VF_21, VF_g17, VF_g18, VF_g19, VF_g20, VF_g21]
      refine V_icmp_ge C dX9_token_67 (fun c67 => absurd c67 (nI_ge hsn (by omega))) (fun c67 => ?_)
      refine V_aload_n C dX9_token_70 rfl ?_
      refine V_get C dX9_token_71 (rdO (j := 18) 73 rfl rfl rfl rfl rfl) in_X9 (by decide) q925 rfl ?_
      try simp (disch := omega) only [us_us, us_s, us_n, hw, h17, VF_18, VF_19, VF_20, VF_21, VF_g17, VF_g18, VF_g19, VF_g20, VF_g21]
      refine V_iconst C 1 dX9_token_74 (by decide) ?_
      refine V_iadd C dX9_token_75 ?_
      refine V_goto C dX9_token_76 ?_
      refine V_put C dX9_token_83 (wrO (j := 19) 73 rfl rfl rfl rfl rfl rfl) ft_X9 (by decide) q926 rfl rfl rfl rfl ?_
      try simp (disch := omega) only [us_us, us_s, us_n, hw, h17, VF_18, VF_19, VF_20, VF_21, VF_g17, VF_g18, VF_g19, VF_g20, VF_g21]
      have lp : ∀ (d i : Nat) , i + d = n → (rnT dpT (σ 80) n i = rnT dpT (σ 80) n (s + 1)) → V x (eA E) (AP x E (us σ 73 (VF f (nI s) (nI i) c g))) 0 0 86 [some (.ref (ad E 73)), some (.int (bI (isLT (bAT (σ 80) n s)))), some (.int (bI (isDT (bAT (σ 80) n s))))] [] := by
        intro d
        induction d with
        | zero =>
          intro i  hi' hI
          have hN : i = n := by omega
          refine V_iload_n C dX9_token_86 rfl ?_
          refine V_ifeq_b C dX9_token_87 (fun c87 => ?_) (fun c87 => absurd c87 (fun q => not_LD (bAT_L.mp q).2 hl))
          refine V_iload_n C dX9_token_104 rfl ?_
          refine V_ifeq_b C dX9_token_105 (fun c105 => absurd (bAT_D.mpr ⟨hsn, hl⟩) c105) (fun c105 => ?_)
          refine V_aload_n C dX9_token_108 rfl ?_
          refine V_aload_n C dX9_token_109 rfl ?_
          refine V_get C dX9_token_110 (rdO (j := 19) 73 rfl rfl rfl rfl rfl) in_X9 (by decide) q926 rfl ?_
          try simp (disch := omega) only [us_us, us_s, us_n, hw, h17, VF_18, VF_19, VF_20, VF_21, VF_g17, VF_g18, VF_g19, VF_g20, VF_g21]
          refine V_cv C hE dX9_token_113 (c_X9_byteAt (n := n) (i := i) (by simp (disch := omega) only [us_s, VF_g17, h17]) (by omega) (by omega)) kyX9_byteAt q1303 (isoO 73 rfl rfl rfl rfl) rfl rfl rfl ?_
          try simp (disch := omega) only [us_us, us_s, us_n, hw, h17, VF_18, VF_19, VF_20, VF_21, VF_g17, VF_g18, VF_g19, VF_g20, VF_g21]
          refine V_cs C hE dX9_token_116 (c_X9_isDigit) kyX9_isDigit q1312 rfl rfl rfl ?_
          try simp (disch := omega) only [us_us, us_s, us_n, hw, h17, VF_18, VF_19, VF_20, VF_21, VF_g17, VF_g18, VF_g19, VF_g20, VF_g21]
          refine V_ifeq_b C dX9_token_119 (fun c119 => ?_) (fun c119 => absurd c119 (fun q => absurd (bAT_D.mp q).1 (by omega)))
          exact V_retD C dX9_token_135 hT (by rw [show enT (σ 80) n s = i from by rw [enT_D hsn hl, ← hI]; exact (rnT_k (fun q => by omega))])
        | succ d ih =>
          intro i  hi' hI
          refine V_iload_n C dX9_token_86 rfl ?_
          refine V_ifeq_b C dX9_token_87 (fun c87 => ?_) (fun c87 => absurd c87 (fun q => not_LD (bAT_L.mp q).2 hl))
          refine V_iload_n C dX9_token_104 rfl ?_
          refine V_ifeq_b C dX9_token_105 (fun c105 => absurd (bAT_D.mpr ⟨hsn, hl⟩) c105) (fun c105 => ?_)
          refine V_aload_n C dX9_token_108 rfl ?_
          refine V_aload_n C dX9_token_109 rfl ?_
          refine V_get C dX9_token_110 (rdO (j := 19) 73 rfl rfl rfl rfl rfl) in_X9 (by decide) q926 rfl ?_
          try simp (disch := omega) only [us_us, us_s, us_n, hw, h17, VF_18, VF_19, VF_20, VF_21, VF_g17, VF_g18, VF_g19, VF_g20, VF_g21]
          refine V_cv C hE dX9_token_113 (c_X9_byteAt (n := n) (i := i) (by simp (disch := omega) only [us_s, VF_g17, h17]) (by omega) (by omega)) kyX9_byteAt q1303 (isoO 73 rfl rfl rfl rfl) rfl rfl rfl ?_
          try simp (disch := omega) only [us_us, us_s, us_n, hw, h17, VF_18, VF_19, VF_20, VF_21, VF_g17, VF_g18, VF_g19, VF_g20, VF_g21]
          refine V_cs C hE dX9_token_116 (c_X9_isDigit) kyX9_isDigit q1312 rfl rfl rfl ?_
          try simp (disch := omega) only [us_us, us_s, us_n, hw, h17, VF_18, VF_19, VF_20, VF_21, VF_g17, VF_g18, VF_g19, VF_g20, VF_g21]
          refine V_ifeq_b C dX9_token_119 (fun c119 => ?_) (fun c119 => ?_)
          · exact V_retD C dX9_token_135 hT (by rw [show enT (σ 80) n s = i from by rw [enT_D hsn hl, ← hI]; exact (rnT_k (fun q => c119 (bAT_D.mpr ⟨q.1, dpT_t.mp q.2⟩)))])
          · refine V_aload_n C dX9_token_122 rfl ?_
            refine V_dup C dX9_token_123 rfl ?_
            refine V_get C dX9_token_124 (rdO (j := 19) 73 rfl rfl rfl rfl rfl) in_X9 (by decide) q926 rfl ?_
            try simp (disch := omega) only [us_us, us_s, us_n, hw, h17, VF_18, VF_19, VF_20, VF_21, VF_g17, VF_g18, VF_g19, VF_g20, VF_g21]
            refine V_iconst C 1 dX9_token_127 (by decide) ?_
            refine V_iadd C dX9_token_128 ?_
            refine V_put C dX9_token_129 (wrO (j := 19) 73 rfl rfl rfl rfl rfl rfl) ft_X9 (by decide) q926 rfl rfl rfl rfl ?_
            try simp (disch := omega) only [us_us, us_s, us_n, hw, h17, VF_18, VF_19, VF_20, VF_21, VF_g17, VF_g18, VF_g19, VF_g20, VF_g21]
            refine V_goto C dX9_token_132 ?_
            exact V_nx (by rw [nI_1]) rfl (ih (i + 1) (by omega) (by rw [← hI]; exact (rnT_s (bAT_D.mp c119).1 (dpT_t.mpr (bAT_D.mp c119).2)).symm))
      exact V_nx (by rw [nI_1]) rfl (lp (n - (s + 1)) (s + 1) (by omega) rfl)
    · refine V_aload_n C dX9_token_34 rfl ?_
      refine V_aload_n C dX9_token_35 rfl ?_
      refine V_get C dX9_token_36 (rdO (j := 18) 73 rfl rfl rfl rfl rfl) in_X9 (by decide) q925 rfl ?_
      try simp (disch := omega) only [us_us, us_s, us_n, hw, h17, VF_18, VF_19, VF_20, VF_21, VF_g17, VF_g18, VF_g19, VF_g20, VF_g21]
      refine V_cv C hE dX9_token_39 (c_X9_byteAt (n := n) (i := s) (by simp (disch := omega) only [us_s, VF_g17, h17]) (by omega) (by omega)) kyX9_byteAt q1303 (isoO 73 rfl rfl rfl rfl) rfl rfl rfl ?_
      try simp (disch := omega) only [us_us, us_s, us_n, hw, h17, VF_18, VF_19, VF_20, VF_21, VF_g17, VF_g18, VF_g19, VF_g20, VF_g21]
      refine V_cs C hE dX9_token_42 (c_X9_isLetter) kyX9_isLetter q1307 rfl rfl rfl ?_
      try simp (disch := omega) only [us_us, us_s, us_n, hw, h17, VF_18, VF_19, VF_20, VF_21, VF_g17, VF_g18, VF_g19, VF_g20, VF_g21]
      refine V_istore_n C dX9_token_45 rfl ?_
      refine V_aload_n C dX9_token_46 rfl ?_
      refine V_aload_n C dX9_token_47 rfl ?_
      refine V_get C dX9_token_48 (rdO (j := 18) 73 rfl rfl rfl rfl rfl) in_X9 (by decide) q925 rfl ?_
      try simp (disch := omega) only [us_us, us_s, us_n, hw, h17, VF_18, VF_19, VF_20, VF_21, VF_g17, VF_g18, VF_g19, VF_g20, VF_g21]
      refine V_cv C hE dX9_token_51 (c_X9_byteAt (n := n) (i := s) (by simp (disch := omega) only [us_s, VF_g17, h17]) (by omega) (by omega)) kyX9_byteAt q1303 (isoO 73 rfl rfl rfl rfl) rfl rfl rfl ?_
      try simp (disch := omega) only [us_us, us_s, us_n, hw, h17, VF_18, VF_19, VF_20, VF_21, VF_g17, VF_g18, VF_g19, VF_g20, VF_g21]
      refine V_cs C hE dX9_token_54 (c_X9_isDigit) kyX9_isDigit q1312 rfl rfl rfl ?_
      try simp (disch := omega) only [us_us, us_s, us_n, hw, h17, VF_18, VF_19, VF_20, VF_21, VF_g17, VF_g18, VF_g19, VF_g20, VF_g21]
      refine V_istore_n C dX9_token_57 rfl ?_
      refine V_aload_n C dX9_token_58 rfl ?_
      refine V_aload_n C dX9_token_59 rfl ?_
      refine V_get C dX9_token_60 (rdO (j := 18) 73 rfl rfl rfl rfl rfl) in_X9 (by decide) q925 rfl ?_
      try simp (disch := omega) only [us_us, us_s, us_n, hw, h17, VF_18, VF_19, VF_20, VF_21, VF_g17, VF_g18, VF_g19, VF_g20, VF_g21]
      refine V_aload_n C dX9_token_63 rfl ?_
      refine V_get C dX9_token_64 (rdO (j := 17) 73 rfl rfl rfl rfl rfl) in_X9 (by decide) q924 rfl ?_
      try simp (disch := omega) only [us_us, us_s, us_n, hw, h17, VF_18, VF_19, VF_20, VF_21, VF_g17, VF_g18, VF_g19, VF_g20, VF_g21]
      refine V_icmp_ge C dX9_token_67 (fun c67 => absurd c67 (nI_ge hsn (by omega))) (fun c67 => ?_)
      refine V_aload_n C dX9_token_70 rfl ?_
      refine V_get C dX9_token_71 (rdO (j := 18) 73 rfl rfl rfl rfl rfl) in_X9 (by decide) q925 rfl ?_
      try simp (disch := omega) only [us_us, us_s, us_n, hw, h17, VF_18, VF_19, VF_20, VF_21, VF_g17, VF_g18, VF_g19, VF_g20, VF_g21]
      refine V_iconst C 1 dX9_token_74 (by decide) ?_
      refine V_iadd C dX9_token_75 ?_
      refine V_goto C dX9_token_76 ?_
      refine V_put C dX9_token_83 (wrO (j := 19) 73 rfl rfl rfl rfl rfl rfl) ft_X9 (by decide) q926 rfl rfl rfl rfl ?_
      try simp (disch := omega) only [us_us, us_s, us_n, hw, h17, VF_18, VF_19, VF_20, VF_21, VF_g17, VF_g18, VF_g19, VF_g20, VF_g21]
      refine V_iload_n C dX9_token_86 rfl ?_
      refine V_ifeq_b C dX9_token_87 (fun c87 => ?_) (fun c87 => absurd c87 (fun q => hl (bAT_L.mp q).2))
      refine V_iload_n C dX9_token_104 rfl ?_
      refine V_ifeq_b C dX9_token_105 (fun c105 => ?_) (fun c105 => absurd c105 (fun q => hd (bAT_D.mp q).2))
      exact V_retD C dX9_token_135 hT (by rw [enT_S hsn hl hd, nI_1])
    · refine V_aload_n C dX9_token_34 rfl ?_
      refine V_aload_n C dX9_token_35 rfl ?_
      refine V_get C dX9_token_36 (rdO (j := 18) 73 rfl rfl rfl rfl rfl) in_X9 (by decide) q925 rfl ?_
      try simp (disch := omega) only [us_us, us_s, us_n, hw, h17, VF_18, VF_19, VF_20, VF_21, VF_g17, VF_g18, VF_g19, VF_g20, VF_g21]
      refine V_cv C hE dX9_token_39 (c_X9_byteAt (n := n) (i := s) (by simp (disch := omega) only [us_s, VF_g17, h17]) (by omega) (by omega)) kyX9_byteAt q1303 (isoO 73 rfl rfl rfl rfl) rfl rfl rfl ?_
      try simp (disch := omega) only [us_us, us_s, us_n, hw, h17, VF_18, VF_19, VF_20, VF_21, VF_g17, VF_g18, VF_g19, VF_g20, VF_g21]
      refine V_cs C hE dX9_token_42 (c_X9_isLetter) kyX9_isLetter q1307 rfl rfl rfl ?_
      try simp (disch := omega) only [us_us, us_s, us_n, hw, h17, VF_18, VF_19, VF_20, VF_21, VF_g17, VF_g18, VF_g19, VF_g20, VF_g21]
      refine V_istore_n C dX9_token_45 rfl ?_
      refine V_aload_n C dX9_token_46 rfl ?_
      refine V_aload_n C dX9_token_47 rfl ?_
      refine V_get C dX9_token_48 (rdO (j := 18) 73 rfl rfl rfl rfl rfl) in_X9 (by decide) q925 rfl ?_
      try simp (disch := omega) only [us_us, us_s, us_n, hw, h17, VF_18, VF_19, VF_20, VF_21, VF_g17, VF_g18, VF_g19, VF_g20, VF_g21]
      refine V_cv C hE dX9_token_51 (c_X9_byteAt (n := n) (i := s) (by simp (disch := omega) only [us_s, VF_g17, h17]) (by omega) (by omega)) kyX9_byteAt q1303 (isoO 73 rfl rfl rfl rfl) rfl rfl rfl ?_
      try simp (disch := omega) only [us_us, us_s, us_n, hw, h17, VF_18, VF_19, VF_20, VF_21, VF_g17, VF_g18, VF_g19, VF_g20, VF_g21]
      refine V_cs C hE dX9_token_54 (c_X9_isDigit) kyX9_isDigit q1312 rfl rfl rfl ?_
      try simp (disch := omega) only [us_us, us_s, us_n, hw, h17, VF_18, VF_19, VF_20, VF_21, VF_g17, VF_g18, VF_g19, VF_g20, VF_g21]
      refine V_istore_n C dX9_token_57 rfl ?_
      refine V_aload_n C dX9_token_58 rfl ?_
      refine V_aload_n C dX9_token_59 rfl ?_
      refine V_get C dX9_token_60 (rdO (j := 18) 73 rfl rfl rfl rfl rfl) in_X9 (by decide) q925 rfl ?_
      try simp (disch := omega) only [us_us, us_s, us_n, hw, h17, VF_18, VF_19, VF_20, VF_21, VF_g17, VF_g18, VF_g19, VF_g20, VF_g21]
      refine V_aload_n C dX9_token_63 rfl ?_
      refine V_get C dX9_token_64 (rdO (j := 17) 73 rfl rfl rfl rfl rfl) in_X9 (by decide) q924 rfl ?_
      try simp (disch := omega) only [us_us, us_s, us_n, hw, h17, VF_18, VF_19, VF_20, VF_21, VF_g17, VF_g18, VF_g19, VF_g20, VF_g21]
      refine V_icmp_ge C dX9_token_67 (fun c67 => ?_) (fun c67 => absurd (nI_le (by omega) (by omega)) c67)
      refine V_aload_n C dX9_token_79 rfl ?_
      refine V_get C dX9_token_80 (rdO (j := 18) 73 rfl rfl rfl rfl rfl) in_X9 (by decide) q925 rfl ?_
      try simp (disch := omega) only [us_us, us_s, us_n, hw, h17, VF_18, VF_19, VF_20, VF_21, VF_g17, VF_g18, VF_g19, VF_g20, VF_g21]
      refine V_put C dX9_token_83 (wrO (j := 19) 73 rfl rfl rfl rfl rfl rfl) ft_X9 (by decide) q926 rfl rfl rfl rfl ?_
      try simp (disch := omega) only [us_us, us_s, us_n, hw, h17, VF_18, VF_19, VF_20, VF_21, VF_g17, VF_g18, VF_g19, VF_g20, VF_g21]
      refine V_iload_n C dX9_token_86 rfl ?_
      refine V_ifeq_b C dX9_token_87 (fun c87 => ?_) (fun c87 => absurd c87 (fun q => hsn (bAT_L.mp q).1))
      refine V_iload_n C dX9_token_104 rfl ?_
      refine V_ifeq_b C dX9_token_105 (fun c105 => ?_) (fun c105 => absurd c105 (fun q => hsn (bAT_D.mp q).1))
      exact V_retD C dX9_token_135 hT (by rw [enT_0 hsn])
  have lp : ∀ (d i : Nat) , i + d = n → (rnT bpT (σ 80) n i = skT (σ 80) n e) → V x (eA E) (AP x E (us σ 73 (VF f (nI i) (nI e) c g))) 0 0 8 [some (.ref (ad E 73)), none, none] [] := by
    intro d
    induction d with
    | zero =>
      intro i  hi' hI
      have hN : i = n := by omega
      refine V_aload_n C dX9_token_8 rfl ?_
      refine V_aload_n C dX9_token_9 rfl ?_
      refine V_get C dX9_token_10 (rdO (j := 18) 73 rfl rfl rfl rfl rfl) in_X9 (by decide) q925 rfl ?_
      try simp (disch := omega) only [us_us, us_s, us_n, hw, h17, VF_18, VF_19, VF_20, VF_21, VF_g17, VF_g18, VF_g19, VF_g20, VF_g21]
      refine V_cv C hE dX9_token_13 (c_X9_byteAt (n := n) (i := i) (by simp (disch := omega) only [us_s, VF_g17, h17]) (by omega) (by omega)) kyX9_byteAt q1303 (isoO 73 rfl rfl rfl rfl) rfl rfl rfl ?_
      try simp (disch := omega) only [us_us, us_s, us_n, hw, h17, VF_18, VF_19, VF_20, VF_21, VF_g17, VF_g18, VF_g19, VF_g20, VF_g21]
      refine V_bipush C 32 dX9_token_16 (by decide) ?_
      refine V_icmp_ne C dX9_token_18 (fun c18 => ?_) (fun c18 => absurd c18 (by rw [bAT_out (by omega)]; decide))
      exact j34 i (by omega) (by rw [← hI]; exact rnT_k (fun q => by omega))
    | succ d ih =>
      intro i  hi' hI
      refine V_aload_n C dX9_token_8 rfl ?_
      refine V_aload_n C dX9_token_9 rfl ?_
      refine V_get C dX9_token_10 (rdO (j := 18) 73 rfl rfl rfl rfl rfl) in_X9 (by decide) q925 rfl ?_
      try simp (disch := omega) only [us_us, us_s, us_n, hw, h17, VF_18, VF_19, VF_20, VF_21, VF_g17, VF_g18, VF_g19, VF_g20, VF_g21]
      refine V_cv C hE dX9_token_13 (c_X9_byteAt (n := n) (i := i) (by simp (disch := omega) only [us_s, VF_g17, h17]) (by omega) (by omega)) kyX9_byteAt q1303 (isoO 73 rfl rfl rfl rfl) rfl rfl rfl ?_
      try simp (disch := omega) only [us_us, us_s, us_n, hw, h17, VF_18, VF_19, VF_20, VF_21, VF_g17, VF_g18, VF_g19, VF_g20, VF_g21]
      refine V_bipush C 32 dX9_token_16 (by decide) ?_
      refine V_icmp_ne C dX9_token_18 (fun c18 => ?_) (fun c18 => ?_)
      · exact j34 i (by omega) (by rw [← hI]; exact rnT_k (fun q => c18 ((bAT_c (by decide)).mpr ⟨q.1, bpT_t.mp q.2⟩)))
      · refine V_aload_n C dX9_token_21 rfl ?_
        refine V_dup C dX9_token_22 rfl ?_
        refine V_get C dX9_token_23 (rdO (j := 18) 73 rfl rfl rfl rfl rfl) in_X9 (by decide) q925 rfl ?_
        try simp (disch := omega) only [us_us, us_s, us_n, hw, h17, VF_18, VF_19, VF_20, VF_21, VF_g17, VF_g18, VF_g19, VF_g20, VF_g21]
        refine V_iconst C 1 dX9_token_26 (by decide) ?_
        refine V_iadd C dX9_token_27 ?_
        refine V_put C dX9_token_28 (wrO (j := 18) 73 rfl rfl rfl rfl rfl rfl) ft_X9 (by decide) q925 rfl rfl rfl rfl ?_
        try simp (disch := omega) only [us_us, us_s, us_n, hw, h17, VF_18, VF_19, VF_20, VF_21, VF_g17, VF_g18, VF_g19, VF_g20, VF_g21]
        refine V_goto C dX9_token_31 ?_
        exact V_nx (by rw [nI_1]) rfl (ih (i + 1) (by omega) (by rw [← hI]; have h := (bAT_c (by decide)).mp c18; exact (rnT_s h.1 (bpT_t.mpr h.2)).symm))
  refine V_aload_n C dX9_token_0 rfl ?_
  refine V_aload_n C dX9_token_1 rfl ?_
  refine V_get C dX9_token_2 (rdO (j := 19) 73 rfl rfl rfl rfl rfl) in_X9 (by decide) q926 rfl ?_
  try simp (disch := omega) only [us_us, us_s, us_n, hw, h17, VF_18, VF_19, VF_20, VF_21, VF_g17, VF_g18, VF_g19, VF_g20, VF_g21]
  refine V_put C dX9_token_5 (wrO (j := 18) 73 rfl rfl rfl rfl rfl rfl) ft_X9 (by decide) q925 rfl rfl rfl rfl ?_
  try simp (disch := omega) only [us_us, us_s, us_n, hw, h17, VF_18, VF_19, VF_20, VF_21, VF_g17, VF_g18, VF_g19, VF_g20, VF_g21]
  exact lp (n - e) e (by omega) rfl

theorem wl_a {t : Nat → Int32} {n s : Nat} {w : Int32} (h : ¬ w = 0) : (0 : Int64) = wlT t n s w := (if_neg (fun q => h q.1)).symm
theorem wl_b {t : Nat → Int32} {n s : Nat} {w : Int32} (h : ¬ isLT (bAT t n s)) : (0 : Int64) = wlT t n s w := (if_neg (fun q => h (bAT_L.mpr q.2))).symm
theorem wl_d {t : Nat → Int32} {n s : Nat} {w : Int32} (h : w = 0) (h2 : isLT (bAT t n s)) : wIT t s (enT t n s - s) = wlT t n s w := (if_pos ⟨h, bAT_L.mp h2⟩).symm
theorem wI_s1 {t : Nat → Int32} {s k : Nat} (h : lg_cmp (wIT t s k) 36028797018963967 ≤ 0) : 32 * wIT t s k + (t (s + k) - 96).toInt64 = wIT t s (k + 1) := (if_pos ((lg_cmp_le _ _).mp h)).symm
theorem wI_s2 {t : Nat → Int32} {s k : Nat} (h : ¬ lg_cmp (wIT t s k) 36028797018963967 ≤ 0) : wIT t s k = wIT t s (k + 1) := (if_neg (fun q => h ((lg_cmp_le _ _).mpr q))).symm

theorem c_X9_word {l : Launch} {E : En} {σ : Sg} {f r : Nat → Int32} {n s : Nat} {v : Int32} {w : Int32} (h17 : f 17 = nI n) (hs : s ≤ n) (hn : n ≤ 120) : MD l yX9_word cX9_word 4 (some .long) rmX9_word E [.ref (ad E 73)] (ZQ σ f n s v w r) (some (.long (wlT (σ 80) n s w))) (ZQ σ f n s v w r) := by
  refine MD_of (by decide +kernel) rfl fun x C hE hT hcan => ?_
  have C : CX x cX9_word RX9 rmX9_word := C
  have hge : s ≤ enT (σ 80) n s := enT_ge
  have hle : enT (σ 80) n s ≤ n := enT_le hs
  refine V_L (L' := [some (.ref (ad E 73)), none, none, none]) rfl ?_
  have lp : ∀ (d i : Nat) , i + d = enT (σ 80) n s - s → V x (eA E) (AP x E (ZQ σ f n s v w r)) 0 0 7 [some (.ref (ad E 73)), some (.long (wIT (σ 80) s i)), none, some (.int (nI (s + i)))] [] := by
    intro d
    induction d with
    | zero =>
      intro i  hi' 
      have hN : i = enT (σ 80) n s - s := by omega
      refine V_iload_n C dX9_word_7 rfl ?_
      refine V_aload_n C dX9_word_8 rfl ?_
      refine V_get C dX9_word_9 (rdO (j := 19) 73 rfl rfl rfl rfl rfl) in_X9 (by decide) q926 rfl ?_
      try simp (disch := omega) only [ZQ_73, ZQ_74, ZQ_80, ZQ_u74, ZQ_u73, us_us, us_s, us_n, h17, VF_18, VF_19, VF_20, VF_21, VF_g17, VF_g18, VF_g19, VF_g20, VF_g21]
      refine V_icmp_ge C dX9_word_12 (fun c12 => ?_) (fun c12 => absurd (by rw [show s + i = enT (σ 80) n s by omega]; exact nI_le (Nat.le_refl _) (by omega)) c12)
      refine V_aload_n C dX9_word_50 rfl ?_
      refine V_get C dX9_word_51 (rdO (j := 21) 73 rfl rfl rfl rfl rfl) in_X9 (by decide) q928 rfl ?_
      try simp (disch := omega) only [ZQ_73, ZQ_74, ZQ_80, ZQ_u74, ZQ_u73, us_us, us_s, us_n, h17, VF_18, VF_19, VF_20, VF_21, VF_g17, VF_g18, VF_g19, VF_g20, VF_g21]
      refine V_if_ne C dX9_word_54 (fun c54 => ?_) (fun c54 => ?_)
      · refine V_lconst C 0 dX9_word_71 (by decide) ?_
        refine V_goto C dX9_word_72 ?_
        exact V_lretD C dX9_word_76 hT (by first | exact (wl_a c54) | exact (wl_b c68) | (rw [show i = enT (σ 80) n s - s by omega]; exact (wl_d c54 c68))) rfl
      · refine V_aload_n C dX9_word_57 rfl ?_
        refine V_aload_n C dX9_word_58 rfl ?_
        refine V_get C dX9_word_59 (rdO (j := 18) 73 rfl rfl rfl rfl rfl) in_X9 (by decide) q925 rfl ?_
        try simp (disch := omega) only [ZQ_73, ZQ_74, ZQ_80, ZQ_u74, ZQ_u73, us_us, us_s, us_n, h17, VF_18, VF_19, VF_20, VF_21, VF_g17, VF_g18, VF_g19, VF_g20, VF_g21]
        refine V_cv C hE dX9_word_62 (c_X9_byteAt (n := n) (i := s) (by simp (disch := omega) only [ZQ_73, VF_g17, h17]) (by omega) (by omega)) kyX9_byteAt q1303 (isoO 73 rfl rfl rfl rfl) rfl rfl rfl ?_
        try simp (disch := omega) only [ZQ_73, ZQ_74, ZQ_80, ZQ_u74, ZQ_u73, us_us, us_s, us_n, h17, VF_18, VF_19, VF_20, VF_21, VF_g17, VF_g18, VF_g19, VF_g20, VF_g21]
        refine V_cs C hE dX9_word_65 (c_X9_isLetter) kyX9_isLetter q1307 rfl rfl rfl ?_
        try simp (disch := omega) only [ZQ_73, ZQ_74, ZQ_80, ZQ_u74, ZQ_u73, us_us, us_s, us_n, h17, VF_18, VF_19, VF_20, VF_21, VF_g17, VF_g18, VF_g19, VF_g20, VF_g21]
        refine V_ifne_b C dX9_word_68 (fun c68 => ?_) (fun c68 => ?_)
        · refine V_lload_n C dX9_word_75 rfl ?_
          exact V_lretD C dX9_word_76 hT (by first | exact (wl_a c54) | exact (wl_b c68) | (rw [show i = enT (σ 80) n s - s by omega]; exact (wl_d c54 c68))) rfl
        · refine V_lconst C 0 dX9_word_71 (by decide) ?_
          refine V_goto C dX9_word_72 ?_
          exact V_lretD C dX9_word_76 hT (by first | exact (wl_a c54) | exact (wl_b c68) | (rw [show i = enT (σ 80) n s - s by omega]; exact (wl_d c54 c68))) rfl
    | succ d ih =>
      intro i  hi' 
      refine V_iload_n C dX9_word_7 rfl ?_
      refine V_aload_n C dX9_word_8 rfl ?_
      refine V_get C dX9_word_9 (rdO (j := 19) 73 rfl rfl rfl rfl rfl) in_X9 (by decide) q926 rfl ?_
      try simp (disch := omega) only [ZQ_73, ZQ_74, ZQ_80, ZQ_u74, ZQ_u73, us_us, us_s, us_n, h17, VF_18, VF_19, VF_20, VF_21, VF_g17, VF_g18, VF_g19, VF_g20, VF_g21]
      refine V_icmp_ge C dX9_word_12 (fun c12 => absurd c12 (nI_ge (by omega) (by omega))) (fun c12 => ?_)
      refine V_lload_n C dX9_word_15 rfl ?_
      refine V_ldc2 C dX9_word_16 q1329 ?_
      refine V_lcmp C dX9_word_19 ?_
      refine V_if_le C dX9_word_20 (fun c20 => ?_) (fun c20 => ?_)
      · refine V_ldc2 C dX9_word_27 q1330 ?_
        refine V_lload_n C dX9_word_30 rfl ?_
        refine V_lmul C dX9_word_31 ?_
        refine V_aload_n C dX9_word_32 rfl ?_
        refine V_get C dX9_word_33 (rdO (j := 16) 73 rfl rfl rfl rfl rfl) in_X9 (by decide) q923 rfl ?_
        refine V_iload_n C dX9_word_36 rfl ?_
        refine V_ialdN C (s + i) rfl (by omega) (by omega) dX9_word_37 (rdOA 80 rfl rfl rfl) ?_
        refine V_bipush C 96 dX9_word_38 (by decide) ?_
        refine V_isub C dX9_word_40 ?_
        refine V_i2l C dX9_word_41 ?_
        refine V_ladd C dX9_word_42 ?_
        refine V_lstore_n C dX9_word_43 rfl ?_
        refine V_iinc C 1 dX9_word_44 rfl (by decide) rfl ?_
        refine V_goto C dX9_word_47 ?_
        exact V_nx rfl (by (first | rw [← wI_s1 c20] | rw [← wI_s2 c20]); simp [nI_1, ZQ_80, Nat.add_assoc] <;> rfl) (ih (i + 1) (by omega))
      · refine V_lload_n C dX9_word_23 rfl ?_
        refine V_goto C dX9_word_24 ?_
        refine V_lstore_n C dX9_word_43 rfl ?_
        refine V_iinc C 1 dX9_word_44 rfl (by decide) rfl ?_
        refine V_goto C dX9_word_47 ?_
        exact V_nx rfl (by (first | rw [← wI_s1 c20] | rw [← wI_s2 c20]); simp [nI_1, ZQ_80, Nat.add_assoc] <;> rfl) (ih (i + 1) (by omega))
  refine V_lconst C 0 dX9_word_0 (by decide) ?_
  refine V_lstore_n C dX9_word_1 rfl ?_
  refine V_aload_n C dX9_word_2 rfl ?_
  refine V_get C dX9_word_3 (rdO (j := 18) 73 rfl rfl rfl rfl rfl) in_X9 (by decide) q925 rfl ?_
  try simp (disch := omega) only [ZQ_73, ZQ_74, ZQ_80, ZQ_u74, ZQ_u73, us_us, us_s, us_n, h17, VF_18, VF_19, VF_20, VF_21, VF_g17, VF_g18, VF_g19, VF_g20, VF_g21]
  refine V_istore_n C dX9_word_6 rfl ?_
  exact lp (enT (σ 80) n s - s) 0 (by omega)

