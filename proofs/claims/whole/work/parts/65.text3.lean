theorem q765 : Cond.methodLinkNest RX2 99 yX8_lowest RX8 ∈ lw_nw := gdn 765 (by decide +kernel) rfl
theorem q766 : Cond.methodLinkNest RX2 103 yX8_highest RX8 ∈ lw_nw := gdn 766 (by decide +kernel) rfl
theorem knX8_lowest : KN yX8_lowest cX8_lowest 1 (some .int) 1 := ⟨q63, q321, by decide +kernel⟩
theorem knX8_highest : KN yX8_highest cX8_highest 1 (some .int) 1 := ⟨q63, q324, by decide +kernel⟩
/-- the picture while the text is read: the reader stands at s, the first trial holds g -/
def TQ (σ : Sg) (f : Nat → Int32) (n s : Nat) (g : Nat → Int32) : Sg := us (us σ 64 (RF f (σ 63) n s)) 2 g
theorem TQ_64 {σ : Sg} {f g : Nat → Int32} {n s : Nat} : TQ σ f n s g 64 = RF f (σ 63) n s := by unfold TQ; rw [us_n (by omega), us_s]
theorem TQ_63 {σ : Sg} {f g : Nat → Int32} {n s : Nat} : TQ σ f n s g 63 = σ 63 := by unfold TQ; rw [us_n (by omega), us_n (by omega)]
theorem TQ_2 {σ : Sg} {f g : Nat → Int32} {n s : Nat} : TQ σ f n s g 2 = g := by unfold TQ; rw [us_s]
theorem TQ_u2 {σ : Sg} {f g g' : Nat → Int32} {n s : Nat} : us (TQ σ f n s g) 2 g' = TQ σ f n s g' := by unfold TQ; rw [us_us]
theorem TQ_u64 {σ : Sg} {f g : Nat → Int32} {n s s' : Nat} : us (TQ σ f n s g) 64 (RF f (σ 63) n s') = TQ σ f n s' g := by unfold TQ; rw [us_comm (c := 2) (d := 64) (by omega), us_us]
def okT {α : Type} (S : Nat ⊕ α) : Int32 := match S with
  | .inl _ => 0
  | .inr _ => 1
theorem okT_nar {α : Type} (S : Nat ⊕ α) : narrow .boolean (.int (okT S)) = .int (okT S) := by
  cases S
  · exact (by decide : narrow .boolean (.int 0) = .int 0)
  · exact (by decide : narrow .boolean (.int 1) = .int 1)
def plT {α : Type} (S : Nat ⊕ (Nat × α)) : Nat := match S with
  | .inl p => p
  | .inr a => a.1
/-- what a piece of the text leaves -/
def HQ (σ : Sg) (f : Nat → Int32) (n : Nat) (S : Nat ⊕ (Nat × (Nat → Int32))) : Option Value → Sg → Prop := fun r u => r = some (.int (okT S)) ∧ ∃ g, u = TQ σ f n (plT S) g ∧ ∀ a, S = .inr a → g = a.2
theorem HQ_t {σ : Sg} {f g : Nat → Int32} {n s : Nat} {S : Nat ⊕ (Nat × (Nat → Int32))} (h : S = .inr (s, g)) : HQ σ f n S (some (.int 1)) (TQ σ f n s g) := by
  subst h
  exact ⟨rfl, g, rfl, fun a e => by cases e; rfl⟩
theorem HQ_f {σ : Sg} {f g : Nat → Int32} {n p : Nat} {S : Nat ⊕ (Nat × (Nat → Int32))} (h : S = .inl p) : HQ σ f n S (some (.int 0)) (TQ σ f n p g) := by
  subst h
  exact ⟨rfl, g, rfl, fun a e => by cases e⟩
theorem V_zretN {x : Cx} {cc : ByteArray} {own : String} {R : Room} {E : En} {pc pc' : Nat} {L : List (Option Value)} {σ : Sg} (C : CX x cc own R) {a : Int32} {post : Option Value → Sg → Prop} (hd : D1 cc pc .ireturn 1 pc') (hT : RTN x (some .boolean) E post) (hn : narrow .boolean (.int a) = .int a) (hp : post (some (.int a)) σ) : V x (eA E) (AP x E σ) 0 0 pc L [.int a] :=
  V_xret C (u := σ) hd hT hn hp (fun _ h => h) PM_A
theorem c_nextQ {l : Launch} {E : En} {σ : Sg} {f g : Nat → Int32} {n s : Nat} (h2 : f 2 = nI n) (hs : s ≤ n) (hn : n ≤ 120) : MD l yX2_next cX2_next 1 none rnX2_next E [.ref (ad E 64)] (TQ σ f n s g) none (TQ σ f n (nxT (σ 63) n s) g) := by
  have h := c_X2_next (l := l) (E := E) (σ := TQ σ f n s g) (f := f) (n := n) (e := enT (σ 63) n s) (b := nI s) (c := tkT (σ 63) n s) (g := cvT (σ 63) n s) TQ_64 h2 (enT_le hs) hn
  rw [TQ_63, TQ_u64] at h
  exact h
theorem c_isWordQ {l : Launch} {E : En} {σ : Sg} {f g : Nat → Int32} {n s i : Nat} (hi : i < nTx) (h2 : f 2 = nI n) (hs : s ≤ n) (hn : n ≤ 120) : MD l yX2_isWord cX2_isWord 3 (some .boolean) rnX2_isWord E [.ref (ad E 64), .ref (eK E i)] (TQ σ f n s g) (some (.int (bI (wdT (σ 63) n i s)))) (TQ σ f n s g) := by
  have h := c_X2_isWord (l := l) (E := E) (σ := TQ σ f n s g) (f := f) (n := n) (s := s) hi (by rw [TQ_63]; exact TQ_64) h2 hs hn
  rw [TQ_63] at h
  exact h
theorem c_isNumberQ {l : Launch} {E : En} {σ : Sg} {f g : Nat → Int32} {n s lo hi : Nat} {a b : Int32} (ha : a = nI lo) (hb : b = nI hi) (hlo : lo ≤ 999) (hhi : hi ≤ 999) (h2 : f 2 = nI n) (hs : s ≤ n) (hn : n ≤ 120) : MD l yX2_isNumber cX2_isNumber 3 (some .boolean) rnX2_isNumber E [.ref (ad E 64), .int a, .int b] (TQ σ f n s g) (some (.int (bI (nmT (σ 63) n lo hi s)))) (TQ σ f n s g) := by
  subst ha hb
  have h := c_X2_isNumber (l := l) (E := E) (σ := TQ σ f n s g) (f := f) (n := n) (s := s) (by rw [TQ_63]; exact TQ_64) h2 hs hn hlo hhi
  rw [TQ_63] at h
  exact h
theorem c_kindQ {l : Launch} {E : En} {σ : Sg} {f g : Nat → Int32} {n s : Nat} (h2 : f 2 = nI n) (hs : s ≤ n) (hn : n ≤ 120) : MD l yX2_kindTold cX2_kindTold 1 (some .int) rnX2_kindTold E [.ref (ad E 64)] (TQ σ f n s g) (some (.int (kdT (σ 63) n s))) (TQ σ f n s g) := by
  have h := c_X2_kindTold (l := l) (E := E) (σ := TQ σ f n s g) (f := f) (n := n) (s := s) (by rw [TQ_63]; exact TQ_64) h2 hs hn
  rw [TQ_63] at h
  exact h
theorem pt_n {t : Nat → Int32} {n i lo hi s : Nat} {d : Int32} (h : ¬ wdT t n i s) : ptT t n i lo hi d s = .inr (s, d) := if_neg h
theorem pt_y {t : Nat → Int32} {n i lo hi s : Nat} {d : Int32} (h : wdT t n i s) (h2 : nmT t n lo hi (nxT t n s)) : ptT t n i lo hi d s = .inr (nxT t n (nxT t n s), nI (vlT t n (nxT t n s))) := by unfold ptT; rw [if_pos h, if_pos h2]
theorem pt_f {t : Nat → Int32} {n i lo hi s : Nat} {d : Int32} (h : wdT t n i s) (h2 : ¬ nmT t n lo hi (nxT t n s)) : ptT t n i lo hi d s = .inl (nxT t n s) := by unfold ptT; rw [if_pos h, if_neg h2]
theorem pt_wd {t : Nat → Int32} {n i lo hi s p : Nat} {d : Int32} (h : ptT t n i lo hi d s = .inl p) : wdT t n i s := Classical.byContradiction fun q => by rw [pt_n q] at h; cases h
theorem pt_nm {t : Nat → Int32} {n i lo hi s p : Nat} {d : Int32} (h : ptT t n i lo hi d s = .inl p) : ¬ nmT t n lo hi (nxT t n s) := fun q => by rw [pt_y (pt_wd h) q] at h; cases h
theorem pt_nm2 {t : Nat → Int32} {n i lo hi s : Nat} {d : Int32} {a : Nat × Int32} (h : ptT t n i lo hi d s = .inr a) (hw : wdT t n i s) : nmT t n lo hi (nxT t n s) := Classical.byContradiction fun q => by rw [pt_f hw q] at h; cases h
theorem pt_le {t : Nat → Int32} {n i lo hi s : Nat} {d : Int32} (hs : s ≤ n) : plT (ptT t n i lo hi d s) ≤ n ∧ s ≤ plT (ptT t n i lo hi d s) := by
  have hx : ∀ s, s ≤ n → s ≤ nxT t n s := fun s _ => Nat.le_trans enT_ge skT_ge
  by_cases h : wdT t n i s
  · by_cases h2 : nmT t n lo hi (nxT t n s)
    · rw [pt_y h h2]; exact ⟨nxT_le (nxT_le hs), Nat.le_trans (hx s hs) (hx _ (nxT_le hs))⟩
    · rw [pt_f h h2]; exact ⟨nxT_le hs, hx s hs⟩
  · rw [pt_n h]; exact ⟨hs, Nat.le_refl _⟩
theorem pt_le2 {t : Nat → Int32} {n i lo hi s : Nat} {d : Int32} {a : Nat × Int32} (hs : s ≤ n) (h : ptT t n i lo hi d s = .inr a) : a.1 ≤ n := by
  have := (pt_le (t := t) (i := i) (lo := lo) (hi := hi) (d := d) hs).1
  rw [h] at this; exact this
theorem nw_1 {r : Nat → Int32} {k a b c d y : Int32} : uh (nwF r k a b c d) (nh r) 1 y = nwF r k y b c d := by
  unfold nwF uh
  rw [upd_c (i := 15 + 6 * nh r + 5) (by omega), upd_c (i := 15 + 6 * nh r + 4) (by omega), upd_c (i := 15 + 6 * nh r + 3) (by omega), upd_c (i := 15 + 6 * nh r + 2) (by omega), upd_upd]
theorem nw_2 {r : Nat → Int32} {k a b c d y : Int32} : uh (nwF r k a b c d) (nh r) 2 y = nwF r k a y c d := by
  unfold nwF uh
  rw [upd_c (i := 15 + 6 * nh r + 5) (by omega), upd_c (i := 15 + 6 * nh r + 4) (by omega), upd_c (i := 15 + 6 * nh r + 3) (by omega), upd_upd]
theorem nw_3 {r : Nat → Int32} {k a b c d y : Int32} : uh (nwF r k a b c d) (nh r) 3 y = nwF r k a b y d := by
  unfold nwF uh
  rw [upd_c (i := 15 + 6 * nh r + 5) (by omega), upd_c (i := 15 + 6 * nh r + 4) (by omega), upd_upd]
theorem nw_4 {r : Nat → Int32} {k a b c d y : Int32} : uh (nwF r k a b c d) (nh r) 4 y = nwF r k a b c y := by
  unfold nwF uh
  rw [upd_c (i := 15 + 6 * nh r + 5) (by omega), upd_upd]
theorem bd_l {α β : Type} {p : Nat} {f : α → Nat ⊕ β} : bdT (.inl p) f = .inl p := rfl
theorem bd_r {α β : Type} {a : α} {f : α → Nat ⊕ β} : bdT (.inr a) f = f a := rfl

theorem c_readPartT {l : Launch} {E : En} {σ : Sg} {f g : Nat → Int32} {n s : Nat} {w lo hi i j : Nat} {d : Int32} {a : Nat × Int32} (hw : w < nTx) (h2 : f 2 = nI n) (hs : s ≤ n) (hn : n ≤ 120) (hi8 : i < nh g) (hj : j < 5) (hl : loV (nI j) = nI lo) (hh : hiV (nI j) = nI hi) (hlo : lo ≤ 999) (hhi : hi ≤ 999) (hp : ptT (σ 63) n w lo hi d s = .inr a) (hd : hf g i j = d) : MD l yX2_readPart cX2_readPart 4 (some .boolean) rnX2_readPart E [.ref (ad E 64), .ref (ad E (hc 2 i)), .ref (eK E w), .int (nI j)] (TQ σ f n s g) (some (.int 1)) (TQ σ f n a.1 (uh g i j a.2)) := by
  refine MD_of (by decide +kernel) rfl fun x C hE hT hcan => ?_
  have C : CX x cX2_readPart RX2 rnX2_readPart := C
  have hi9 : i < 8 := by have := (hcan.1 2 (by omega)).2.1; rw [TQ_2] at this; omega
  refine V_L (L' := [some (.ref (ad E 64)), some (.ref (ad E (hc 2 i))), some (.ref (eK E w)), some (.int (nI j))]) rfl ?_
  refine V_aload_n C dX2_readPart_0 rfl ?_
  refine V_aload_n C dX2_readPart_1 rfl ?_
  refine V_cv C hE dX2_readPart_2 (c_isWordQ (i := w) hw h2 hs hn) kyX2_isWord q697 (isoO 64 rfl rfl rfl rfl) rfl rfl rfl ?_
  try simp (disch := omega) only [TQ_u2, TQ_2]
  refine V_ifne_b C dX2_readPart_5 (fun c5 => ?_) (fun c5 => ?_)
  · refine V_aload_n C dX2_readPart_10 rfl ?_
    refine V_cv0 C hE dX2_readPart_11 (c_nextQ h2 hs hn) kyX2_next q671 (isoO 64 rfl rfl rfl rfl) rfl rfl rfl ?_
    try simp (disch := omega) only [TQ_u2, TQ_2]
    refine V_aload_n C dX2_readPart_14 rfl ?_
    refine V_iload_n C dX2_readPart_15 rfl ?_
    refine V_cSN C hE dX2_readPart_16 c_X8_lowest knX8_lowest q765 q320 rfl rfl rfl ?_
    refine V_iload_n C dX2_readPart_19 rfl ?_
    refine V_cSN C hE dX2_readPart_20 c_X8_highest knX8_highest q766 q323 rfl rfl rfl ?_
    refine V_cv C hE dX2_readPart_23 (c_isNumberQ (lo := lo) (hi := hi) hl hh hlo hhi h2 (nxT_le hs) hn) kyX2_isNumber q767 (isoO 64 rfl rfl rfl rfl) rfl rfl rfl ?_
    try simp (disch := omega) only [TQ_u2, TQ_2]
    refine V_ifne_b C dX2_readPart_26 (fun c26 => ?_) (fun c26 => absurd (pt_nm2 hp c5) c26)
    refine V_aload_n C dX2_readPart_31 rfl ?_
    refine V_iload_n C dX2_readPart_32 rfl ?_
    refine V_aload_n C dX2_readPart_33 rfl ?_
    refine V_get C dX2_readPart_34 (rdO (j := 6) 64 rfl rfl rfl rfl rfl) in_X2 (by decide) q198 rfl ?_
    rw [TQ_64, show RF f (σ 63) n (nxT (σ 63) n s) 6 = nI (vlT (σ 63) n (nxT (σ 63) n s)) from cv_v hhi (pt_nm2 hp c5)]
    refine V_cv0 C hE dX2_readPart_37 (c_X1_put (v := 2) (i := i) (j := j) (by omega) (by rw [TQ_2]; exact hi8) hj) kyX1_put q771 (isoH (by first | assumption | omega) (by first | assumption | omega)) rfl rfl rfl ?_
    try simp (disch := omega) only [TQ_u2, TQ_2]
    refine V_aload_n C dX2_readPart_40 rfl ?_
    refine V_cv0 C hE dX2_readPart_41 (c_nextQ h2 (nxT_le hs) hn) kyX2_next q671 (isoO 64 rfl rfl rfl rfl) rfl rfl rfl ?_
    try simp (disch := omega) only [TQ_u2, TQ_2]
    refine V_iconst C 1 dX2_readPart_44 (by decide) ?_
    exact V_xretD C dX2_readPart_45 hT (by decide) (by rw [pt_y c5 (pt_nm2 hp c5)] at hp; cases hp; rfl)
  · refine V_iconst C 1 dX2_readPart_8 (by decide) ?_
    exact V_xretD C dX2_readPart_9 hT (by decide) (by rw [pt_n c5] at hp; cases hp; rw [← hd]; show TQ σ f n s g = TQ σ f n s (upd g _ (g _)); rw [upd_id])

theorem c_readPartF {l : Launch} {E : En} {σ : Sg} {f g : Nat → Int32} {n s : Nat} {w lo hi i j : Nat} {d : Int32} {p : Nat} (hw : w < nTx) (h2 : f 2 = nI n) (hs : s ≤ n) (hn : n ≤ 120) (hi8 : i < nh g) (hj : j < 5) (hl : loV (nI j) = nI lo) (hh : hiV (nI j) = nI hi) (hlo : lo ≤ 999) (hhi : hi ≤ 999) (hp : ptT (σ 63) n w lo hi d s = .inl p) : MD l yX2_readPart cX2_readPart 4 (some .boolean) rnX2_readPart E [.ref (ad E 64), .ref (ad E (hc 2 i)), .ref (eK E w), .int (nI j)] (TQ σ f n s g) (some (.int 0)) (TQ σ f n p g) := by
  refine MD_of (by decide +kernel) rfl fun x C hE hT hcan => ?_
  have C : CX x cX2_readPart RX2 rnX2_readPart := C
  have hi9 : i < 8 := by have := (hcan.1 2 (by omega)).2.1; rw [TQ_2] at this; omega
  refine V_L (L' := [some (.ref (ad E 64)), some (.ref (ad E (hc 2 i))), some (.ref (eK E w)), some (.int (nI j))]) rfl ?_
  refine V_aload_n C dX2_readPart_0 rfl ?_
  refine V_aload_n C dX2_readPart_1 rfl ?_
  refine V_cv C hE dX2_readPart_2 (c_isWordQ (i := w) hw h2 hs hn) kyX2_isWord q697 (isoO 64 rfl rfl rfl rfl) rfl rfl rfl ?_
  try simp (disch := omega) only [TQ_u2, TQ_2]
  refine V_ifne_b C dX2_readPart_5 (fun c5 => ?_) (fun c5 => absurd (pt_wd hp) c5)
  refine V_aload_n C dX2_readPart_10 rfl ?_
  refine V_cv0 C hE dX2_readPart_11 (c_nextQ h2 hs hn) kyX2_next q671 (isoO 64 rfl rfl rfl rfl) rfl rfl rfl ?_
  try simp (disch := omega) only [TQ_u2, TQ_2]
  refine V_aload_n C dX2_readPart_14 rfl ?_
  refine V_iload_n C dX2_readPart_15 rfl ?_
  refine V_cSN C hE dX2_readPart_16 c_X8_lowest knX8_lowest q765 q320 rfl rfl rfl ?_
  refine V_iload_n C dX2_readPart_19 rfl ?_
  refine V_cSN C hE dX2_readPart_20 c_X8_highest knX8_highest q766 q323 rfl rfl rfl ?_
  refine V_cv C hE dX2_readPart_23 (c_isNumberQ (lo := lo) (hi := hi) hl hh hlo hhi h2 (nxT_le hs) hn) kyX2_isNumber q767 (isoO 64 rfl rfl rfl rfl) rfl rfl rfl ?_
  try simp (disch := omega) only [TQ_u2, TQ_2]
  refine V_ifne_b C dX2_readPart_26 (fun c26 => absurd c26 (pt_nm hp)) (fun c26 => ?_)
  refine V_iconst C 0 dX2_readPart_29 (by decide) ?_
  exact V_xretD C dX2_readPart_30 hT (by decide) (by rw [pt_f (pt_wd hp) (pt_nm hp)] at hp; cases hp; rfl)

theorem c_readHouse {l : Launch} {E : En} {σ : Sg} {f g : Nat → Int32} {n s : Nat} {k : Int32} (h2 : f 2 = nI n) (hs : s ≤ n) (hn : n ≤ 120) : MN l yX2_readHouse cX2_readHouse 3 (some .boolean) rnX2_readHouse E [.ref (ad E 64), .int k] (TQ σ f n s g) (HQ σ f n (hsT (σ 63) n k s g)) := by
  refine MN_of (by decide +kernel) rfl fun x C hE hT hcan => ?_
  have C : CX x cX2_readHouse RX2 rnX2_readHouse := C
  refine V_L (L' := [some (.ref (ad E 64)), some (.int k), none]) rfl ?_
  refine V_aload_n C dX2_readHouse_0 rfl ?_
  refine V_get C dX2_readHouse_1 (rdX2_village) in_X2 (by decide) q193 rfl ?_
  refine V_iload_n C dX2_readHouse_4 rfl ?_
  by_cases h8 : nh g < 8
  · refine V_cv C hE dX2_readHouse_5 (c_X5_build (v := 2) (by omega) (by rw [TQ_2]; exact h8)) kyX5_build q759 (isoV (by first | assumption | omega)) rfl rfl rfl ?_
    try simp (disch := omega) only [TQ_u2, TQ_2, TQ_64]
    refine V_astore_n C dX2_readHouse_8 rfl ?_
    refine V_aload_n C dX2_readHouse_9 rfl ?_
    refine V_ifnonnull C dX2_readHouse_10 ?_
    rw [← nwF_new]
    refine V_aload_n C dX2_readHouse_15 rfl ?_
    refine V_cv0 C hE dX2_readHouse_16 (c_nextQ h2 hs hn) kyX2_next q671 (isoO 64 rfl rfl rfl rfl) rfl rfl rfl ?_
    try simp (disch := omega) only [TQ_u2, TQ_2, TQ_64]
    refine V_aload_n C dX2_readHouse_19 rfl ?_
    refine V_aload_n C dX2_readHouse_20 rfl ?_
    refine V_ldcS C dX2_readHouse_21 (hE.1.2.1 7 (by decide)) ?_
    refine V_iconst C 1 dX2_readHouse_23 (by decide) ?_
    rcases hp1 : ptT (σ 63) n 7 0 400 100 (nxT (σ 63) n s) with p | a1
    · refine V_cv C hE dX2_readHouse_24 (c_readPartF (w := 7) (lo := 0) (hi := 400) (i := nh g) (j := 1) (d := 100) (by decide) h2 (nxT_le hs) hn (by rw [nwF_nh h8]; omega) (by omega) (by decide) (by decide) (by omega) (by omega) hp1) kyX2_readPart q761 (isoO 64 rfl rfl rfl rfl) rfl rfl rfl ?_
      try simp (disch := omega) only [TQ_u2, TQ_2, TQ_64]
      refine V_if_eq C dX2_readHouse_27 (fun c27 => ?_) (fun c27 => absurd (rfl) c27)
      refine V_iconst C 0 dX2_readHouse_67 (by decide) ?_
      exact V_zretN C dX2_readHouse_68 hT (by decide) (HQ_f (by unfold hsT; rw [if_pos h8]; simp only [hp1, bd_l, bd_r]))
    · have hl1 : a1.1 ≤ n := pt_le2 (nxT_le hs) hp1
      refine V_cv C hE dX2_readHouse_24 (c_readPartT (w := 7) (lo := 0) (hi := 400) (i := nh g) (j := 1) (d := 100) (by decide) h2 (nxT_le hs) hn (by rw [nwF_nh h8]; omega) (by omega) (by decide) (by decide) (by omega) (by omega) hp1 (by rw [nwF_at (by omega)]; rfl)) kyX2_readPart q761 (isoO 64 rfl rfl rfl rfl) rfl rfl rfl ?_
      try simp (disch := omega) only [TQ_u2, TQ_2, TQ_64]
      rw [nw_1]
      refine V_if_eq C dX2_readHouse_27 (fun c27 => absurd c27 (by decide)) (fun c27 => ?_)
      refine V_aload_n C dX2_readHouse_30 rfl ?_
      refine V_aload_n C dX2_readHouse_31 rfl ?_
      refine V_ldcS C dX2_readHouse_32 (hE.1.2.1 8 (by decide)) ?_
      refine V_iconst C 2 dX2_readHouse_34 (by decide) ?_
      rcases hp2 : ptT (σ 63) n 8 1 40 10 a1.1 with p | a2
      · refine V_cv C hE dX2_readHouse_35 (c_readPartF (w := 8) (lo := 1) (hi := 40) (i := nh g) (j := 2) (d := 10) (by decide) h2 hl1 hn (by rw [nwF_nh h8]; omega) (by omega) (by decide) (by decide) (by omega) (by omega) hp2) kyX2_readPart q761 (isoO 64 rfl rfl rfl rfl) rfl rfl rfl ?_
        try simp (disch := omega) only [TQ_u2, TQ_2, TQ_64]
        refine V_if_eq C dX2_readHouse_38 (fun c38 => ?_) (fun c38 => absurd (rfl) c38)
        refine V_iconst C 0 dX2_readHouse_67 (by decide) ?_
        exact V_zretN C dX2_readHouse_68 hT (by decide) (HQ_f (by unfold hsT; rw [if_pos h8]; simp only [hp1, hp2, bd_l, bd_r]))
      · have hl2 : a2.1 ≤ n := pt_le2 hl1 hp2
        refine V_cv C hE dX2_readHouse_35 (c_readPartT (w := 8) (lo := 1) (hi := 40) (i := nh g) (j := 2) (d := 10) (by decide) h2 hl1 hn (by rw [nwF_nh h8]; omega) (by omega) (by decide) (by decide) (by omega) (by omega) hp2 (by rw [nwF_at (by omega)]; rfl)) kyX2_readPart q761 (isoO 64 rfl rfl rfl rfl) rfl rfl rfl ?_
        try simp (disch := omega) only [TQ_u2, TQ_2, TQ_64]
        rw [nw_2]
        refine V_if_eq C dX2_readHouse_38 (fun c38 => absurd c38 (by decide)) (fun c38 => ?_)
        refine V_aload_n C dX2_readHouse_41 rfl ?_
        refine V_aload_n C dX2_readHouse_42 rfl ?_
        refine V_ldcS C dX2_readHouse_43 (hE.1.2.1 9 (by decide)) ?_
        refine V_iconst C 3 dX2_readHouse_45 (by decide) ?_
        rcases hp3 : ptT (σ 63) n 9 0 99 8 a2.1 with p | a3
        · refine V_cv C hE dX2_readHouse_46 (c_readPartF (w := 9) (lo := 0) (hi := 99) (i := nh g) (j := 3) (d := 8) (by decide) h2 hl2 hn (by rw [nwF_nh h8]; omega) (by omega) (by decide) (by decide) (by omega) (by omega) hp3) kyX2_readPart q761 (isoO 64 rfl rfl rfl rfl) rfl rfl rfl ?_
          try simp (disch := omega) only [TQ_u2, TQ_2, TQ_64]
          refine V_if_eq C dX2_readHouse_49 (fun c49 => ?_) (fun c49 => absurd (rfl) c49)
          refine V_iconst C 0 dX2_readHouse_67 (by decide) ?_
          exact V_zretN C dX2_readHouse_68 hT (by decide) (HQ_f (by unfold hsT; rw [if_pos h8]; simp only [hp1, hp2, hp3, bd_l, bd_r]))
        · have hl3 : a3.1 ≤ n := pt_le2 hl2 hp3
          refine V_cv C hE dX2_readHouse_46 (c_readPartT (w := 9) (lo := 0) (hi := 99) (i := nh g) (j := 3) (d := 8) (by decide) h2 hl2 hn (by rw [nwF_nh h8]; omega) (by omega) (by decide) (by decide) (by omega) (by omega) hp3 (by rw [nwF_at (by omega)]; rfl)) kyX2_readPart q761 (isoO 64 rfl rfl rfl rfl) rfl rfl rfl ?_
          try simp (disch := omega) only [TQ_u2, TQ_2, TQ_64]
          rw [nw_3]
          refine V_if_eq C dX2_readHouse_49 (fun c49 => absurd c49 (by decide)) (fun c49 => ?_)
          refine V_aload_n C dX2_readHouse_52 rfl ?_
          refine V_aload_n C dX2_readHouse_53 rfl ?_
          refine V_ldcS C dX2_readHouse_54 (hE.1.2.1 10 (by decide)) ?_
          refine V_iconst C 4 dX2_readHouse_56 (by decide) ?_
          rcases hp4 : ptT (σ 63) n 10 0 400 60 a3.1 with p | a4
          · refine V_cv C hE dX2_readHouse_57 (c_readPartF (w := 10) (lo := 0) (hi := 400) (i := nh g) (j := 4) (d := 60) (by decide) h2 hl3 hn (by rw [nwF_nh h8]; omega) (by omega) (by decide) (by decide) (by omega) (by omega) hp4) kyX2_readPart q761 (isoO 64 rfl rfl rfl rfl) rfl rfl rfl ?_
            try simp (disch := omega) only [TQ_u2, TQ_2, TQ_64]
            refine V_if_eq C dX2_readHouse_60 (fun c60 => ?_) (fun c60 => absurd (rfl) c60)
            refine V_iconst C 0 dX2_readHouse_67 (by decide) ?_
            exact V_zretN C dX2_readHouse_68 hT (by decide) (HQ_f (by unfold hsT; rw [if_pos h8]; simp only [hp1, hp2, hp3, hp4, bd_l, bd_r]))
          · have hl4 : a4.1 ≤ n := pt_le2 hl3 hp4
            refine V_cv C hE dX2_readHouse_57 (c_readPartT (w := 10) (lo := 0) (hi := 400) (i := nh g) (j := 4) (d := 60) (by decide) h2 hl3 hn (by rw [nwF_nh h8]; omega) (by omega) (by decide) (by decide) (by omega) (by omega) hp4 (by rw [nwF_at (by omega)]; rfl)) kyX2_readPart q761 (isoO 64 rfl rfl rfl rfl) rfl rfl rfl ?_
            try simp (disch := omega) only [TQ_u2, TQ_2, TQ_64]
            rw [nw_4]
            refine V_if_eq C dX2_readHouse_60 (fun c60 => absurd c60 (by decide)) (fun c60 => ?_)
            refine V_iconst C 1 dX2_readHouse_63 (by decide) ?_
            refine V_goto C dX2_readHouse_64 ?_
            exact V_zretN C dX2_readHouse_68 hT (by decide) (HQ_t (by unfold hsT; rw [if_pos h8]; simp only [hp1, hp2, hp3, hp4, bd_l, bd_r]))
  · refine V_cv C hE dX2_readHouse_5 (c_X5_buildN (v := 2) (by omega) (by rw [TQ_2]; have := (hcan.1 2 (by omega)).2.1; rw [TQ_2] at this; omega)) kyX5_build q759 (isoV (by first | assumption | omega)) rfl rfl rfl ?_
    try simp (disch := omega) only [TQ_u2, TQ_2, TQ_64]
    refine V_astore_nN C dX2_readHouse_8 rfl ?_
    refine V_aload_nN C dX2_readHouse_9 rfl ?_
    refine V_ifnonnullN C dX2_readHouse_10 ?_
    refine V_iconst C 0 dX2_readHouse_13 (by decide) ?_
    exact V_zretN C dX2_readHouse_14 hT (by decide) (HQ_f (by unfold hsT; rw [if_neg h8]))

theorem c_readSteep {l : Launch} {E : En} {σ : Sg} {f g : Nat → Int32} {n s : Nat} (h2 : f 2 = nI n) (hs : s ≤ n) (hn : n ≤ 120) : MN l yX2_readSteep cX2_readSteep 2 (some .boolean) rnX2_readSteep E [.ref (ad E 64)] (TQ σ f n s g) (HQ σ f n (spT (σ 63) n s g)) := by
  refine MN_of (by decide +kernel) rfl fun x C hE hT hcan => ?_
  have C : CX x cX2_readSteep RX2 rnX2_readSteep := C
  refine V_L (L' := [some (.ref (ad E 64)), none]) rfl ?_
  refine V_aload_n C dX2_readSteep_0 rfl ?_
  refine V_cv0 C hE dX2_readSteep_1 (c_nextQ h2 hs hn) kyX2_next q671 (isoO 64 rfl rfl rfl rfl) rfl rfl rfl ?_
  try simp (disch := omega) only [TQ_u2, TQ_2]
  refine V_aload_n C dX2_readSteep_4 rfl ?_
  refine V_iconst C 0 dX2_readSteep_5 (by decide) ?_
  refine V_bipush C 6 dX2_readSteep_6 (by decide) ?_
  refine V_cv C hE dX2_readSteep_8 (c_isNumberQ (lo := 0) (hi := 6) rfl rfl (by omega) (by omega) h2 (nxT_le hs) hn) kyX2_isNumber q767 (isoO 64 rfl rfl rfl rfl) rfl rfl rfl ?_
  try simp (disch := omega) only [TQ_u2, TQ_2]
  refine V_ifne_b C dX2_readSteep_11 (fun c11 => ?_) (fun c11 => ?_)
  · refine V_aload_n C dX2_readSteep_16 rfl ?_
    refine V_get C dX2_readSteep_17 (rdO (j := 6) 64 rfl rfl rfl rfl rfl) in_X2 (by decide) q198 rfl ?_
    rw [TQ_64, show RF f (σ 63) n (nxT (σ 63) n s) 6 = nI (vlT (σ 63) n (nxT (σ 63) n s)) from cv_v (hi := 6) (by omega) c11]
    refine V_istore_n C dX2_readSteep_20 rfl ?_
    refine V_aload_n C dX2_readSteep_21 rfl ?_
    refine V_cv0 C hE dX2_readSteep_22 (c_nextQ h2 (nxT_le hs) hn) kyX2_next q671 (isoO 64 rfl rfl rfl rfl) rfl rfl rfl ?_
    try simp (disch := omega) only [TQ_u2, TQ_2]
    refine V_aload_n C dX2_readSteep_25 rfl ?_
    refine V_iconst C 0 dX2_readSteep_26 (by decide) ?_
    refine V_bipush C 9 dX2_readSteep_27 (by decide) ?_
    refine V_cv C hE dX2_readSteep_29 (c_isNumberQ (lo := 0) (hi := 9) rfl rfl (by omega) (by omega) h2 (nxT_le (nxT_le hs)) hn) kyX2_isNumber q767 (isoO 64 rfl rfl rfl rfl) rfl rfl rfl ?_
    try simp (disch := omega) only [TQ_u2, TQ_2]
    refine V_ifne_b C dX2_readSteep_32 (fun c32 => ?_) (fun c32 => ?_)
    · refine V_aload_n C dX2_readSteep_37 rfl ?_
      refine V_get C dX2_readSteep_38 (rdX2_village) in_X2 (by decide) q193 rfl ?_
      refine V_iload_n C dX2_readSteep_41 rfl ?_
      refine V_aload_n C dX2_readSteep_42 rfl ?_
      refine V_get C dX2_readSteep_43 (rdO (j := 6) 64 rfl rfl rfl rfl rfl) in_X2 (by decide) q198 rfl ?_
      rw [TQ_64, show RF f (σ 63) n (nxT (σ 63) n (nxT (σ 63) n s)) 6 = nI (vlT (σ 63) n (nxT (σ 63) n (nxT (σ 63) n s))) from cv_v (hi := 9) (by omega) c32]
      refine V_cv0 C hE dX2_readSteep_46 (c_X5_putSteep (v := 2) (i := vlT (σ 63) n (nxT (σ 63) n s)) (by omega) (by have := (nmT_i.mp c11).2.2; omega)) kyX5_putSteep q780 (isoV (by first | assumption | omega)) rfl rfl rfl ?_
      try simp (disch := omega) only [TQ_u2, TQ_2]
      refine V_aload_n C dX2_readSteep_49 rfl ?_
      refine V_cv0 C hE dX2_readSteep_50 (c_nextQ h2 (nxT_le (nxT_le hs)) hn) kyX2_next q671 (isoO 64 rfl rfl rfl rfl) rfl rfl rfl ?_
      try simp (disch := omega) only [TQ_u2, TQ_2]
      refine V_iconst C 1 dX2_readSteep_53 (by decide) ?_
      exact V_zretN C dX2_readSteep_54 hT (by decide) (HQ_t (by unfold spT; rw [if_pos c11, if_pos c32]))
    · refine V_iconst C 0 dX2_readSteep_35 (by decide) ?_
      exact V_zretN C dX2_readSteep_36 hT (by decide) (HQ_f (by unfold spT; rw [if_pos c11, if_neg c32]))
  · refine V_iconst C 0 dX2_readSteep_14 (by decide) ?_
    exact V_zretN C dX2_readSteep_15 hT (by decide) (HQ_f (by unfold spT; rw [if_neg c11]))

theorem c_readOut {l : Launch} {E : En} {σ : Sg} {f g : Nat → Int32} {n s : Nat} (h2 : f 2 = nI n) (hs : s ≤ n) (hn : n ≤ 120) : MN l yX2_readOut cX2_readOut 1 (some .boolean) rnX2_readOut E [.ref (ad E 64)] (TQ σ f n (nxT (σ 63) n s) g) (HQ σ f n (ouT (σ 63) n s g)) := by
  refine MN_of (by decide +kernel) rfl fun x C hE hT hcan => ?_
  have C : CX x cX2_readOut RX2 rnX2_readOut := C
  refine V_L (L' := [some (.ref (ad E 64))]) rfl ?_
  refine V_aload_n C dX2_readOut_0 rfl ?_
  refine V_iconst C 0 dX2_readOut_1 (by decide) ?_
  refine V_bipush C 100 dX2_readOut_2 (by decide) ?_
  refine V_cv C hE dX2_readOut_4 (c_isNumberQ (lo := 0) (hi := 100) rfl rfl (by omega) (by omega) h2 (nxT_le hs) hn) kyX2_isNumber q767 (isoO 64 rfl rfl rfl rfl) rfl rfl rfl ?_
  try simp (disch := omega) only [TQ_u2, TQ_2]
  refine V_ifne_b C dX2_readOut_7 (fun c7 => ?_) (fun c7 => ?_)
  · refine V_aload_n C dX2_readOut_12 rfl ?_
    refine V_get C dX2_readOut_13 (rdX2_village) in_X2 (by decide) q193 rfl ?_
    refine V_aload_n C dX2_readOut_16 rfl ?_
    refine V_get C dX2_readOut_17 (rdO (j := 6) 64 rfl rfl rfl rfl rfl) in_X2 (by decide) q198 rfl ?_
    rw [TQ_64, show RF f (σ 63) n (nxT (σ 63) n s) 6 = nI (vlT (σ 63) n (nxT (σ 63) n s)) from cv_v (hi := 100) (by omega) c7]
    refine V_putN C hE.nw dX2_readOut_20 (wrV (by first | assumption | omega) 5 6 rfl rfl rfl) ft_X5 (by decide) q140 rfl rfl rfl rfl ?_
    try simp (disch := omega) only [TQ_u2, TQ_2]
    refine V_aload_n C dX2_readOut_23 rfl ?_
    refine V_cv0 C hE dX2_readOut_24 (c_nextQ h2 (nxT_le hs) hn) kyX2_next q671 (isoO 64 rfl rfl rfl rfl) rfl rfl rfl ?_
    try simp (disch := omega) only [TQ_u2, TQ_2]
    refine V_iconst C 1 dX2_readOut_27 (by decide) ?_
    exact V_zretN C dX2_readOut_28 hT (by decide) (HQ_t (by unfold ouT; rw [if_pos c7]))
  · refine V_iconst C 0 dX2_readOut_10 (by decide) ?_
    exact V_zretN C dX2_readOut_11 hT (by decide) (HQ_f (by unfold ouT; rw [if_neg c7]))

theorem c_readItem {l : Launch} {E : En} {σ : Sg} {f g : Nat → Int32} {n s : Nat} (h2 : f 2 = nI n) (hs : s ≤ n) (hn : n ≤ 120) : MN l yX2_readItem cX2_readItem 2 (some .boolean) rnX2_readItem E [.ref (ad E 64)] (TQ σ f n s g) (HQ σ f n (itT (σ 63) n s g)) := by
  refine MN_of (by decide +kernel) rfl fun x C hE hT hcan => ?_
  have C : CX x cX2_readItem RX2 rnX2_readItem := C
  refine V_L (L' := [some (.ref (ad E 64)), none]) rfl ?_
  refine V_aload_n C dX2_readItem_0 rfl ?_
  refine V_cv C hE dX2_readItem_1 (c_kindQ h2 hs hn) kyX2_kindTold q692 (isoO 64 rfl rfl rfl rfl) rfl rfl rfl ?_
  try simp (disch := omega) only [TQ_u2, TQ_2]
  refine V_istore_n C dX2_readItem_4 rfl ?_
  refine V_iload_n C dX2_readItem_5 rfl ?_
  refine V_if_lt C dX2_readItem_6 (fun c6 => ?_) (fun c6 => ?_)
  · refine V_aload_n C dX2_readItem_15 rfl ?_
    refine V_ldcS C dX2_readItem_16 (hE.1.2.1 11 (by decide)) ?_
    refine V_cv C hE dX2_readItem_18 (c_isWordQ (i := 11) (by decide) h2 hs hn) kyX2_isWord q697 (isoO 64 rfl rfl rfl rfl) rfl rfl rfl ?_
    try simp (disch := omega) only [TQ_u2, TQ_2]
    refine V_ifeq_b C dX2_readItem_21 (fun c21 => ?_) (fun c21 => ?_)
    · refine V_aload_n C dX2_readItem_29 rfl ?_
      refine V_ldcS C dX2_readItem_30 (hE.1.2.1 12 (by decide)) ?_
      refine V_cv C hE dX2_readItem_32 (c_isWordQ (i := 12) (by decide) h2 hs hn) kyX2_isWord q697 (isoO 64 rfl rfl rfl rfl) rfl rfl rfl ?_
      try simp (disch := omega) only [TQ_u2, TQ_2]
      refine V_ifeq_b C dX2_readItem_35 (fun c35 => ?_) (fun c35 => ?_)
      · refine V_aload_n C dX2_readItem_47 rfl ?_
        refine V_ldcS C dX2_readItem_48 (hE.1.2.1 13 (by decide)) ?_
        refine V_cv C hE dX2_readItem_50 (c_isWordQ (i := 13) (by decide) h2 hs hn) kyX2_isWord q697 (isoO 64 rfl rfl rfl rfl) rfl rfl rfl ?_
        try simp (disch := omega) only [TQ_u2, TQ_2]
        refine V_ifne_b C dX2_readItem_53 (fun c53 => ?_) (fun c53 => ?_)
        · refine V_aload_n C dX2_readItem_65 rfl ?_
          refine V_get C dX2_readItem_66 (rdX2_village) in_X2 (by decide) q193 rfl ?_
          refine V_aload_n C dX2_readItem_69 rfl ?_
          refine V_ldcS C dX2_readItem_70 (hE.1.2.1 13 (by decide)) ?_
          refine V_cv C hE dX2_readItem_72 (c_isWordQ (i := 13) (by decide) h2 hs hn) kyX2_isWord q697 (isoO 64 rfl rfl rfl rfl) rfl rfl rfl ?_
          try simp (disch := omega) only [TQ_u2, TQ_2]
          refine V_ifeq_b C dX2_readItem_75 (fun c75 => absurd (c53) c75) (fun c75 => ?_)
          refine V_iconst C 1 dX2_readItem_78 (by decide) ?_
          refine V_goto C dX2_readItem_79 ?_
          refine V_putN C hE.nw dX2_readItem_83 (wrV (by first | assumption | omega) 4 5 rfl rfl rfl) ft_X5 (by decide) q136 rfl rfl rfl rfl ?_
          try simp (disch := omega) only [TQ_u2, TQ_2]
          refine V_aload_n C dX2_readItem_86 rfl ?_
          refine V_cv0 C hE dX2_readItem_87 (c_nextQ h2 hs hn) kyX2_next q671 (isoO 64 rfl rfl rfl rfl) rfl rfl rfl ?_
          try simp (disch := omega) only [TQ_u2, TQ_2]
          refine V_iconst C 1 dX2_readItem_90 (by decide) ?_
          exact V_zretN C dX2_readItem_91 hT (by decide) (HQ_t (by unfold itT; rw [if_neg (Int32.not_le.mpr c6), if_neg c21, if_neg c35, if_pos c53]))
        · refine V_aload_n C dX2_readItem_56 rfl ?_
          refine V_ldcS C dX2_readItem_57 (hE.1.2.1 14 (by decide)) ?_
          refine V_cv C hE dX2_readItem_59 (c_isWordQ (i := 14) (by decide) h2 hs hn) kyX2_isWord q697 (isoO 64 rfl rfl rfl rfl) rfl rfl rfl ?_
          try simp (disch := omega) only [TQ_u2, TQ_2]
          refine V_ifeq_b C dX2_readItem_62 (fun c62 => ?_) (fun c62 => ?_)
          · refine V_iconst C 0 dX2_readItem_92 (by decide) ?_
            exact V_zretN C dX2_readItem_93 hT (by decide) (HQ_f (by unfold itT; rw [if_neg (Int32.not_le.mpr c6), if_neg c21, if_neg c35, if_neg c53, if_neg c62]))
          · refine V_aload_n C dX2_readItem_65 rfl ?_
            refine V_get C dX2_readItem_66 (rdX2_village) in_X2 (by decide) q193 rfl ?_
            refine V_aload_n C dX2_readItem_69 rfl ?_
            refine V_ldcS C dX2_readItem_70 (hE.1.2.1 13 (by decide)) ?_
            refine V_cv C hE dX2_readItem_72 (c_isWordQ (i := 13) (by decide) h2 hs hn) kyX2_isWord q697 (isoO 64 rfl rfl rfl rfl) rfl rfl rfl ?_
            try simp (disch := omega) only [TQ_u2, TQ_2]
            refine V_ifeq_b C dX2_readItem_75 (fun c75 => ?_) (fun c75 => absurd c75 (c53))
            refine V_iconst C 0 dX2_readItem_82 (by decide) ?_
            refine V_putN C hE.nw dX2_readItem_83 (wrV (by first | assumption | omega) 4 5 rfl rfl rfl) ft_X5 (by decide) q136 rfl rfl rfl rfl ?_
            try simp (disch := omega) only [TQ_u2, TQ_2]
            refine V_aload_n C dX2_readItem_86 rfl ?_
            refine V_cv0 C hE dX2_readItem_87 (c_nextQ h2 hs hn) kyX2_next q671 (isoO 64 rfl rfl rfl rfl) rfl rfl rfl ?_
            try simp (disch := omega) only [TQ_u2, TQ_2]
            refine V_iconst C 1 dX2_readItem_90 (by decide) ?_
            exact V_zretN C dX2_readItem_91 hT (by decide) (HQ_t (by unfold itT; rw [if_neg (Int32.not_le.mpr c6), if_neg c21, if_neg c35, if_neg c53, if_pos c62]))
      · refine V_aload_n C dX2_readItem_38 rfl ?_
        refine V_cv0 C hE dX2_readItem_39 (c_nextQ h2 hs hn) kyX2_next q671 (isoO 64 rfl rfl rfl rfl) rfl rfl rfl ?_
        try simp (disch := omega) only [TQ_u2, TQ_2]
        refine V_aload_n C dX2_readItem_42 rfl ?_
        refine V_cn C hE dX2_readItem_43 (c_readOut h2 hs hn) kyX2_readOut q782 (isoO 64 rfl rfl rfl rfl) rfl rfl rfl ?_
        rintro r u ⟨rfl, g', rfl, hg⟩
        exact V_zretN C dX2_readItem_46 hT (okT_nar _) (by rw [show itT (σ 63) n s g = ouT (σ 63) n s g from by unfold itT; rw [if_neg (Int32.not_le.mpr c6), if_neg c21, if_pos c35]]; exact ⟨rfl, g', rfl, hg⟩)
        done
    · refine V_aload_n C dX2_readItem_24 rfl ?_
      refine V_cn C hE dX2_readItem_25 (c_readSteep h2 hs hn) kyX2_readSteep q776 (isoO 64 rfl rfl rfl rfl) rfl rfl rfl ?_
      rintro r u ⟨rfl, g', rfl, hg⟩
      exact V_zretN C dX2_readItem_28 hT (okT_nar _) (by rw [show itT (σ 63) n s g = spT (σ 63) n s g from by unfold itT; rw [if_neg (Int32.not_le.mpr c6), if_pos c21]]; exact ⟨rfl, g', rfl, hg⟩)
      done
  · refine V_aload_n C dX2_readItem_9 rfl ?_
    refine V_iload_n C dX2_readItem_10 rfl ?_
    refine V_cn C hE dX2_readItem_11 (c_readHouse h2 hs hn) kyX2_readHouse q755 (isoO 64 rfl rfl rfl rfl) rfl rfl rfl ?_
    rintro r u ⟨rfl, g', rfl, hg⟩
    exact V_zretN C dX2_readItem_14 hT (okT_nar _) (by rw [show itT (σ 63) n s g = hsT (σ 63) n (kdT (σ 63) n s) s g from by unfold itT; rw [if_pos (Int32.not_lt.mp c6)]]; exact ⟨rfl, g', rfl, hg⟩)
    done

