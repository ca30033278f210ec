theorem q74 : Cond.initialized RJ6 ∈ lw_gd := gd 74 (by decide +kernel) rfl
theorem q645 : Cond.static yJ6_bitCount_0f7a4 ∈ lw_gd := gd 645 (by decide +kernel) rfl
theorem q646 : Cond.code yJ6_bitCount_0f7a4 cJ6_bitCount_0f7a4 1 (some .int) ∈ lw_gd := gd 646 (by decide +kernel) rfl
theorem q647 : Cond.constant RJ6 265 1431655765 ∈ lw_gd := gd 647 (by decide +kernel) rfl
theorem q648 : Cond.constant RJ6 266 858993459 ∈ lw_gd := gd 648 (by decide +kernel) rfl
theorem q649 : Cond.constant RJ6 267 252645135 ∈ lw_gd := gd 649 (by decide +kernel) rfl
def rmJ6_bitCount_0f7a4 : Room := { frames := 0, cells := 0, slots := 0, locals := 0 }

def KO (y : MethodName) (ycc : ByteArray) (ynL : Nat) (ret : Option FieldType) (nn : Nat) : Prop := Cond.static y ∈ lw_gd ∧ Cond.initialized y.cls ∈ lw_gd ∧ Cond.code y ycc ynL ret ∈ lw_gd ∧ (y.cls ≠ "java/lang/invoke/MethodHandle" ∧ y.cls ≠ "java/lang/invoke/VarHandle" ∧ (parseMethodDescriptor y.desc).map (fun d => d.parameters.length) = some nn)
section CALLO
variable {x : Cx} {cc : ByteArray} {own : String} {R : Room} {E : En} {k n pc pc' tgt : Nat} {L : List (Option Value)} {st : List Value} {σ : Sg}
theorem V_callO (C : CX x cc own R) (hE : CE E (xs x) (xs x).heap) {idx nn ynL mc ms : Nat} {As rest : List Value} {y : MethodName} {ycc : ByteArray} {ret : Option FieldType} {rm : Room} {P : State → Heap → Prop} {S : Type} {post : Option Value → S → Prop} {P' : S → State → Heap → Prop}
    (hd : D1 cc pc (.invokestatic idx) 3 pc') (hM : MG (xl x) y ycc ynL ret rm mc ms E As P post P') (hk : KO y ycc ynL ret nn) (hl : Cond.methodLink own idx y ∈ lw_gd) (hro : RO rm ynL R) (hcc : rm.cells = mc ∧ rm.slots = ms) (hnn : As.length = nn) (hc : k + mc ≤ R.cells ∧ n + ms ≤ R.slots) (hst : st = As.reverse ++ rest) (hrest : (rest.map fun v => v.category).sum ≤ 8) (hPM : PM P) (hPM' : ∀ u, PM (P' u))
    (kk : ∀ (r : Option Value) (u : S), post r u → V x (eA E) (fun H => P' u (xs x) H) (k + mc) (n + ms) pc' L (r.toList ++ rest)) : V x (eA E) (fun H => P (xs x) H) k n pc L st := by
  obtain ⟨p, l, e, R', s, m, args, below, meth, c, Q⟩ := x
  obtain ⟨hx, hb, hR, hown, hts⟩ := C
  obtain ⟨hd, rfl⟩ := hd
  obtain ⟨k1, k3, k4, k5⟩ := hk
  have hR : R' = R := hR
  subst hR
  subst hst
  intro H locs ls hPH hS hL
  have hG : GoodIn lw_gd (va_wsS own idx y (.code y ycc ynL ret :: lw_gd)) := fun w hw => lw_gd_ok w (by
    unfold va_wsS at hw
    simp only [List.cons_append, List.nil_append, List.mem_cons] at hw
    rcases hw with rfl | rfl | rfl | rfl | h <;> assumption)
  refine callG (va_runS (As := As) (rest := rest) (nL := c.maxLocals) ⟨hx, hb, rfl, hown, hts⟩ hM (va_cwS nn hts hG rfl hcc.1 hcc.2 k5 hro) ⟨?_, ?_⟩ rfl hnn (by rw [hL.2.1]) rfl (lv_room hrest) hd hc) hS (fun _ h => h) ?_
  · intro a U g mk q
    exact ⟨q.1, hPM _ _ _ (Vm.Alike.refl U.vm) q.2.1, XS.same (u := U) rfl q.2.2.1, q.2.2.2⟩
  · intro U hU hW
    refine ⟨rfl, by rw [hU]; exact hPM _ _ _ hW.alike hPH, ?_, by rw [hU]; exact Nat.le_trans hE.2 hS.1⟩
    rw [hU]
    exact (hE.1.kept (fun a h1 h2 => hS.2.1 a h1 h2)).warm hW
  · intro r u t H1 locs1 ht hvm hp hB hS1
    exact kk r u hp H1 locs1 ls (by rw [← ht]; exact hPM' u _ _ _ hvm.symm hB) hS1 hL
theorem V_co (C : CX x cc own R) (hE : CE E (xs x) (xs x).heap) {idx nn ynL : Nat} {As rest : List Value} {y : MethodName} {ycc : ByteArray} {ret : Option FieldType} {rm : Room} {v : Value} {σ0 : Sg}
    (hd : D1 cc pc (.invokestatic idx) 3 pc') (hM : MD (xl x) y ycc ynL ret rm E As σ (some v) σ0) (hk : KO y ycc ynL ret nn) (hl : Cond.methodLink own idx y ∈ lw_gd) (hst : st = As.reverse ++ rest) (hro : ROb rm ynL R nn As rest = true) (hkc : (Nat.ble k R.cells && Nat.ble n R.slots) = true)
    (h : V x (eA E) (AP x E σ0) k n pc' L (v :: rest)) : V x (eA E) (AP x E σ) k n pc L st := by
  simp only [ROb, Bool.and_eq_true, Nat.ble_eq, beq_iff_eq] at hro
  simp only [Bool.and_eq_true, Nat.ble_eq] at hkc
  refine V_callO C hE hd hM hk hl ⟨hro.1.1.1.1.1, hro.1.1.1.1.2⟩ ⟨hro.1.1.1.2, hro.1.1.2⟩ hro.1.2 hkc hst hro.2 PM_A (fun _ => PM_A) ?_
  rintro r u ⟨rfl, rfl⟩
  exact h
end CALLO
/-- how many bits there are -/
def popN (n : Nat) : Nat := n % 2 + n / 2 % 2 + n / 4 % 2 + n / 8 % 2 + n / 16 % 2 + n / 32 % 2 + n / 64 % 2 + n / 128 % 2
def clrN (n : Nat) : Nat := (nI n &&& (nI n - 1)).toNatClampNeg
theorem pop_step : ∀ r, r < 256 → r ≠ 0 → nI r &&& (nI r - 1) = nI (clrN r) ∧ clrN r < 256 ∧ popN (clrN r) + 1 = popN r := by decide +kernel
theorem pop_0 : ∀ r, r < 256 → popN r = 0 → r = 0 := by decide +kernel
def bb1 (x : Int32) : Int32 := x - (iush x 1 &&& 1431655765)
def bb2 (x : Int32) : Int32 := (x &&& 858993459) + (iush x 2 &&& 858993459)
def bb3 (x : Int32) : Int32 := (x + iush x 4) &&& 252645135
def bb4 (x : Int32) : Int32 := x + iush x 8
def bb5 (x : Int32) : Int32 := x + iush x 16
theorem bb_eq : ∀ n, n < 256 → bb5 (bb4 (bb3 (bb2 (bb1 (nI n))))) &&& 63 = nI (popN n) := by decide +kernel
theorem and_n {x : Int32} (h : x &&& 255 = x) : ∃ n, n < 256 ∧ x = nI n := by
  have e : x.toBitVec = x.toBitVec &&& 255#32 := by
    have z := congrArg Int32.toBitVec h
    rw [Int32.toBitVec_and] at z; exact z.symm
  have hlt : x.toBitVec.toNat < 256 := by
    rw [e, BitVec.toNat_and]
    exact Nat.lt_of_le_of_lt (Nat.and_le_right) (by decide)
  refine ⟨x.toBitVec.toNat, hlt, ?_⟩
  apply Int32.toBitVec_inj.mp
  show x.toBitVec = BitVec.ofNat 32 x.toBitVec.toNat
  simp
theorem set_n {f : Nat → Int32} (h : nh f ≤ 8) : ∃ n, n < 256 ∧ setF f = nI n := and_n (setF_255 h)

theorem c_bitCount {l : Launch} {E : En} {σ : Sg} {n : Nat} (hn : n < 256) : MD l yJ6_bitCount_0f7a4 cJ6_bitCount_0f7a4 1 (some .int) rmJ6_bitCount_0f7a4 E [.int (nI n)] σ (some (.int (nI (popN n)))) σ := by
  refine MD_of (by decide +kernel) rfl fun x C hE hT hcan => ?_
  have C : CX x cJ6_bitCount_0f7a4 RJ6 rmJ6_bitCount_0f7a4 := C
  refine V_L (L' := [some (.int (nI n))]) rfl ?_
  refine V_iload_n C dJ6_bitCount_0f7a4_0 rfl ?_
  refine V_iload_n C dJ6_bitCount_0f7a4_1 rfl ?_
  refine V_iconst C 1 dJ6_bitCount_0f7a4_2 (by decide) ?_
  refine V_iushr C dJ6_bitCount_0f7a4_3 ?_
  refine V_ldc_w C dJ6_bitCount_0f7a4_4 q647 ?_
  refine V_iand C dJ6_bitCount_0f7a4_7 ?_
  refine V_isub C dJ6_bitCount_0f7a4_8 ?_
  refine V_istore_n C dJ6_bitCount_0f7a4_9 rfl ?_
  refine V_iload_n C dJ6_bitCount_0f7a4_10 rfl ?_
  refine V_ldc_w C dJ6_bitCount_0f7a4_11 q648 ?_
  refine V_iand C dJ6_bitCount_0f7a4_14 ?_
  refine V_iload_n C dJ6_bitCount_0f7a4_15 rfl ?_
  refine V_iconst C 2 dJ6_bitCount_0f7a4_16 (by decide) ?_
  refine V_iushr C dJ6_bitCount_0f7a4_17 ?_
  refine V_ldc_w C dJ6_bitCount_0f7a4_18 q648 ?_
  refine V_iand C dJ6_bitCount_0f7a4_21 ?_
  refine V_iadd C dJ6_bitCount_0f7a4_22 ?_
  refine V_istore_n C dJ6_bitCount_0f7a4_23 rfl ?_
  refine V_iload_n C dJ6_bitCount_0f7a4_24 rfl ?_
  refine V_iload_n C dJ6_bitCount_0f7a4_25 rfl ?_
  refine V_iconst C 4 dJ6_bitCount_0f7a4_26 (by decide) ?_
  refine V_iushr C dJ6_bitCount_0f7a4_27 ?_
  refine V_iadd C dJ6_bitCount_0f7a4_28 ?_
  refine V_ldc_w C dJ6_bitCount_0f7a4_29 q649 ?_
  refine V_iand C dJ6_bitCount_0f7a4_32 ?_
  refine V_istore_n C dJ6_bitCount_0f7a4_33 rfl ?_
  refine V_iload_n C dJ6_bitCount_0f7a4_34 rfl ?_
  refine V_iload_n C dJ6_bitCount_0f7a4_35 rfl ?_
  refine V_bipush C 8 dJ6_bitCount_0f7a4_36 (by decide) ?_
  refine V_iushr C dJ6_bitCount_0f7a4_38 ?_
  refine V_iadd C dJ6_bitCount_0f7a4_39 ?_
  refine V_istore_n C dJ6_bitCount_0f7a4_40 rfl ?_
  refine V_iload_n C dJ6_bitCount_0f7a4_41 rfl ?_
  refine V_iload_n C dJ6_bitCount_0f7a4_42 rfl ?_
  refine V_bipush C 16 dJ6_bitCount_0f7a4_43 (by decide) ?_
  refine V_iushr C dJ6_bitCount_0f7a4_45 ?_
  refine V_iadd C dJ6_bitCount_0f7a4_46 ?_
  refine V_istore_n C dJ6_bitCount_0f7a4_47 rfl ?_
  refine V_iload_n C dJ6_bitCount_0f7a4_48 rfl ?_
  refine V_bipush C 63 dJ6_bitCount_0f7a4_49 (by decide) ?_
  refine V_iand C dJ6_bitCount_0f7a4_51 ?_
  exact V_iretD C dJ6_bitCount_0f7a4_52 hT (bb_eq n hn) rfl

theorem kyJ6_bitCount_0f7a4 : KO yJ6_bitCount_0f7a4 cJ6_bitCount_0f7a4 1 (some .int) 1 := ⟨q645, q74, q646, by decide +kernel⟩

theorem c_X9_ones {l : Launch} {E : En} {σ : Sg} {n : Nat} (hn : n < 256) : MD l yX9_ones cX9_ones 3 (some .int) rmX9_ones E [.int (nI n)] σ (some (.int (nI (popN n)))) (σ) := by
  refine MD_of (by decide +kernel) rfl fun x C hE hT hcan => ?_
  have C : CX x cX9_ones RX9 rmX9_ones := C
  refine V_L (L' := [some (.int (nI n)), none, none]) rfl ?_
  refine V_iconst C 0 dX9_ones_0 (by decide) ?_
  refine V_istore_n C dX9_ones_1 rfl ?_
  refine V_iload_n C dX9_ones_2 rfl ?_
  refine V_istore_n C dX9_ones_3 rfl ?_
  have lp : ∀ (d i : Nat) (r : Nat), i + d = popN n → (r < 256) → (popN r = d) → V x (eA E) (AP x E (σ)) 0 0 4 [some (.int (nI n)), some (.int (nI i)), some (.int (nI r))] [] := by
    intro d
    induction d with
    | zero =>
      intro i r hi' hr hp
      have hN : i = popN n := by omega
      refine V_iload_n C dX9_ones_4 rfl ?_
      refine V_if_eq C dX9_ones_5 (fun c5 => ?_) (fun c5 => absurd (by rw [pop_0 r hr hp]; rfl) c5)
      refine V_iload_n C dX9_ones_20 rfl ?_
      exact V_iretD C dX9_ones_21 hT (by rw [hN]) rfl
    | succ d ih =>
      intro i r hi' hr hp
      refine V_iload_n C dX9_ones_4 rfl ?_
      refine V_if_eq C dX9_ones_5 (fun c5 => absurd c5 (fun z => absurd (show popN r = 0 by rw [show r = 0 from (nI_eq (a := r) (b := 0) (by omega) (by omega)).mp z]; rfl) (by omega))) (fun c5 => ?_)
      refine V_iinc C 1 dX9_ones_8 rfl (by decide) rfl ?_
      refine V_iload_n C dX9_ones_11 rfl ?_
      refine V_iload_n C dX9_ones_12 rfl ?_
      refine V_iconst C 1 dX9_ones_13 (by decide) ?_
      refine V_isub C dX9_ones_14 ?_
      refine V_iand C dX9_ones_15 ?_
      obtain ⟨s1, s2, s3⟩ := pop_step r hr (fun z => absurd (show popN r = 0 by rw [z]; rfl) (by omega))
      refine V_st (st' := [.int (nI (clrN r))]) (by rw [← s1]) ?_
      refine V_istore_n C dX9_ones_16 rfl ?_
      refine V_goto C dX9_ones_17 ?_
      exact V_nx rfl (by simp [← nI_1] <;> rfl) (ih (i + 1) (clrN r) (by omega) s2 (by omega))
  exact lp (popN n) 0 n (by omega) hn rfl

def S_calls (f : Nat → Int32) (n : Int32) : Rs := if inP n 1 12 then (if 0 < f 3 ∨ f 1 = 0 ∨ 8500 < f 0 then .inl 4 else .inr (nI (popN (hk (setF (callN (hk n) f)))))) else .inl 0
theorem iush_0 (a : Int32) : ∃ k, k < 2 ^ 24 ∧ iush a 8 = nI k := by
  have h := pk_ushr a 8 8 (by decide)
  refine ⟨a.toBitVec.toNat / 2 ^ 8, by have := a.toBitVec.isLt; omega, ?_⟩
  apply Int32.toBitVec_inj.mp
  apply BitVec.eq_of_toNat_eq
  unfold iush
  rw [h]
  show _ = (BitVec.ofNat 32 _).toNat
  rw [BitVec.toNat_ofNat]
  have := a.toBitVec.isLt
  rw [Nat.mod_eq_of_lt]; omega
theorem div_n {a b : Nat} (ha : a < 2 ^ 31) (hb : b < 2 ^ 31) : nI a / nI b = nI (a / b) := by
  apply Int32.toInt_inj.mp
  have hd : a / b ≤ a := Nat.div_le_self a b
  rw [Int32.toInt_div, nI_toInt ha, nI_toInt hb, nI_toInt (by omega), Int.tdiv_eq_ediv_of_nonneg (by omega)]
  have e : ((a : Int) / (b : Int)) = ((a / b : Nat) : Int) := by simp
  rw [e]
  generalize a / b = q at hd ⊢
  rw [Int.bmod_def]; split <;> omega
theorem rem_n {a b : Nat} (ha : a < 2 ^ 31) (hb : b < 2 ^ 31) : nI a - nI a / nI b * nI b = nI (a % b) := by
  rw [div_n ha hb, nI_mul, nI_msub (Nat.div_mul_le_self a b)]
  congr 1
  have := Nat.div_add_mod a b
  rw [Nat.mul_comm] at this; omega
/-- the house of a draw -/
def drwB (g : Nat → Int32) : Nat := hk (iush (drawF g 7) 8 - iush (drawF g 7) 8 / g 1 * g 1)
theorem drw_b {g : Nat → Int32} (hc : Can g) (h : ¬ g 1 = 0) : iush (drawF g 7) 8 - iush (drawF g 7) 8 / g 1 * g 1 = nI (drwB g) ∧ drwB g < nh g := by
  obtain ⟨k, hk2, e⟩ := iush_0 (drawF g 7)
  have h8 := hc.2.1
  have hp : 0 < nh g := by
    rcases Nat.eq_zero_or_pos (nh g) with z | z
    · exact absurd (by rw [hc.1, z]; rfl) h
    · exact z
  unfold drwB
  rw [e, hc.1, rem_n (by omega) (by omega)]
  have := Nat.mod_lt k hp
  rw [hk_n (by omega)]
  exact ⟨rfl, this⟩
theorem callF_eq (g : Nat → Int32) : callF g = passN (hk (wayF (drawF g) (hx (drawF g)) (drwB g) + 2)) (goF (drawF g) (drwB g)) := rfl
theorem GV_drawF {g : Nat → Int32} (h : GV g) : GV (drawF g) := by
  unfold drawF
  refine ⟨Inv_upd h.1 (by omega) (by omega) (by omega) (by omega) (by omega), ⟨fun i hi => ?_, ?_⟩, ?_, ?_⟩
  · rw [upd_n (by omega)]; exact h.2.1.1 i hi
  · rw [upd_n (by omega)]; exact h.2.1.2
  · rw [hx_upd (by omega), upd_n (by omega)]; exact h.2.2.1
  · rw [hx_upd (by omega)]; exact h.2.2.2
theorem drawF_n {g : Nat → Int32} {k : Nat} (h : k ≠ 7) : drawF g k = g k := upd_n h
theorem way2 {g : Nat → Int32} (h : GV g) {b : Nat} (hb : b ≤ 7) : wayF g (hx g) b + 2 = nI (hk (wayF g (hx g) b + 2)) ∧ hk (wayF g (hx g) b + 2) ≤ 72 := by
  obtain ⟨m, hm, hm2⟩ := wayF_b h.2.1 h.2.2.2 hb
  rw [hm, show nI m + 2 = nI (m + 2) from nI_add m 2, hk_n (by omega)]
  exact ⟨rfl, by omega⟩
theorem callF_GV {g : Nat → Int32} (h : GV g) (h1 : ¬ g 1 = 0) : GV (callF g) ∧ callF g 1 = g 1 := by
  have b := drw_b h.1.1 h1
  have h8 := h.1.1.2.1
  rw [callF_eq]
  refine ⟨GV_passN (GV_goF (GV_drawF h) (by omega)) _, ?_⟩
  rw [passN_lo (by omega) (by omega) (by omega) (by omega), goF_n (by omega) (by omega), drawF_n (by omega)]
theorem callN_GV {g : Nat → Int32} (h : GV g) (h1 : ¬ g 1 = 0) : ∀ n, GV (callN n g) ∧ callN n g 1 = g 1 := by
  intro n
  induction n with
  | zero => exact ⟨h, rfl⟩
  | succ n ih =>
    have q := callF_GV ih.1 (by rw [ih.2]; exact h1)
    exact ⟨q.1, q.2.trans ih.2⟩
theorem nh_1 {f g : Nat → Int32} (h : f 1 = g 1) : nh f = nh g := by unfold nh; rw [h]

theorem c_X9_calls {l : Launch} {E : En} {σ : Sg} {p0 : Int32}  (hG : GV (σ 74)) (hz : σ 73 5 = 0) : MN l yX9_calls cX9_calls 3 (some .int) rmX9_calls E [.ref (ad E 73), .int p0] σ (PQ σ (S_calls (σ 74) p0) (us σ 74 (callN (hk p0) (σ 74)))) := by
  refine MN_of (by decide +kernel) rfl fun x C hE hT hcan => ?_
  have C : CX x cX9_calls RX9 rmX9_calls := C
  have h8 : nh (σ 74) ≤ 8 := (hcan.2.1 74 (by omega) (by omega)).2.1
  refine V_L (L' := [some (.ref (ad E 73)), some (.int p0), none]) rfl ?_
  refine V_iload_n C dX9_calls_0 rfl ?_
  refine V_i2l C dX9_calls_1 ?_
  refine V_lconst C 1 dX9_calls_2 (by decide) ?_
  refine V_ldc2 C dX9_calls_3 q1193 ?_
  refine V_cs C hE dX9_calls_6 (c_X9_in (a := p0) (lo := 1) (hi := 12) (by decide +kernel) (by decide +kernel)) kyX9_in q991 rfl rfl rfl ?_
  refine V_ifne_b C dX9_calls_9 (fun c9 => ?_) (fun c9 => ?_)
  · refine V_aload_n C dX9_calls_19 rfl ?_
    refine V_cv C hE dX9_calls_20 (c_X9_isGoing) kyX9_isGoing q1069 (isoO 73 rfl rfl rfl rfl) rfl rfl rfl ?_
    refine V_ifne_b C dX9_calls_23 (fun c23 => ?_) (fun c23 => ?_)
    · refine V_aload_n C dX9_calls_45 rfl ?_
      refine V_ldc C dX9_calls_46 q1056 ?_
      refine V_cv C hE dX9_calls_48 (c_X9_finds (j := 4) (by decide +kernel) (by omega)) kyX9_finds q995 (isoO 73 rfl rfl rfl rfl) rfl rfl rfl ?_
      exact V_iretN C dX9_calls_51 hT (PQ_fail (by decide +kernel) (by unfold S_calls; rw [if_pos c9, if_pos (by first | exact Or.inl c23 | exact Or.inr (Or.inl c32) | exact Or.inr (Or.inr c42))]) (EqY.rf σ))
    · refine V_aload_n C dX9_calls_26 rfl ?_
      refine V_get C dX9_calls_27 (rdO (j := 0) 73 rfl rfl rfl rfl rfl) in_X9 (by decide) q907 rfl ?_
      refine V_iconst C 1 dX9_calls_30 (by decide) ?_
      refine V_iald C 1 rfl rfl rfl dX9_calls_31 (rdM 74 1 rfl rfl rfl) ?_
      refine V_if_eq C dX9_calls_32 (fun c32 => ?_) (fun c32 => ?_)
      · refine V_aload_n C dX9_calls_45 rfl ?_
        refine V_ldc C dX9_calls_46 q1056 ?_
        refine V_cv C hE dX9_calls_48 (c_X9_finds (j := 4) (by decide +kernel) (by omega)) kyX9_finds q995 (isoO 73 rfl rfl rfl rfl) rfl rfl rfl ?_
        exact V_iretN C dX9_calls_51 hT (PQ_fail (by decide +kernel) (by unfold S_calls; rw [if_pos c9, if_pos (by first | exact Or.inl c23 | exact Or.inr (Or.inl c32) | exact Or.inr (Or.inr c42))]) (EqY.rf σ))
      · refine V_aload_n C dX9_calls_35 rfl ?_
        refine V_sipush C 8500 dX9_calls_36 (by decide) ?_
        refine V_cv C hE dX9_calls_39 (c_X9_isAbove) kyX9_isAbove q1162 (isoO 73 rfl rfl rfl rfl) rfl rfl rfl ?_
        refine V_ifeq_b C dX9_calls_42 (fun c42 => ?_) (fun c42 => ?_)
        · have hns : ¬ (0 < σ 74 3 ∨ σ 74 1 = 0 ∨ 8500 < σ 74 0) := fun z => z.elim c23 (fun z => z.elim c32 c42)
          have hne : ¬ σ 74 1 = 0 := fun e => hns (Or.inr (Or.inl e))
          obtain ⟨q, rfl, hq⟩ := i32_le (m := 12) (by omega) (Int32.le_trans (by decide) c9.1) c9.2
          refine V_iconst C 0 dX9_calls_52 (by decide) ?_
          refine V_istore_n C dX9_calls_53 rfl ?_
          have lp : ∀ (d i : Nat) , i + d = q → V x (eA E) (AP x E (us σ 74 (callN i (σ 74)))) 0 0 54 [some (.ref (ad E 73)), some (.int (nI q)), some (.int (nI i))] [] := by
            intro d
            induction d with
            | zero =>
              intro i  hi' 
              have hN : i = q := by omega
              refine V_iload_n C dX9_calls_54 rfl ?_
              refine V_iload_n C dX9_calls_55 rfl ?_
              refine V_icmp_ge C dX9_calls_56 (fun c56 => ?_) (fun c56 => absurd (by rw [hN] <;> exact nI_le (Nat.le_refl _) (by omega)) c56)
              subst hN
              obtain ⟨z, hz1, hz2⟩ := set_n (f := callN i (σ 74)) (by rw [nh_1 (callN_GV hG hne i).2]; exact h8)
              refine V_aload_n C dX9_calls_92 rfl ?_
              refine V_cv C hE dX9_calls_93 (c_X9_coldSet) kyX9_coldSet q1110 (isoO 73 rfl rfl rfl rfl) rfl rfl rfl ?_
              try simp (disch := omega) only [us_us, us_s, us_n]
              try rw [us_s]
              refine V_st (st' := [.int (nI z)]) (by rw [hz2]) ?_
              refine V_cs C hE dX9_calls_96 (c_X9_ones hz1) kyX9_ones q1279 rfl rfl rfl ?_
              try simp (disch := omega) only [us_us, us_s, us_n]
              exact V_iretN C dX9_calls_99 hT (PQ_ok (by unfold S_calls; rw [if_pos c9, if_neg hns, hk_n (show i < 2 ^ 31 by omega), hz2, hk_n (show z < 2 ^ 31 by omega)]) rfl (by rw [hk_n (show i < 2 ^ 31 by omega)]; exact EqY.rf _))
            | succ d ih =>
              intro i  hi' 
              have hg := callN_GV hG hne i
              have hb := drw_b hg.1.1.1 (by rw [hg.2]; exact hne)
              have h8i := hg.1.1.1.2.1
              have hw2 := way2 (GV_drawF hg.1) (b := drwB (callN i (σ 74))) (by omega)
              refine V_iload_n C dX9_calls_54 rfl ?_
              refine V_iload_n C dX9_calls_55 rfl ?_
              refine V_icmp_ge C dX9_calls_56 (fun c56 => absurd c56 (nI_ge (by omega) (by omega))) (fun c56 => ?_)
              refine V_aload_n C dX9_calls_59 rfl ?_
              refine V_aload_n C dX9_calls_60 rfl ?_
              refine V_cv C hE dX9_calls_61 (c_X9_draw) kyX9_draw q1274 (isoO 73 rfl rfl rfl rfl) rfl rfl rfl ?_
              try simp (disch := omega) only [us_us, us_s, us_n]
              refine V_aload_n C dX9_calls_64 rfl ?_
              refine V_get C dX9_calls_65 (rdO (j := 0) 73 rfl rfl rfl rfl rfl) in_X9 (by decide) q907 rfl ?_
              refine V_iconst C 1 dX9_calls_68 (by decide) ?_
              refine V_iald C 1 rfl rfl rfl dX9_calls_69 (rdM 74 1 rfl rfl rfl) ?_
              try simp (disch := omega) only [us_us, us_s, us_n]
              refine V_irem C dX9_calls_70 (by rw [drawF_n (by omega), hg.2]; exact hne) ?_
              refine V_st (st' := [.int (nI (drwB (callN i (σ 74)))), .ref (ad E 73)]) (by rw [← hb.1, drawF_n (show (1:Nat) ≠ 7 by omega)]) ?_
              refine V_cv0 C hE dX9_calls_71 (c_X9_sends (b := drwB (callN i (σ 74))) (by simp (disch := omega) only [us_us, us_s, us_n]; exact (GV_drawF hg.1).2.2.1) (by simp (disch := omega) only [us_us, us_s, us_n]; exact (GV_drawF hg.1).2.2.2) (by omega)) kyX9_sends q1073 (isoO 73 rfl rfl rfl rfl) rfl rfl rfl ?_
              try simp (disch := omega) only [us_us, us_s, us_n]
              refine V_aload_n C dX9_calls_74 rfl ?_
              refine V_aload_n C dX9_calls_75 rfl ?_
              refine V_get C dX9_calls_76 (rdO (j := 0) 73 rfl rfl rfl rfl rfl) in_X9 (by decide) q907 rfl ?_
              refine V_iconst C 3 dX9_calls_79 (by decide) ?_
              refine V_iald C 3 rfl rfl rfl dX9_calls_80 (rdM 74 3 rfl rfl rfl) ?_
              try simp (disch := omega) only [us_us, us_s, us_n]
              refine V_iconst C 2 dX9_calls_81 (by decide) ?_
              refine V_iadd C dX9_calls_82 ?_
              try simp only [goF_3]
              refine V_st (st' := [.int (nI (hk (wayF (drawF (callN i (σ 74))) (hx (drawF (callN i (σ 74)))) (drwB (callN i (σ 74))) + 2))), .ref (ad E 73)]) (by rw [← hw2.1]) ?_
              refine V_cv0 C hE dX9_calls_83 (c_X9_quartersGo (n := hk (wayF (drawF (callN i (σ 74))) (hx (drawF (callN i (σ 74)))) (drwB (callN i (σ 74))) + 2)) (by simp (disch := omega) only [us_us, us_s, us_n]; exact (GV_goF (GV_drawF hg.1) (by omega)).1) (by simp (disch := omega) only [us_us, us_s, us_n]; exact hz) (by omega)) kyX9_quartersGo q1090 (isoO 73 rfl rfl rfl rfl) rfl rfl rfl ?_
              try simp (disch := omega) only [us_us, us_s, us_n]
              refine V_iinc C 1 dX9_calls_86 rfl (by decide) rfl ?_
              refine V_goto C dX9_calls_89 ?_
              exact V_nx rfl (by simp [← nI_1] <;> rfl) (ih (i + 1) (by omega))
          exact V_nx (us_id σ 74).symm rfl (lp q 0 (by omega))
        · refine V_aload_n C dX9_calls_45 rfl ?_
          refine V_ldc C dX9_calls_46 q1056 ?_
          refine V_cv C hE dX9_calls_48 (c_X9_finds (j := 4) (by decide +kernel) (by omega)) kyX9_finds q995 (isoO 73 rfl rfl rfl rfl) rfl rfl rfl ?_
          exact V_iretN C dX9_calls_51 hT (PQ_fail (by decide +kernel) (by unfold S_calls; rw [if_pos c9, if_pos (by first | exact Or.inl c23 | exact Or.inr (Or.inl c32) | exact Or.inr (Or.inr c42))]) (EqY.rf σ))
  · refine V_aload_n C dX9_calls_12 rfl ?_
    refine V_ldc C dX9_calls_13 q994 ?_
    refine V_cv C hE dX9_calls_15 (c_X9_finds (j := 0) (by decide +kernel) (by omega)) kyX9_finds q995 (isoO 73 rfl rfl rfl rfl) rfl rfl rfl ?_
    exact V_iretN C dX9_calls_18 hT (PQ_fail (by decide +kernel) (by unfold S_calls; rw [if_neg c9]) (EqY.rf σ))

theorem c_X8_calls {l : Launch} {E : En} {σ : Sg} {p0 : Int32}  (hG : GV (σ 0)) : MN l yX8_calls cX8_calls 4 (some .int) rmX8_calls E [.ref (ad E 60), .int p0] σ (PX σ (S_calls (σ 0) p0) (callN (hk p0) (σ 0))) := by
  refine MN_of (by decide +kernel) rfl fun x C hE hT hcan => ?_
  have C : CX x cX8_calls RX8 rmX8_calls := C
  have h8 := (hcan.1 0 (by omega)).2.1
  refine V_L (L' := [some (.ref (ad E 60)), some (.int p0), none, none]) rfl ?_
  refine V_iload_n C dX8_calls_0 rfl ?_
  refine V_iconst C 1 dX8_calls_1 (by decide) ?_
  refine V_bipush C 12 dX8_calls_2 (by decide) ?_
  refine V_cs C hE dX8_calls_4 (c_X8_within) kyX8_within q270 rfl rfl rfl ?_
  refine V_ifne_b C dX8_calls_7 (fun c7 => ?_) (fun c7 => ?_)
  · refine V_aload_n C dX8_calls_16 rfl ?_
    refine V_sipush C 8500 dX8_calls_17 (by decide) ?_
    refine V_cv C hE dX8_calls_20 (c_X8_cannotStart) kyX8_cannotStart q472 (isoO 60 rfl rfl rfl rfl) rfl rfl rfl ?_
    refine V_ifeq_b C dX8_calls_23 (fun c23 => ?_) (fun c23 => ?_)
    · have hne : ¬ σ 0 1 = 0 := fun e => c23 (Or.inr (Or.inl e))
      obtain ⟨q, rfl, hq⟩ := i32_le (m := 12) (by omega) (Int32.le_trans (by decide) c7.1) c7.2
      refine V_iconst C 0 dX8_calls_32 (by decide) ?_
      refine V_istore_n C dX8_calls_33 rfl ?_
      have lp : ∀ (d i : Nat) , i + d = q → V x (eA E) (AP x E (us σ 0 (callN i (σ 0)))) 0 0 34 [some (.ref (ad E 60)), some (.int (nI q)), some (.int (nI i)), none] [] := by
        intro d
        induction d with
        | zero =>
          intro i  hi' 
          have hN : i = q := by omega
          refine V_iload_n C dX8_calls_34 rfl ?_
          refine V_iload_n C dX8_calls_35 rfl ?_
          refine V_icmp_ge C dX8_calls_36 (fun c36 => ?_) (fun c36 => absurd (by rw [hN] <;> exact nI_le (Nat.le_refl _) (by omega)) c36)
          subst hN
          obtain ⟨z, hz1, hz2⟩ := set_n (f := callN i (σ 0)) (by rw [nh_1 (callN_GV hG hne i).2]; exact h8)
          refine V_aload_n C dX8_calls_92 rfl ?_
          refine V_get C dX8_calls_93 (rdX8_live) in_X8 (by decide) q232 rfl ?_
          refine V_cv C hE dX8_calls_96 (c_X5_coldSet (v := 0) (by omega)) kyX5_coldSet q423 (isoV (by first | assumption | omega)) rfl rfl rfl ?_
          try simp (disch := omega) only [us_us, us_s, us_n]
          try rw [us_s]
          refine V_st (st' := [.int (nI z)]) (by rw [hz2]) ?_
          refine V_co C hE dX8_calls_99 (c_bitCount hz1) kyJ6_bitCount_0f7a4 q644 rfl rfl rfl ?_
          exact V_iretN C dX8_calls_102 hT (PX_ok (by unfold S_calls; rw [if_pos c7, if_neg c23, hk_n (show i < 2 ^ 31 by omega), hz2, hk_n (show z < 2 ^ 31 by omega)]) (by rw [hk_n (show i < 2 ^ 31 by omega)]; exact EqX.rf _))
        | succ d ih =>
          intro i  hi' 
          have hg := callN_GV hG hne i
          have hb := drw_b hg.1.1.1 (by rw [hg.2]; exact hne)
          have h8i := hg.1.1.1.2.1
          have hw2 := way2 (GV_drawF hg.1) (b := drwB (callN i (σ 0))) (by omega)
          refine V_iload_n C dX8_calls_34 rfl ?_
          refine V_iload_n C dX8_calls_35 rfl ?_
          refine V_icmp_ge C dX8_calls_36 (fun c36 => absurd c36 (nI_ge (by omega) (by omega))) (fun c36 => ?_)
          refine V_aload_n C dX8_calls_39 rfl ?_
          refine V_get C dX8_calls_40 (rdX8_live) in_X8 (by decide) q232 rfl ?_
          refine V_getN C hE.nw dX8_calls_43 (rdV (by first | assumption | omega) 3 1 rfl rfl rfl) in_X5 (by decide) q133 rfl ?_
          refine V_if_le C dX8_calls_46 (fun c46 => absurd c46 (by rw [us_s, hg.1.1.1.1]; exact nI_nle (by omega) (by omega))) (fun c46 => ?_)
          refine V_aload_n C dX8_calls_49 rfl ?_
          refine V_get C dX8_calls_50 (rdX8_live) in_X8 (by decide) q232 rfl ?_
          refine V_cv C hE dX8_calls_53 (c_X5_draw (v := 0) (by omega)) kyX5_draw q639 (isoV (by first | assumption | omega)) rfl rfl rfl ?_
          try simp (disch := omega) only [us_us, us_s, us_n]
          refine V_aload_n C dX8_calls_56 rfl ?_
          refine V_get C dX8_calls_57 (rdX8_live) in_X8 (by decide) q232 rfl ?_
          refine V_getN C hE.nw dX8_calls_60 (rdV (by first | assumption | omega) 3 1 rfl rfl rfl) in_X5 (by decide) q133 rfl ?_
          refine V_irem C dX8_calls_63 (by rw [us_s, drawF_n (by omega), hg.2]; exact hne) ?_
          refine V_goto C dX8_calls_64 ?_
          try simp (disch := omega) only [us_us, us_s, us_n]
          refine V_st (st' := [.int (nI (drwB (callN i (σ 0))))]) (by rw [← hb.1, drawF_n (show (1:Nat) ≠ 7 by omega)]) ?_
          refine V_istore_n C dX8_calls_68 rfl ?_
          refine V_aload_n C dX8_calls_69 rfl ?_
          refine V_get C dX8_calls_70 (rdX8_live) in_X8 (by decide) q232 rfl ?_
          refine V_aload_n C dX8_calls_73 rfl ?_
          refine V_get C dX8_calls_74 (rdX8_live) in_X8 (by decide) q232 rfl ?_
          refine V_iload_n C dX8_calls_77 rfl ?_
          refine V_cv C hE dX8_calls_78 (c_X5_go (v := 0) (b := drwB (callN i (σ 0))) (by omega) (by simp (disch := omega) only [us_us, us_s, us_n]; exact (GV_drawF hg.1).2.2.1) (by simp (disch := omega) only [us_us, us_s, us_n]; exact (GV_drawF hg.1).2.2.2) (by omega)) kyX5_go q368 (isoV (by first | assumption | omega)) rfl rfl rfl ?_
          try simp (disch := omega) only [us_us, us_s, us_n]
          refine V_iconst C 2 dX8_calls_81 (by decide) ?_
          refine V_iadd C dX8_calls_82 ?_
          try simp (disch := omega) only [us_us, us_s, us_n]
          refine V_st (st' := [.int (nI (hk (wayF (drawF (callN i (σ 0))) (hx (drawF (callN i (σ 0)))) (drwB (callN i (σ 0))) + 2))), .ref (ad E (vb 0))]) (by rw [← hw2.1]) ?_
          refine V_cv0 C hE dX8_calls_83 (c_X5_pass (v := 0) (n := hk (wayF (drawF (callN i (σ 0))) (hx (drawF (callN i (σ 0)))) (drwB (callN i (σ 0))) + 2)) (by omega) (by omega) (by simp (disch := omega) only [us_us, us_s, us_n]; exact (GV_goF (GV_drawF hg.1) (by omega)).1)) kyX5_pass q386 (isoV (by first | assumption | omega)) rfl rfl rfl ?_
          try simp (disch := omega) only [us_us, us_s, us_n]
          refine V_forget 3 ?_
          refine V_iinc C 1 dX8_calls_86 rfl (by decide) rfl ?_
          refine V_goto C dX8_calls_89 ?_
          exact V_nx rfl (by simp [← nI_1] <;> rfl) (ih (i + 1) (by omega))
      exact V_nx (us_id σ 0).symm rfl (lp q 0 (by omega))
    · refine V_aload_n C dX8_calls_26 rfl ?_
      refine V_iconst C 4 dX8_calls_27 (by decide) ?_
      refine V_cv C hE dX8_calls_28 (c_X8_fail (j := 4) (by omega)) kyX8_fail q273 (isoO 60 rfl rfl rfl rfl) rfl rfl rfl ?_
      exact V_iretN C dX8_calls_31 hT (PX_fail (by unfold S_calls; all_goals (first | rw [if_pos c7] | rw [if_neg c7]); all_goals (first | rw [if_pos c23] | rw [if_neg c23])) (EqX.rf σ))
  · refine V_aload_n C dX8_calls_10 rfl ?_
    refine V_iconst C 0 dX8_calls_11 (by decide) ?_
    refine V_cv C hE dX8_calls_12 (c_X8_fail (j := 0) (by omega)) kyX8_fail q273 (isoO 60 rfl rfl rfl rfl) rfl rfl rfl ?_
    exact V_iretN C dX8_calls_15 hT (PX_fail (by unfold S_calls; all_goals (first | rw [if_pos c7] | rw [if_neg c7])) (EqX.rf σ))

