/-! THE LAW'S START: the tables' numbers, the texts, the JDK's statics -/
def tmT (i : Nat) : Term := .string RX2 (idxTx.getD i 0)
theorem lw_sr : ∀ i, i < nTx → Cond.stringRef RX2 (idxTx.getD i 0) (txTx.getD i "") ∈ lw_tbl := by decide +kernel
theorem law_K {s : State} {args : Array Value} (hts : ∀ w ∈ lw_tbl, w.before args s = true) : ∃ (D : va_G) (cI cH cS : ClassId), va_K D classes [(cI, .int), (cH, .object RX1), (cS, .object RX3)] s := by
  have hg : ∀ w ∈ lw_gd, w.before args s = true := fun w hw => hts w (lw_gd_sub w hw)
  obtain ⟨c0, i0, h0⟩ := u_known (C := RX0) (T := TX0) (N := 2) (n := 2) hg in_X0 (hts (.instantiable RX0 2) (by decide +kernel))
  obtain ⟨c1, i1, h1⟩ := u_known (C := RX1) (T := TX1) (N := 6) (n := 6) hg in_X1 (hts (.instantiable RX1 6) (by decide +kernel))
  obtain ⟨c2, i2, h2⟩ := u_known (C := RX2) (T := TX2) (N := 7) (n := 7) hg in_X2 (hts (.instantiable RX2 7) (by decide +kernel))
  obtain ⟨c3, i3, h3⟩ := u_known (C := RX3) (T := TX3) (N := 3) (n := 3) hg in_X3 (hts (.instantiable RX3 3) (by decide +kernel))
  obtain ⟨c4, i4, h4⟩ := u_known (C := RX4) (T := TX4) (N := 2) (n := 2) hg in_X4 (hts (.instantiable RX4 2) (by decide +kernel))
  obtain ⟨c5, i5, h5⟩ := u_known (C := RX5) (T := TX5) (N := 13) (n := 13) hg in_X5 (hts (.instantiable RX5 13) (by decide +kernel))
  obtain ⟨c6, i6, h6⟩ := u_known (C := RX6) (T := TX6) (N := 2) (n := 2) hg in_X6 (hts (.instantiable RX6 2) (by decide +kernel))
  obtain ⟨c8, i8, h8⟩ := u_known (C := RX8) (T := TX8) (N := 11) (n := 11) hg in_X8 (hts (.instantiable RX8 11) (by decide +kernel))
  obtain ⟨c9, i9, h9⟩ := u_known (C := RX9) (T := TX9) (N := 26) (n := 26) hg in_X9 (hts (.instantiable RX9 26) (by decide +kernel))
  obtain ⟨c7, k7, kp7, f7, -, g7, -, -, o7, -⟩ := Cond.superclass_spec h6.2.1 (hts (.superclass RX6 RX7) (by decide +kernel))
  have h7 : u_Kn s RX7 TX7 0 c7 (fun _ => 0) := ⟨fun k hk => absurd hk (Nat.not_lt_zero k), f7, kp7, g7, o7⟩
  obtain ⟨cI, kI, cmpI, a1, a2, a3⟩ := Cond.arrayClass_spec (hts (.arrayClass .int) (by decide +kernel))
  obtain ⟨cmpH, cH, kH, b1, -, b3, b4, b5⟩ := Cond.arrayOver_spec (hts (.arrayOver (.object RX1)) (by decide +kernel))
  obtain ⟨cmpS, cS, kS, d1, -, d3, d4, d5⟩ := Cond.arrayOver_spec (hts (.arrayOver (.object RX3)) (by decide +kernel))
  refine ⟨(fun k => match k with | 0 => c0 | 1 => c1 | 2 => c2 | 3 => c3 | 4 => c4 | 5 => c5 | 6 => c6 | 7 => c7 | 8 => c8 | _ => c9, fun k => match k with | 0 => i0 | 1 => i1 | 2 => i2 | 3 => i3 | 4 => i4 | 5 => i5 | 6 => i6 | 7 => (fun _ => 0) | 8 => i8 | _ => i9), cI, cH, cS, fun k q hq => ?_, fun k q hq => ?_⟩
  · match k, hq with
    | 0, hq => cases hq; exact h0
    | 1, hq => cases hq; exact h1
    | 2, hq => cases hq; exact h2
    | 3, hq => cases hq; exact h3
    | 4, hq => cases hq; exact h4
    | 5, hq => cases hq; exact h5
    | 6, hq => cases hq; exact h6
    | 7, hq => cases hq; exact h7
    | 8, hq => cases hq; exact h8
    | 9, hq => cases hq; exact h9
    | k + 10, hq => simp [classes] at hq
  · match k, hq with
    | 0, hq => cases hq; exact ⟨fun N z => ⟨(fun k h => by cases h), kI, a2, cmpI, a3⟩, a1⟩
    | 1, hq => cases hq; exact ⟨fun N z => ⟨(fun k h => by cases h), kH, b3, cmpH, b4⟩, kH, cmpH, b3, b4, b1, b5⟩
    | 2, hq => cases hq; exact ⟨fun N z => ⟨(fun k h => by cases h), kS, d3, cmpS, d4⟩, kS, cmpS, d3, d4, d1, d5⟩
    | k + 3, hq => simp at hq
theorem law_X {s : State} {args : Array Value} (hts : ∀ w ∈ lw_tbl, w.before args s = true) (hgv : (Jvm.Cond.and given_1 narrow_1).before args s = true) {A : Nat → Prop} (hA : ∀ a : Nat, a < s.heap.size → ¬ A a) : ∃ adK adV : Nat → Nat, vk_S nTx lenTx bytTx adK adV A s s.heap ∧ (∀ i, i < nTx → vk_R RX2 (idxTx.getD i 0) (txTx.getD i "") (adK i) s) ∧ va_Z "java/lang/String" "COMPACT_STRINGS" "Z" (.int 1) A s s.heap ∧ va_Zq "jdk/internal/util/Preconditions" "SIOOBE_FORMATTER" "Ljava/util/function/BiFunction;" A s s.heap ∧ NW s := by
  have hs := flat_of_before _ hgv
  obtain ⟨adK, adV, hS, hev⟩ := vk_Sof (args := args) (s := s) (N := nTx) (tm := tmT) (len := lenTx) (byt := bytTx) (A := A) (by decide +kernel) (fun i hi => hs _ (by revert i; decide +kernel)) (fun i hi => hs _ (by revert i; decide +kernel)) (fun i hi => hs _ (by revert i; decide +kernel)) (fun i hi => hs _ (by revert i; decide +kernel)) (fun i hi j hj => hs _ (by revert j; revert i; decide +kernel)) (fun i j hi hj hij => (Nat.lt_or_gt_of_ne hij).elim (fun q => Or.inl (hs _ (by clear hij; revert j; revert i; decide +kernel))) (fun q => Or.inr (hs _ (by clear hij; revert j; revert i; decide +kernel)))) hA
  refine ⟨adK, adV, hS, fun i hi => vk_R.of (A := args) (hts _ (lw_sr i hi)) (hev i hi), va_Zof (hts (.laysStatic "java/lang/String" "COMPACT_STRINGS" "Z") (by decide +kernel)) (hts (.initialized "java/lang/String") (by decide +kernel)) (va_eqt (hs _ (by decide +kernel))) hA, va_Zqof (hts (.laysStatic "jdk/internal/util/Preconditions" "SIOOBE_FORMATTER" "Ljava/util/function/BiFunction;") (by decide +kernel)) (hts (.initialized "jdk/internal/util/Preconditions") (by decide +kernel)) (hs _ (by decide +kernel)) hA, ?_⟩
  intro w hw
  have hn := (List.mem_filter.mp hw).2
  have h1 := hts w (List.mem_filter.mp hw).1
  cases w <;> first | (cases hn; done) | exact va_Nw.of rfl h1
