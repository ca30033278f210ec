theorem c_X8_sheet {l : Launch} {E : En} {σ : Sg} {p0 p1 p2 : Int32}  : MN l yX8_sheet cX8_sheet 5 (some .int) rmX8_sheet E [.ref (ad E 60), .int p0, .int p1, .int p2] σ (PZ σ (S_sheet p0 p1 p2) (N_sheet σ (hk p0) p1 p2)) := by
  refine MN_of (by decide +kernel) rfl fun x C hE hT hcan => ?_
  have C : CX x cX8_sheet RX8 rmX8_sheet := C
  refine V_L (L' := [some (.ref (ad E 60)), some (.int p0), some (.int p1), some (.int p2), none]) rfl ?_
  refine V_aload_n C dX8_sheet_0 rfl ?_
  refine V_iload_n C dX8_sheet_1 rfl ?_
  by_cases hq : inP p0 0 3
  · obtain ⟨s, rfl, hs3⟩ := i32_le (m := 3) (by omega) hq.1 hq.2
    have hs : s < 4 := by omega
    refine V_cv C hE dX8_sheet_2 (c_X8_sheetAt hs) kyX8_sheetAt q810 (isoO 60 rfl rfl rfl rfl) rfl rfl rfl ?_
    refine V_astore C dX8_sheet_5 rfl ?_
    refine V_aload C dX8_sheet_7 rfl ?_
    refine V_ifnull C dX8_sheet_9 ?_
    refine V_iload_n C dX8_sheet_12 rfl ?_
    refine V_if_eq C dX8_sheet_13 (fun c13 => ?_) (fun c13 => ?_)
    · have hb : p1 = 0 ∨ p1 = 8 ∨ p1 = 16 ∨ p1 = 32 := (by first | exact Or.inl c13 | exact Or.inr (Or.inl c19) | exact Or.inr (Or.inr (Or.inl c25)) | exact Or.inr (Or.inr (Or.inr c31)))
      refine V_iload_n C dX8_sheet_40 rfl ?_
      refine V_if_ge C dX8_sheet_41 (fun c41 => ?_) (fun c41 => ?_)
      · refine V_iload_n C dX8_sheet_51 rfl ?_
        refine V_bipush C 40 dX8_sheet_52 (by decide) ?_
        refine V_icmp_le C dX8_sheet_54 (fun c54 => ?_) (fun c54 => ?_)
        · refine V_aload C dX8_sheet_63 rfl ?_
          refine V_iload_n C dX8_sheet_65 rfl ?_
          refine V_iload_n C dX8_sheet_66 rfl ?_
          refine V_if_ne C dX8_sheet_67 (fun c67 => ?_) (fun c67 => ?_)
          · refine V_iload_n C dX8_sheet_74 rfl ?_
            refine V_cv0 C hE dX8_sheet_75 (c_X3_begin hs) kyX3_begin q814 (isoSh (by first | assumption | omega)) rfl rfl rfl ?_
            refine V_aload C dX8_sheet_78 rfl ?_
            refine V_getN C hE.nw dX8_sheet_80 (rdShL (by first | assumption | omega)) in_X3 (by decide) q224 rfl ?_
            have hsn : shc s ≠ nmc s := by unfold nmc shc; omega
            rw [us_n hsn, us_s, upd_s]
            exact V_iretN C dX8_sheet_83 hT (PZ_ok (by unfold S_sheet; rw [if_pos hq, if_pos hb, if_neg (Int32.not_lt.mpr c41), if_pos c54]; first | rw [if_pos c67] | rw [if_neg c67]) (by unfold N_sheet; rw [us_n (by unfold nmc; omega), us_n (by unfold shc; omega)]) (by unfold N_sheet; rw [hk_n (show s < 2 ^ 31 by omega)]; first | (rw [if_pos c67]; exact EqX.rf _) | (rw [if_neg c67]; exact EqX.rf _)))
          · refine V_iconst C 0 dX8_sheet_70 (by decide) ?_
            refine V_goto C dX8_sheet_71 ?_
            refine V_cv0 C hE dX8_sheet_75 (c_X3_begin hs) kyX3_begin q814 (isoSh (by first | assumption | omega)) rfl rfl rfl ?_
            refine V_aload C dX8_sheet_78 rfl ?_
            refine V_getN C hE.nw dX8_sheet_80 (rdShL (by first | assumption | omega)) in_X3 (by decide) q224 rfl ?_
            have hsn : shc s ≠ nmc s := by unfold nmc shc; omega
            rw [us_n hsn, us_s, upd_s]
            exact V_iretN C dX8_sheet_83 hT (PZ_ok (by unfold S_sheet; rw [if_pos hq, if_pos hb, if_neg (Int32.not_lt.mpr c41), if_pos c54]; first | rw [if_pos c67] | rw [if_neg c67]) (by unfold N_sheet; rw [us_n (by unfold nmc; omega), us_n (by unfold shc; omega)]) (by unfold N_sheet; rw [hk_n (show s < 2 ^ 31 by omega)]; first | (rw [if_pos c67]; exact EqX.rf _) | (rw [if_neg c67]; exact EqX.rf _)))
        · refine V_aload_n C dX8_sheet_57 rfl ?_
          refine V_iconst C 0 dX8_sheet_58 (by decide) ?_
          refine V_cv C hE dX8_sheet_59 (c_X8_fail (j := 0) (by omega)) kyX8_fail q273 (isoO 60 rfl rfl rfl rfl) rfl rfl rfl ?_
          exact V_iretN C dX8_sheet_62 hT (PZ_fail (by unfold S_sheet; rw [if_pos hq, if_pos hb, if_neg (Int32.not_lt.mpr c41), if_neg c54]) (EqX.rf σ))
      · refine V_aload_n C dX8_sheet_44 rfl ?_
        refine V_bipush C 6 dX8_sheet_45 (by decide) ?_
        refine V_cv C hE dX8_sheet_47 (c_X8_fail (j := 6) (by omega)) kyX8_fail q273 (isoO 60 rfl rfl rfl rfl) rfl rfl rfl ?_
        exact V_iretN C dX8_sheet_50 hT (PZ_fail (by unfold S_sheet; rw [if_pos hq, if_pos hb, if_pos (Int32.not_le.mp c41)]) (EqX.rf σ))
    · refine V_iload_n C dX8_sheet_16 rfl ?_
      refine V_bipush C 8 dX8_sheet_17 (by decide) ?_
      refine V_icmp_eq C dX8_sheet_19 (fun c19 => ?_) (fun c19 => ?_)
      · have hb : p1 = 0 ∨ p1 = 8 ∨ p1 = 16 ∨ p1 = 32 := (by first | exact Or.inl c13 | exact Or.inr (Or.inl c19) | exact Or.inr (Or.inr (Or.inl c25)) | exact Or.inr (Or.inr (Or.inr c31)))
        refine V_iload_n C dX8_sheet_40 rfl ?_
        refine V_if_ge C dX8_sheet_41 (fun c41 => ?_) (fun c41 => ?_)
        · refine V_iload_n C dX8_sheet_51 rfl ?_
          refine V_bipush C 40 dX8_sheet_52 (by decide) ?_
          refine V_icmp_le C dX8_sheet_54 (fun c54 => ?_) (fun c54 => ?_)
          · refine V_aload C dX8_sheet_63 rfl ?_
            refine V_iload_n C dX8_sheet_65 rfl ?_
            refine V_iload_n C dX8_sheet_66 rfl ?_
            refine V_if_ne C dX8_sheet_67 (fun c67 => ?_) (fun c67 => ?_)
            · refine V_iload_n C dX8_sheet_74 rfl ?_
              refine V_cv0 C hE dX8_sheet_75 (c_X3_begin hs) kyX3_begin q814 (isoSh (by first | assumption | omega)) rfl rfl rfl ?_
              refine V_aload C dX8_sheet_78 rfl ?_
              refine V_getN C hE.nw dX8_sheet_80 (rdShL (by first | assumption | omega)) in_X3 (by decide) q224 rfl ?_
              have hsn : shc s ≠ nmc s := by unfold nmc shc; omega
              rw [us_n hsn, us_s, upd_s]
              exact V_iretN C dX8_sheet_83 hT (PZ_ok (by unfold S_sheet; rw [if_pos hq, if_pos hb, if_neg (Int32.not_lt.mpr c41), if_pos c54]; first | rw [if_pos c67] | rw [if_neg c67]) (by unfold N_sheet; rw [us_n (by unfold nmc; omega), us_n (by unfold shc; omega)]) (by unfold N_sheet; rw [hk_n (show s < 2 ^ 31 by omega)]; first | (rw [if_pos c67]; exact EqX.rf _) | (rw [if_neg c67]; exact EqX.rf _)))
            · refine V_iconst C 0 dX8_sheet_70 (by decide) ?_
              refine V_goto C dX8_sheet_71 ?_
              refine V_cv0 C hE dX8_sheet_75 (c_X3_begin hs) kyX3_begin q814 (isoSh (by first | assumption | omega)) rfl rfl rfl ?_
              refine V_aload C dX8_sheet_78 rfl ?_
              refine V_getN C hE.nw dX8_sheet_80 (rdShL (by first | assumption | omega)) in_X3 (by decide) q224 rfl ?_
              have hsn : shc s ≠ nmc s := by unfold nmc shc; omega
              rw [us_n hsn, us_s, upd_s]
              exact V_iretN C dX8_sheet_83 hT (PZ_ok (by unfold S_sheet; rw [if_pos hq, if_pos hb, if_neg (Int32.not_lt.mpr c41), if_pos c54]; first | rw [if_pos c67] | rw [if_neg c67]) (by unfold N_sheet; rw [us_n (by unfold nmc; omega), us_n (by unfold shc; omega)]) (by unfold N_sheet; rw [hk_n (show s < 2 ^ 31 by omega)]; first | (rw [if_pos c67]; exact EqX.rf _) | (rw [if_neg c67]; exact EqX.rf _)))
          · refine V_aload_n C dX8_sheet_57 rfl ?_
            refine V_iconst C 0 dX8_sheet_58 (by decide) ?_
            refine V_cv C hE dX8_sheet_59 (c_X8_fail (j := 0) (by omega)) kyX8_fail q273 (isoO 60 rfl rfl rfl rfl) rfl rfl rfl ?_
            exact V_iretN C dX8_sheet_62 hT (PZ_fail (by unfold S_sheet; rw [if_pos hq, if_pos hb, if_neg (Int32.not_lt.mpr c41), if_neg c54]) (EqX.rf σ))
        · refine V_aload_n C dX8_sheet_44 rfl ?_
          refine V_bipush C 6 dX8_sheet_45 (by decide) ?_
          refine V_cv C hE dX8_sheet_47 (c_X8_fail (j := 6) (by omega)) kyX8_fail q273 (isoO 60 rfl rfl rfl rfl) rfl rfl rfl ?_
          exact V_iretN C dX8_sheet_50 hT (PZ_fail (by unfold S_sheet; rw [if_pos hq, if_pos hb, if_pos (Int32.not_le.mp c41)]) (EqX.rf σ))
      · refine V_iload_n C dX8_sheet_22 rfl ?_
        refine V_bipush C 16 dX8_sheet_23 (by decide) ?_
        refine V_icmp_eq C dX8_sheet_25 (fun c25 => ?_) (fun c25 => ?_)
        · have hb : p1 = 0 ∨ p1 = 8 ∨ p1 = 16 ∨ p1 = 32 := (by first | exact Or.inl c13 | exact Or.inr (Or.inl c19) | exact Or.inr (Or.inr (Or.inl c25)) | exact Or.inr (Or.inr (Or.inr c31)))
          refine V_iload_n C dX8_sheet_40 rfl ?_
          refine V_if_ge C dX8_sheet_41 (fun c41 => ?_) (fun c41 => ?_)
          · refine V_iload_n C dX8_sheet_51 rfl ?_
            refine V_bipush C 40 dX8_sheet_52 (by decide) ?_
            refine V_icmp_le C dX8_sheet_54 (fun c54 => ?_) (fun c54 => ?_)
            · refine V_aload C dX8_sheet_63 rfl ?_
              refine V_iload_n C dX8_sheet_65 rfl ?_
              refine V_iload_n C dX8_sheet_66 rfl ?_
              refine V_if_ne C dX8_sheet_67 (fun c67 => ?_) (fun c67 => ?_)
              · refine V_iload_n C dX8_sheet_74 rfl ?_
                refine V_cv0 C hE dX8_sheet_75 (c_X3_begin hs) kyX3_begin q814 (isoSh (by first | assumption | omega)) rfl rfl rfl ?_
                refine V_aload C dX8_sheet_78 rfl ?_
                refine V_getN C hE.nw dX8_sheet_80 (rdShL (by first | assumption | omega)) in_X3 (by decide) q224 rfl ?_
                have hsn : shc s ≠ nmc s := by unfold nmc shc; omega
                rw [us_n hsn, us_s, upd_s]
                exact V_iretN C dX8_sheet_83 hT (PZ_ok (by unfold S_sheet; rw [if_pos hq, if_pos hb, if_neg (Int32.not_lt.mpr c41), if_pos c54]; first | rw [if_pos c67] | rw [if_neg c67]) (by unfold N_sheet; rw [us_n (by unfold nmc; omega), us_n (by unfold shc; omega)]) (by unfold N_sheet; rw [hk_n (show s < 2 ^ 31 by omega)]; first | (rw [if_pos c67]; exact EqX.rf _) | (rw [if_neg c67]; exact EqX.rf _)))
              · refine V_iconst C 0 dX8_sheet_70 (by decide) ?_
                refine V_goto C dX8_sheet_71 ?_
                refine V_cv0 C hE dX8_sheet_75 (c_X3_begin hs) kyX3_begin q814 (isoSh (by first | assumption | omega)) rfl rfl rfl ?_
                refine V_aload C dX8_sheet_78 rfl ?_
                refine V_getN C hE.nw dX8_sheet_80 (rdShL (by first | assumption | omega)) in_X3 (by decide) q224 rfl ?_
                have hsn : shc s ≠ nmc s := by unfold nmc shc; omega
                rw [us_n hsn, us_s, upd_s]
                exact V_iretN C dX8_sheet_83 hT (PZ_ok (by unfold S_sheet; rw [if_pos hq, if_pos hb, if_neg (Int32.not_lt.mpr c41), if_pos c54]; first | rw [if_pos c67] | rw [if_neg c67]) (by unfold N_sheet; rw [us_n (by unfold nmc; omega), us_n (by unfold shc; omega)]) (by unfold N_sheet; rw [hk_n (show s < 2 ^ 31 by omega)]; first | (rw [if_pos c67]; exact EqX.rf _) | (rw [if_neg c67]; exact EqX.rf _)))
            · refine V_aload_n C dX8_sheet_57 rfl ?_
              refine V_iconst C 0 dX8_sheet_58 (by decide) ?_
              refine V_cv C hE dX8_sheet_59 (c_X8_fail (j := 0) (by omega)) kyX8_fail q273 (isoO 60 rfl rfl rfl rfl) rfl rfl rfl ?_
              exact V_iretN C dX8_sheet_62 hT (PZ_fail (by unfold S_sheet; rw [if_pos hq, if_pos hb, if_neg (Int32.not_lt.mpr c41), if_neg c54]) (EqX.rf σ))
          · refine V_aload_n C dX8_sheet_44 rfl ?_
            refine V_bipush C 6 dX8_sheet_45 (by decide) ?_
            refine V_cv C hE dX8_sheet_47 (c_X8_fail (j := 6) (by omega)) kyX8_fail q273 (isoO 60 rfl rfl rfl rfl) rfl rfl rfl ?_
            exact V_iretN C dX8_sheet_50 hT (PZ_fail (by unfold S_sheet; rw [if_pos hq, if_pos hb, if_pos (Int32.not_le.mp c41)]) (EqX.rf σ))
        · refine V_iload_n C dX8_sheet_28 rfl ?_
          refine V_bipush C 32 dX8_sheet_29 (by decide) ?_
          refine V_icmp_eq C dX8_sheet_31 (fun c31 => ?_) (fun c31 => ?_)
          · have hb : p1 = 0 ∨ p1 = 8 ∨ p1 = 16 ∨ p1 = 32 := (by first | exact Or.inl c13 | exact Or.inr (Or.inl c19) | exact Or.inr (Or.inr (Or.inl c25)) | exact Or.inr (Or.inr (Or.inr c31)))
            refine V_iload_n C dX8_sheet_40 rfl ?_
            refine V_if_ge C dX8_sheet_41 (fun c41 => ?_) (fun c41 => ?_)
            · refine V_iload_n C dX8_sheet_51 rfl ?_
              refine V_bipush C 40 dX8_sheet_52 (by decide) ?_
              refine V_icmp_le C dX8_sheet_54 (fun c54 => ?_) (fun c54 => ?_)
              · refine V_aload C dX8_sheet_63 rfl ?_
                refine V_iload_n C dX8_sheet_65 rfl ?_
                refine V_iload_n C dX8_sheet_66 rfl ?_
                refine V_if_ne C dX8_sheet_67 (fun c67 => ?_) (fun c67 => ?_)
                · refine V_iload_n C dX8_sheet_74 rfl ?_
                  refine V_cv0 C hE dX8_sheet_75 (c_X3_begin hs) kyX3_begin q814 (isoSh (by first | assumption | omega)) rfl rfl rfl ?_
                  refine V_aload C dX8_sheet_78 rfl ?_
                  refine V_getN C hE.nw dX8_sheet_80 (rdShL (by first | assumption | omega)) in_X3 (by decide) q224 rfl ?_
                  have hsn : shc s ≠ nmc s := by unfold nmc shc; omega
                  rw [us_n hsn, us_s, upd_s]
                  exact V_iretN C dX8_sheet_83 hT (PZ_ok (by unfold S_sheet; rw [if_pos hq, if_pos hb, if_neg (Int32.not_lt.mpr c41), if_pos c54]; first | rw [if_pos c67] | rw [if_neg c67]) (by unfold N_sheet; rw [us_n (by unfold nmc; omega), us_n (by unfold shc; omega)]) (by unfold N_sheet; rw [hk_n (show s < 2 ^ 31 by omega)]; first | (rw [if_pos c67]; exact EqX.rf _) | (rw [if_neg c67]; exact EqX.rf _)))
                · refine V_iconst C 0 dX8_sheet_70 (by decide) ?_
                  refine V_goto C dX8_sheet_71 ?_
                  refine V_cv0 C hE dX8_sheet_75 (c_X3_begin hs) kyX3_begin q814 (isoSh (by first | assumption | omega)) rfl rfl rfl ?_
                  refine V_aload C dX8_sheet_78 rfl ?_
                  refine V_getN C hE.nw dX8_sheet_80 (rdShL (by first | assumption | omega)) in_X3 (by decide) q224 rfl ?_
                  have hsn : shc s ≠ nmc s := by unfold nmc shc; omega
                  rw [us_n hsn, us_s, upd_s]
                  exact V_iretN C dX8_sheet_83 hT (PZ_ok (by unfold S_sheet; rw [if_pos hq, if_pos hb, if_neg (Int32.not_lt.mpr c41), if_pos c54]; first | rw [if_pos c67] | rw [if_neg c67]) (by unfold N_sheet; rw [us_n (by unfold nmc; omega), us_n (by unfold shc; omega)]) (by unfold N_sheet; rw [hk_n (show s < 2 ^ 31 by omega)]; first | (rw [if_pos c67]; exact EqX.rf _) | (rw [if_neg c67]; exact EqX.rf _)))
              · refine V_aload_n C dX8_sheet_57 rfl ?_
                refine V_iconst C 0 dX8_sheet_58 (by decide) ?_
                refine V_cv C hE dX8_sheet_59 (c_X8_fail (j := 0) (by omega)) kyX8_fail q273 (isoO 60 rfl rfl rfl rfl) rfl rfl rfl ?_
                exact V_iretN C dX8_sheet_62 hT (PZ_fail (by unfold S_sheet; rw [if_pos hq, if_pos hb, if_neg (Int32.not_lt.mpr c41), if_neg c54]) (EqX.rf σ))
            · refine V_aload_n C dX8_sheet_44 rfl ?_
              refine V_bipush C 6 dX8_sheet_45 (by decide) ?_
              refine V_cv C hE dX8_sheet_47 (c_X8_fail (j := 6) (by omega)) kyX8_fail q273 (isoO 60 rfl rfl rfl rfl) rfl rfl rfl ?_
              exact V_iretN C dX8_sheet_50 hT (PZ_fail (by unfold S_sheet; rw [if_pos hq, if_pos hb, if_pos (Int32.not_le.mp c41)]) (EqX.rf σ))
          · refine V_aload_n C dX8_sheet_34 rfl ?_
            refine V_iconst C 0 dX8_sheet_35 (by decide) ?_
            refine V_cv C hE dX8_sheet_36 (c_X8_fail (j := 0) (by omega)) kyX8_fail q273 (isoO 60 rfl rfl rfl rfl) rfl rfl rfl ?_
            exact V_iretN C dX8_sheet_39 hT (PZ_fail (by unfold S_sheet; rw [if_pos hq, if_neg (fun q => q.elim c13 (fun q => q.elim c19 (fun q => q.elim c25 c31)))]) (EqX.rf σ))
  · refine V_cv C hE dX8_sheet_2 (c_X8_sheetAtN hq) kyX8_sheetAt q810 (isoO 60 rfl rfl rfl rfl) rfl rfl rfl ?_
    refine V_astoreN C dX8_sheet_5 rfl ?_
    refine V_aloadN C dX8_sheet_7 rfl ?_
    refine V_ifnullN C dX8_sheet_9 ?_
    refine V_aload_n C dX8_sheet_34 rfl ?_
    refine V_iconst C 0 dX8_sheet_35 (by decide) ?_
    refine V_cv C hE dX8_sheet_36 (c_X8_fail (j := 0) (by omega)) kyX8_fail q273 (isoO 60 rfl rfl rfl rfl) rfl rfl rfl ?_
    exact V_iretN C dX8_sheet_39 hT (PZ_fail (by unfold S_sheet; rw [if_neg hq]) (EqX.rf σ))

/-- do all numbers of a sheet tell houses? -/
def telP (f g : Nat → Int32) : Nat → Prop
  | 0 => True
  | i + 1 => telP f g i ∧ isH f (g i)
def decTel (f g : Nat → Int32) : (n : Nat) → Decidable (telP f g n)
  | 0 => isTrue trivial
  | n + 1 => match decTel f g n with
    | isTrue h => if q : isH f (g n) then isTrue ⟨h, q⟩ else isFalse (fun z => q z.2)
    | isFalse h => isFalse (fun z => h z.1)
theorem tel_at {f g : Nat → Int32} : ∀ n, telP f g n → ∀ i, i < n → isH f (g i) := by
  intro n
  induction n with
  | zero => intro _ i h; omega
  | succ n ih =>
    intro h i hi
    by_cases e : i = n
    · subst e; exact h.2
    · exact ih h.1 i (by omega)
theorem tel_of {f g : Nat → Int32} : ∀ n, (∀ i, i < n → isH f (g i)) → telP f g n := by
  intro n
  induction n with
  | zero => intro _; trivial
  | succ n ih => intro h; exact ⟨ih (fun i hi => h i (by omega)), h n (by omega)⟩
def telB (f g : Nat → Int32) (n : Nat) : Int32 := @ite _ (telP f g n) (decTel f g n) 1 0
theorem telB_t {f g : Nat → Int32} {n : Nat} (h : telP f g n) : telB f g n = 1 := @if_pos _ (decTel f g n) h _ _ _
theorem telB_f {f g : Nat → Int32} {n : Nat} (h : ¬ telP f g n) : telB f g n = 0 := @if_neg _ (decTel f g n) h _ _ _
theorem V_zretT {x : Cx} {cc : ByteArray} {own : String} {R : Room} {E : En} {pc pc' : Nat} {L : List (Option Value)} {σ : Sg} (C : CX x cc own R) {a r0 : Int32} {σ0 : Sg} (hd : D1 cc pc .ireturn 1 pc') (hT : RTD x (some .boolean) E (some (.int r0)) σ0) (h01 : a = 0 ∨ a = 1) (hr : a = r0) (hs : σ = σ0) : V x (eA E) (AP x E σ) 0 0 pc L [.int a] :=
  V_zret C (u := σ) hd hT (nar01 h01) ⟨by rw [hr], hs⟩ (fun _ h => h) PM_A

theorem c_X8_tellsHouses {l : Launch} {E : En} {σ : Sg} {s n : Nat} (hs : s < 4) (hn : σ (shc s) 2 = nI n) (hn40 : n ≤ 40) : MD l yX8_tellsHouses cX8_tellsHouses 3 (some .boolean) rmX8_tellsHouses E [.ref (ad E 60), .ref (ad E (shc s))] σ (some (.int (telB (σ 0) (σ (nmc s)) n))) (σ) := by
  refine MD_of (by decide +kernel) rfl fun x C hE hT hcan => ?_
  have C : CX x cX8_tellsHouses RX8 rmX8_tellsHouses := C
  refine V_L (L' := [some (.ref (ad E 60)), some (.ref (ad E (shc s))), none]) rfl ?_
  refine V_iconst C 0 dX8_tellsHouses_0 (by decide) ?_
  refine V_istore_n C dX8_tellsHouses_1 rfl ?_
  have lp : ∀ (d i : Nat) , i + d = n → (∀ j, j < i → isH (σ 0) (σ (nmc s) j)) → V x (eA E) (AP x E (σ)) 0 0 2 [some (.ref (ad E 60)), some (.ref (ad E (shc s))), some (.int (nI i))] [] := by
    intro d
    induction d with
    | zero =>
      intro i  hi' hp
      have hN : i = n := by omega
      refine V_iload_n C dX8_tellsHouses_2 rfl ?_
      refine V_aload_n C dX8_tellsHouses_3 rfl ?_
      refine V_getN C hE.nw dX8_tellsHouses_4 (rdShL (by first | assumption | omega)) in_X3 (by decide) q224 rfl ?_
      refine V_icmp_ge C dX8_tellsHouses_7 (fun c7 => ?_) (fun c7 => absurd (by rw [hn, hN]; exact nI_le (Nat.le_refl _) (by omega)) c7)
      refine V_iconst C 1 dX8_tellsHouses_33 (by decide) ?_
      exact V_zretT C dX8_tellsHouses_34 hT (Or.inr rfl) (telB_t (tel_of n (fun j hj => hp j (by omega)))).symm rfl
    | succ d ih =>
      intro i  hi' hp
      refine V_iload_n C dX8_tellsHouses_2 rfl ?_
      refine V_aload_n C dX8_tellsHouses_3 rfl ?_
      refine V_getN C hE.nw dX8_tellsHouses_4 (rdShL (by first | assumption | omega)) in_X3 (by decide) q224 rfl ?_
      refine V_icmp_ge C dX8_tellsHouses_7 (fun c7 => absurd c7 (by rw [hn]; exact nI_ge (by omega) (by omega))) (fun c7 => ?_)
      refine V_aload_n C dX8_tellsHouses_10 rfl ?_
      refine V_get C dX8_tellsHouses_11 (rdX8_live) in_X8 (by decide) q232 rfl ?_
      refine V_aload_n C dX8_tellsHouses_14 rfl ?_
      refine V_iload_n C dX8_tellsHouses_15 rfl ?_
      refine V_cv C hE dX8_tellsHouses_16 (c_X3_get (s := s) (i := i) hs (by omega)) kyX3_get q842 (isoSh (by first | assumption | omega)) rfl rfl rfl ?_
      by_cases hh : isH (σ 0) (σ (nmc s) i)
      · obtain ⟨b, hb, hbe, hb8⟩ := isH_of (hcan.1 0 (by omega)) hh
        refine V_st (st' := [.int (nI b), .ref (ad E (vb 0))]) (by rw [hbe]) ?_
        refine V_cv C hE dX8_tellsHouses_19 (c_X5_get (v := 0) (i := b) (by omega) hb) kyX5_get q294 (isoV (by first | assumption | omega)) rfl rfl rfl ?_
        refine V_ifnonnull C dX8_tellsHouses_22 ?_
        refine V_iinc C 1 dX8_tellsHouses_27 rfl (by decide) rfl ?_
        refine V_goto C dX8_tellsHouses_30 ?_
        exact V_nx rfl (by simp [← nI_1] <;> rfl) (ih (i + 1) (by omega) (fun j hj => by by_cases e : j = i; (subst e; exact hh); exact hp j (by omega)))
      · refine V_cv C hE dX8_tellsHouses_19 (c_X5_getN (v := 0) (by omega) hh) kyX5_get q294 (isoV (by first | assumption | omega)) rfl rfl rfl ?_
        refine V_ifnonnullN C dX8_tellsHouses_22 ?_
        refine V_iconst C 0 dX8_tellsHouses_25 (by decide) ?_
        exact V_zretT C dX8_tellsHouses_26 hT (Or.inl rfl) (telB_f (fun q => hh (tel_at n q i (by omega)))).symm rfl
  exact lp n 0 (by omega) (fun j hj => absurd hj (by omega))

