theorem c_X9_houseItem {l : Launch} {E : En} {σ : Sg} {f r : Nat → Int32} {n s : Nat} {v : Int32} {k : Int32} (h17 : f 17 = nI n) (hs : s ≤ n) (hn : n ≤ 120) : MN l yX9_houseItem cX9_houseItem 7 none rmX9_houseItem E [.ref (ad E 73), .int k] (ZQ σ f n s v 0 r) (ZH σ f n (hsT (σ 80) n k s r)) := by
  refine MN_of (by decide +kernel) rfl fun x C hE hT hcan => ?_
  have C : CX x cX9_houseItem RX9 rmX9_houseItem := C
  refine V_L (L' := [some (.ref (ad E 73)), some (.int k), none, none, none, none, none]) rfl ?_
  have hr1 : r 1 = nI (nh r) := by have := (hcan.2.1 74 (by omega) (by omega)).1; rw [ZQ_74] at this; exact this
  have hr8 : nh r ≤ 8 := by have := (hcan.2.1 74 (by omega) (by omega)).2.1; rw [ZQ_74] at this; exact this
  have w1 : ∀ (p : Nat) (v   : Int32), p ≤ n → hsT (σ 80) n k s r = .inl p → V x (eA E) (AP x E (ZQ σ f n p v 1 r)) 0 0 20 [some (.ref (ad E 73)), some (.int k), none, none, none, none, none] [] := by
    intro p v   hp hS
    refine V_aload_n C dX9_houseItem_20 rfl ?_
    refine V_aload_n C dX9_houseItem_21 rfl ?_
    refine V_cv C hE dX9_houseItem_22 (c_X9_word h17 hp hn) kyX9_word q1325 (isoO 73 rfl rfl rfl rfl) rfl rfl rfl ?_
    try simp (disch := omega) only [ZQ_73, ZQ_74, ZQ_80, ZQ_u74, ZQ_u73, us_us, us_s, us_n, h17, VF_18, VF_19, VF_20, VF_21, VF_g17, VF_g18, VF_g19, VF_g20, VF_g21]
    refine V_ldc2 C dX9_houseItem_25 q1346 ?_
    refine V_lcmp C dX9_houseItem_28 ?_
    refine V_if_ne C dX9_houseItem_29 (fun c29 => ?_) (fun c29 => absurd c29 (fun q => absurd ((wl_k (t := σ 80) (n := n) (s := p) (w := 1) (i := 7) (c := 755277) (by decide) (by decide +kernel)).mp q).1 (by decide)))
    refine V_iconst C 0 dX9_houseItem_36 (by decide) ?_
    refine V_iconst C 0 dX9_houseItem_37 (by decide) ?_
    refine V_sipush C 400 dX9_houseItem_38 (by decide) ?_
    refine V_bipush C 100 dX9_houseItem_41 (by decide) ?_
    refine V_cv C hE dX9_houseItem_43 (c_perh0) kyX9_perhaps q1347 (isoO 73 rfl rfl rfl rfl) rfl rfl rfl ?_
    try simp (disch := omega) only [ZQ_73, ZQ_74, ZQ_80, ZQ_u74, ZQ_u73, us_us, us_s, us_n, h17, VF_18, VF_19, VF_20, VF_21, VF_g17, VF_g18, VF_g19, VF_g20, VF_g21]
    refine V_istore_n C dX9_houseItem_46 rfl ?_
    refine V_aload_n C dX9_houseItem_47 rfl ?_
    refine V_aload_n C dX9_houseItem_48 rfl ?_
    refine V_cv C hE dX9_houseItem_49 (c_X9_word h17 hp hn) kyX9_word q1325 (isoO 73 rfl rfl rfl rfl) rfl rfl rfl ?_
    try simp (disch := omega) only [ZQ_73, ZQ_74, ZQ_80, ZQ_u74, ZQ_u73, us_us, us_s, us_n, h17, VF_18, VF_19, VF_20, VF_21, VF_g17, VF_g18, VF_g19, VF_g20, VF_g21]
    refine V_ldc2 C dX9_houseItem_52 q1355 ?_
    refine V_lcmp C dX9_houseItem_55 ?_
    refine V_if_ne C dX9_houseItem_56 (fun c56 => ?_) (fun c56 => absurd c56 (fun q => absurd ((wl_k (t := σ 80) (n := n) (s := p) (w := 1) (i := 8) (c := 755084) (by decide) (by decide +kernel)).mp q).1 (by decide)))
    refine V_iconst C 0 dX9_houseItem_63 (by decide) ?_
    refine V_iconst C 1 dX9_houseItem_64 (by decide) ?_
    refine V_bipush C 40 dX9_houseItem_65 (by decide) ?_
    refine V_bipush C 10 dX9_houseItem_67 (by decide) ?_
    refine V_cv C hE dX9_houseItem_69 (c_perh0) kyX9_perhaps q1347 (isoO 73 rfl rfl rfl rfl) rfl rfl rfl ?_
    try simp (disch := omega) only [ZQ_73, ZQ_74, ZQ_80, ZQ_u74, ZQ_u73, us_us, us_s, us_n, h17, VF_18, VF_19, VF_20, VF_21, VF_g17, VF_g18, VF_g19, VF_g20, VF_g21]
    refine V_istore_n C dX9_houseItem_72 rfl ?_
    refine V_aload_n C dX9_houseItem_73 rfl ?_
    refine V_aload_n C dX9_houseItem_74 rfl ?_
    refine V_cv C hE dX9_houseItem_75 (c_X9_word h17 hp hn) kyX9_word q1325 (isoO 73 rfl rfl rfl rfl) rfl rfl rfl ?_
    try simp (disch := omega) only [ZQ_73, ZQ_74, ZQ_80, ZQ_u74, ZQ_u73, us_us, us_s, us_n, h17, VF_18, VF_19, VF_20, VF_21, VF_g17, VF_g18, VF_g19, VF_g20, VF_g21]
    refine V_ldc2 C dX9_houseItem_78 q1356 ?_
    refine V_lcmp C dX9_houseItem_81 ?_
    refine V_if_ne C dX9_houseItem_82 (fun c82 => ?_) (fun c82 => absurd c82 (fun q => absurd ((wl_k (t := σ 80) (n := n) (s := p) (w := 1) (i := 9) (c := 408819) (by decide) (by decide +kernel)).mp q).1 (by decide)))
    refine V_iconst C 0 dX9_houseItem_89 (by decide) ?_
    refine V_iconst C 0 dX9_houseItem_90 (by decide) ?_
    refine V_bipush C 99 dX9_houseItem_91 (by decide) ?_
    refine V_bipush C 8 dX9_houseItem_93 (by decide) ?_
    refine V_cv C hE dX9_houseItem_95 (c_perh0) kyX9_perhaps q1347 (isoO 73 rfl rfl rfl rfl) rfl rfl rfl ?_
    try simp (disch := omega) only [ZQ_73, ZQ_74, ZQ_80, ZQ_u74, ZQ_u73, us_us, us_s, us_n, h17, VF_18, VF_19, VF_20, VF_21, VF_g17, VF_g18, VF_g19, VF_g20, VF_g21]
    refine V_istore C dX9_houseItem_98 rfl ?_
    refine V_aload_n C dX9_houseItem_100 rfl ?_
    refine V_aload_n C dX9_houseItem_101 rfl ?_
    refine V_cv C hE dX9_houseItem_102 (c_X9_word h17 hp hn) kyX9_word q1325 (isoO 73 rfl rfl rfl rfl) rfl rfl rfl ?_
    try simp (disch := omega) only [ZQ_73, ZQ_74, ZQ_80, ZQ_u74, ZQ_u73, us_us, us_s, us_n, h17, VF_18, VF_19, VF_20, VF_21, VF_g17, VF_g18, VF_g19, VF_g20, VF_g21]
    refine V_ldc2 C dX9_houseItem_105 q1357 ?_
    refine V_lcmp C dX9_houseItem_108 ?_
    refine V_if_ne C dX9_houseItem_109 (fun c109 => ?_) (fun c109 => absurd c109 (fun q => absurd ((wl_k (t := σ 80) (n := n) (s := p) (w := 1) (i := 10) (c := 2610628) (by decide) (by decide +kernel)).mp q).1 (by decide)))
    refine V_iconst C 0 dX9_houseItem_116 (by decide) ?_
    refine V_iconst C 0 dX9_houseItem_117 (by decide) ?_
    refine V_sipush C 400 dX9_houseItem_118 (by decide) ?_
    refine V_bipush C 60 dX9_houseItem_121 (by decide) ?_
    refine V_cv C hE dX9_houseItem_123 (c_perh0) kyX9_perhaps q1347 (isoO 73 rfl rfl rfl rfl) rfl rfl rfl ?_
    try simp (disch := omega) only [ZQ_73, ZQ_74, ZQ_80, ZQ_u74, ZQ_u73, us_us, us_s, us_n, h17, VF_18, VF_19, VF_20, VF_21, VF_g17, VF_g18, VF_g19, VF_g20, VF_g21]
    refine V_istore C dX9_houseItem_126 rfl ?_
    refine V_aload_n C dX9_houseItem_128 rfl ?_
    refine V_get C dX9_houseItem_129 (rdO (j := 21) 73 rfl rfl rfl rfl rfl) in_X9 (by decide) q928 rfl ?_
    try simp (disch := omega) only [ZQ_73, ZQ_74, ZQ_80, ZQ_u74, ZQ_u73, us_us, us_s, us_n, h17, VF_18, VF_19, VF_20, VF_21, VF_g17, VF_g18, VF_g19, VF_g20, VF_g21]
    refine V_if_ne C dX9_houseItem_132 (fun c132 => ?_) (fun c132 => absurd c132 (by decide))
    exact V_retN C dX9_houseItem_148 hT (ZH_f hS)
  have w2 : ∀ (p : Nat) (v y0  : Int32), p ≤ n → hsT (σ 80) n k s r = .inl p → V x (eA E) (AP x E (ZQ σ f n p v 1 r)) 0 0 46 [some (.ref (ad E 73)), some (.int k), none, none, none, none, none] [.int y0] := by
    intro p v y0  hp hS
    refine V_istore_n C dX9_houseItem_46 rfl ?_
    refine V_aload_n C dX9_houseItem_47 rfl ?_
    refine V_aload_n C dX9_houseItem_48 rfl ?_
    refine V_cv C hE dX9_houseItem_49 (c_X9_word h17 hp hn) kyX9_word q1325 (isoO 73 rfl rfl rfl rfl) rfl rfl rfl ?_
    try simp (disch := omega) only [ZQ_73, ZQ_74, ZQ_80, ZQ_u74, ZQ_u73, us_us, us_s, us_n, h17, VF_18, VF_19, VF_20, VF_21, VF_g17, VF_g18, VF_g19, VF_g20, VF_g21]
    refine V_ldc2 C dX9_houseItem_52 q1355 ?_
    refine V_lcmp C dX9_houseItem_55 ?_
    refine V_if_ne C dX9_houseItem_56 (fun c56 => ?_) (fun c56 => absurd c56 (fun q => absurd ((wl_k (t := σ 80) (n := n) (s := p) (w := 1) (i := 8) (c := 755084) (by decide) (by decide +kernel)).mp q).1 (by decide)))
    refine V_iconst C 0 dX9_houseItem_63 (by decide) ?_
    refine V_iconst C 1 dX9_houseItem_64 (by decide) ?_
    refine V_bipush C 40 dX9_houseItem_65 (by decide) ?_
    refine V_bipush C 10 dX9_houseItem_67 (by decide) ?_
    refine V_cv C hE dX9_houseItem_69 (c_perh0) kyX9_perhaps q1347 (isoO 73 rfl rfl rfl rfl) rfl rfl rfl ?_
    try simp (disch := omega) only [ZQ_73, ZQ_74, ZQ_80, ZQ_u74, ZQ_u73, us_us, us_s, us_n, h17, VF_18, VF_19, VF_20, VF_21, VF_g17, VF_g18, VF_g19, VF_g20, VF_g21]
    refine V_istore_n C dX9_houseItem_72 rfl ?_
    refine V_aload_n C dX9_houseItem_73 rfl ?_
    refine V_aload_n C dX9_houseItem_74 rfl ?_
    refine V_cv C hE dX9_houseItem_75 (c_X9_word h17 hp hn) kyX9_word q1325 (isoO 73 rfl rfl rfl rfl) rfl rfl rfl ?_
    try simp (disch := omega) only [ZQ_73, ZQ_74, ZQ_80, ZQ_u74, ZQ_u73, us_us, us_s, us_n, h17, VF_18, VF_19, VF_20, VF_21, VF_g17, VF_g18, VF_g19, VF_g20, VF_g21]
    refine V_ldc2 C dX9_houseItem_78 q1356 ?_
    refine V_lcmp C dX9_houseItem_81 ?_
    refine V_if_ne C dX9_houseItem_82 (fun c82 => ?_) (fun c82 => absurd c82 (fun q => absurd ((wl_k (t := σ 80) (n := n) (s := p) (w := 1) (i := 9) (c := 408819) (by decide) (by decide +kernel)).mp q).1 (by decide)))
    refine V_iconst C 0 dX9_houseItem_89 (by decide) ?_
    refine V_iconst C 0 dX9_houseItem_90 (by decide) ?_
    refine V_bipush C 99 dX9_houseItem_91 (by decide) ?_
    refine V_bipush C 8 dX9_houseItem_93 (by decide) ?_
    refine V_cv C hE dX9_houseItem_95 (c_perh0) kyX9_perhaps q1347 (isoO 73 rfl rfl rfl rfl) rfl rfl rfl ?_
    try simp (disch := omega) only [ZQ_73, ZQ_74, ZQ_80, ZQ_u74, ZQ_u73, us_us, us_s, us_n, h17, VF_18, VF_19, VF_20, VF_21, VF_g17, VF_g18, VF_g19, VF_g20, VF_g21]
    refine V_istore C dX9_houseItem_98 rfl ?_
    refine V_aload_n C dX9_houseItem_100 rfl ?_
    refine V_aload_n C dX9_houseItem_101 rfl ?_
    refine V_cv C hE dX9_houseItem_102 (c_X9_word h17 hp hn) kyX9_word q1325 (isoO 73 rfl rfl rfl rfl) rfl rfl rfl ?_
    try simp (disch := omega) only [ZQ_73, ZQ_74, ZQ_80, ZQ_u74, ZQ_u73, us_us, us_s, us_n, h17, VF_18, VF_19, VF_20, VF_21, VF_g17, VF_g18, VF_g19, VF_g20, VF_g21]
    refine V_ldc2 C dX9_houseItem_105 q1357 ?_
    refine V_lcmp C dX9_houseItem_108 ?_
    refine V_if_ne C dX9_houseItem_109 (fun c109 => ?_) (fun c109 => absurd c109 (fun q => absurd ((wl_k (t := σ 80) (n := n) (s := p) (w := 1) (i := 10) (c := 2610628) (by decide) (by decide +kernel)).mp q).1 (by decide)))
    refine V_iconst C 0 dX9_houseItem_116 (by decide) ?_
    refine V_iconst C 0 dX9_houseItem_117 (by decide) ?_
    refine V_sipush C 400 dX9_houseItem_118 (by decide) ?_
    refine V_bipush C 60 dX9_houseItem_121 (by decide) ?_
    refine V_cv C hE dX9_houseItem_123 (c_perh0) kyX9_perhaps q1347 (isoO 73 rfl rfl rfl rfl) rfl rfl rfl ?_
    try simp (disch := omega) only [ZQ_73, ZQ_74, ZQ_80, ZQ_u74, ZQ_u73, us_us, us_s, us_n, h17, VF_18, VF_19, VF_20, VF_21, VF_g17, VF_g18, VF_g19, VF_g20, VF_g21]
    refine V_istore C dX9_houseItem_126 rfl ?_
    refine V_aload_n C dX9_houseItem_128 rfl ?_
    refine V_get C dX9_houseItem_129 (rdO (j := 21) 73 rfl rfl rfl rfl rfl) in_X9 (by decide) q928 rfl ?_
    try simp (disch := omega) only [ZQ_73, ZQ_74, ZQ_80, ZQ_u74, ZQ_u73, us_us, us_s, us_n, h17, VF_18, VF_19, VF_20, VF_21, VF_g17, VF_g18, VF_g19, VF_g20, VF_g21]
    refine V_if_ne C dX9_houseItem_132 (fun c132 => ?_) (fun c132 => absurd c132 (by decide))
    exact V_retN C dX9_houseItem_148 hT (ZH_f hS)
  have w3 : ∀ (p : Nat) (v y0 x1 : Int32), p ≤ n → hsT (σ 80) n k s r = .inl p → V x (eA E) (AP x E (ZQ σ f n p v 1 r)) 0 0 72 [some (.ref (ad E 73)), some (.int k), some (.int x1), none, none, none, none] [.int y0] := by
    intro p v y0 x1 hp hS
    refine V_istore_n C dX9_houseItem_72 rfl ?_
    refine V_aload_n C dX9_houseItem_73 rfl ?_
    refine V_aload_n C dX9_houseItem_74 rfl ?_
    refine V_cv C hE dX9_houseItem_75 (c_X9_word h17 hp hn) kyX9_word q1325 (isoO 73 rfl rfl rfl rfl) rfl rfl rfl ?_
    try simp (disch := omega) only [ZQ_73, ZQ_74, ZQ_80, ZQ_u74, ZQ_u73, us_us, us_s, us_n, h17, VF_18, VF_19, VF_20, VF_21, VF_g17, VF_g18, VF_g19, VF_g20, VF_g21]
    refine V_ldc2 C dX9_houseItem_78 q1356 ?_
    refine V_lcmp C dX9_houseItem_81 ?_
    refine V_if_ne C dX9_houseItem_82 (fun c82 => ?_) (fun c82 => absurd c82 (fun q => absurd ((wl_k (t := σ 80) (n := n) (s := p) (w := 1) (i := 9) (c := 408819) (by decide) (by decide +kernel)).mp q).1 (by decide)))
    refine V_iconst C 0 dX9_houseItem_89 (by decide) ?_
    refine V_iconst C 0 dX9_houseItem_90 (by decide) ?_
    refine V_bipush C 99 dX9_houseItem_91 (by decide) ?_
    refine V_bipush C 8 dX9_houseItem_93 (by decide) ?_
    refine V_cv C hE dX9_houseItem_95 (c_perh0) kyX9_perhaps q1347 (isoO 73 rfl rfl rfl rfl) rfl rfl rfl ?_
    try simp (disch := omega) only [ZQ_73, ZQ_74, ZQ_80, ZQ_u74, ZQ_u73, us_us, us_s, us_n, h17, VF_18, VF_19, VF_20, VF_21, VF_g17, VF_g18, VF_g19, VF_g20, VF_g21]
    refine V_istore C dX9_houseItem_98 rfl ?_
    refine V_aload_n C dX9_houseItem_100 rfl ?_
    refine V_aload_n C dX9_houseItem_101 rfl ?_
    refine V_cv C hE dX9_houseItem_102 (c_X9_word h17 hp hn) kyX9_word q1325 (isoO 73 rfl rfl rfl rfl) rfl rfl rfl ?_
    try simp (disch := omega) only [ZQ_73, ZQ_74, ZQ_80, ZQ_u74, ZQ_u73, us_us, us_s, us_n, h17, VF_18, VF_19, VF_20, VF_21, VF_g17, VF_g18, VF_g19, VF_g20, VF_g21]
    refine V_ldc2 C dX9_houseItem_105 q1357 ?_
    refine V_lcmp C dX9_houseItem_108 ?_
    refine V_if_ne C dX9_houseItem_109 (fun c109 => ?_) (fun c109 => absurd c109 (fun q => absurd ((wl_k (t := σ 80) (n := n) (s := p) (w := 1) (i := 10) (c := 2610628) (by decide) (by decide +kernel)).mp q).1 (by decide)))
    refine V_iconst C 0 dX9_houseItem_116 (by decide) ?_
    refine V_iconst C 0 dX9_houseItem_117 (by decide) ?_
    refine V_sipush C 400 dX9_houseItem_118 (by decide) ?_
    refine V_bipush C 60 dX9_houseItem_121 (by decide) ?_
    refine V_cv C hE dX9_houseItem_123 (c_perh0) kyX9_perhaps q1347 (isoO 73 rfl rfl rfl rfl) rfl rfl rfl ?_
    try simp (disch := omega) only [ZQ_73, ZQ_74, ZQ_80, ZQ_u74, ZQ_u73, us_us, us_s, us_n, h17, VF_18, VF_19, VF_20, VF_21, VF_g17, VF_g18, VF_g19, VF_g20, VF_g21]
    refine V_istore C dX9_houseItem_126 rfl ?_
    refine V_aload_n C dX9_houseItem_128 rfl ?_
    refine V_get C dX9_houseItem_129 (rdO (j := 21) 73 rfl rfl rfl rfl rfl) in_X9 (by decide) q928 rfl ?_
    try simp (disch := omega) only [ZQ_73, ZQ_74, ZQ_80, ZQ_u74, ZQ_u73, us_us, us_s, us_n, h17, VF_18, VF_19, VF_20, VF_21, VF_g17, VF_g18, VF_g19, VF_g20, VF_g21]
    refine V_if_ne C dX9_houseItem_132 (fun c132 => ?_) (fun c132 => absurd c132 (by decide))
    exact V_retN C dX9_houseItem_148 hT (ZH_f hS)
  have w4 : ∀ (p : Nat) (v y0 x1 x2 : Int32), p ≤ n → hsT (σ 80) n k s r = .inl p → V x (eA E) (AP x E (ZQ σ f n p v 1 r)) 0 0 98 [some (.ref (ad E 73)), some (.int k), some (.int x1), some (.int x2), none, none, none] [.int y0] := by
    intro p v y0 x1 x2 hp hS
    refine V_istore C dX9_houseItem_98 rfl ?_
    refine V_aload_n C dX9_houseItem_100 rfl ?_
    refine V_aload_n C dX9_houseItem_101 rfl ?_
    refine V_cv C hE dX9_houseItem_102 (c_X9_word h17 hp hn) kyX9_word q1325 (isoO 73 rfl rfl rfl rfl) rfl rfl rfl ?_
    try simp (disch := omega) only [ZQ_73, ZQ_74, ZQ_80, ZQ_u74, ZQ_u73, us_us, us_s, us_n, h17, VF_18, VF_19, VF_20, VF_21, VF_g17, VF_g18, VF_g19, VF_g20, VF_g21]
    refine V_ldc2 C dX9_houseItem_105 q1357 ?_
    refine V_lcmp C dX9_houseItem_108 ?_
    refine V_if_ne C dX9_houseItem_109 (fun c109 => ?_) (fun c109 => absurd c109 (fun q => absurd ((wl_k (t := σ 80) (n := n) (s := p) (w := 1) (i := 10) (c := 2610628) (by decide) (by decide +kernel)).mp q).1 (by decide)))
    refine V_iconst C 0 dX9_houseItem_116 (by decide) ?_
    refine V_iconst C 0 dX9_houseItem_117 (by decide) ?_
    refine V_sipush C 400 dX9_houseItem_118 (by decide) ?_
    refine V_bipush C 60 dX9_houseItem_121 (by decide) ?_
    refine V_cv C hE dX9_houseItem_123 (c_perh0) kyX9_perhaps q1347 (isoO 73 rfl rfl rfl rfl) rfl rfl rfl ?_
    try simp (disch := omega) only [ZQ_73, ZQ_74, ZQ_80, ZQ_u74, ZQ_u73, us_us, us_s, us_n, h17, VF_18, VF_19, VF_20, VF_21, VF_g17, VF_g18, VF_g19, VF_g20, VF_g21]
    refine V_istore C dX9_houseItem_126 rfl ?_
    refine V_aload_n C dX9_houseItem_128 rfl ?_
    refine V_get C dX9_houseItem_129 (rdO (j := 21) 73 rfl rfl rfl rfl rfl) in_X9 (by decide) q928 rfl ?_
    try simp (disch := omega) only [ZQ_73, ZQ_74, ZQ_80, ZQ_u74, ZQ_u73, us_us, us_s, us_n, h17, VF_18, VF_19, VF_20, VF_21, VF_g17, VF_g18, VF_g19, VF_g20, VF_g21]
    refine V_if_ne C dX9_houseItem_132 (fun c132 => ?_) (fun c132 => absurd c132 (by decide))
    exact V_retN C dX9_houseItem_148 hT (ZH_f hS)
  have w5 : ∀ (p : Nat) (v y0 x1 x2 x3 : Int32), p ≤ n → hsT (σ 80) n k s r = .inl p → V x (eA E) (AP x E (ZQ σ f n p v 1 r)) 0 0 126 [some (.ref (ad E 73)), some (.int k), some (.int x1), some (.int x2), some (.int x3), none, none] [.int y0] := by
    intro p v y0 x1 x2 x3 hp hS
    refine V_istore C dX9_houseItem_126 rfl ?_
    refine V_aload_n C dX9_houseItem_128 rfl ?_
    refine V_get C dX9_houseItem_129 (rdO (j := 21) 73 rfl rfl rfl rfl rfl) in_X9 (by decide) q928 rfl ?_
    try simp (disch := omega) only [ZQ_73, ZQ_74, ZQ_80, ZQ_u74, ZQ_u73, us_us, us_s, us_n, h17, VF_18, VF_19, VF_20, VF_21, VF_g17, VF_g18, VF_g19, VF_g20, VF_g21]
    refine V_if_ne C dX9_houseItem_132 (fun c132 => ?_) (fun c132 => absurd c132 (by decide))
    exact V_retN C dX9_houseItem_148 hT (ZH_f hS)
  by_cases h8 : nh r < 8
  · refine V_aload_n C dX9_houseItem_0 rfl ?_
    refine V_aload_n C dX9_houseItem_1 rfl ?_
    refine V_get C dX9_houseItem_2 (rdO (j := 0) 73 rfl rfl rfl rfl rfl) in_X9 (by decide) q907 rfl ?_
    refine V_iconst C 1 dX9_houseItem_5 (by decide) ?_
    refine V_iald C 1 rfl rfl rfl dX9_houseItem_6 (rdM 74 1 rfl rfl rfl) ?_
    rw [ZQ_74, hr1]
    refine V_bipush C 8 dX9_houseItem_7 (by decide) ?_
    refine V_icmp_ge C dX9_houseItem_9 (fun c9 => absurd c9 (nI_ge (a := nh r) (b := 8) (by omega) (by omega))) (fun c9 => ?_)
    refine V_iconst C 1 dX9_houseItem_12 (by decide) ?_
    refine V_goto C dX9_houseItem_13 ?_
    refine V_cv0 C hE dX9_houseItem_17 (c_needs1 h17 hs hn) kyX9_needs q1342 (isoO 73 rfl rfl rfl rfl) rfl rfl rfl ?_
    try simp (disch := omega) only [ZQ_73, ZQ_74, ZQ_80, ZQ_u74, ZQ_u73, us_us, us_s, us_n, h17, VF_18, VF_19, VF_20, VF_21, VF_g17, VF_g18, VF_g19, VF_g20, VF_g21]
    have o5 : ∀ (a1 a2 a3 a4 : Nat × Int32) (v : Int32), ptT (σ 80) n 7 0 400 100 (nxT (σ 80) n s) = .inr a1 → ptT (σ 80) n 8 1 40 10 a1.1 = .inr a2 → ptT (σ 80) n 9 0 99 8 a2.1 = .inr a3 → ptT (σ 80) n 10 0 400 60 a3.1 = .inr a4 → V x (eA E) (AP x E (ZQ σ f n a4.1 v 0 r)) 0 0 126 [some (.ref (ad E 73)), some (.int k), some (.int a1.2), some (.int a2.2), some (.int a3.2), none, none] [.int a4.2] := by
      intro a1 a2 a3 a4 v hp1 hp2 hp3 hp4
      have hl1 : a1.1 ≤ n := pt_le2 (nxT_le hs) hp1
      have hl2 : a2.1 ≤ n := pt_le2 hl1 hp2
      have hl3 : a3.1 ≤ n := pt_le2 hl2 hp3
      have hl4 : a4.1 ≤ n := pt_le2 hl3 hp4
      refine V_istore C dX9_houseItem_126 rfl ?_
      refine V_aload_n C dX9_houseItem_128 rfl ?_
      refine V_get C dX9_houseItem_129 (rdO (j := 21) 73 rfl rfl rfl rfl rfl) in_X9 (by decide) q928 rfl ?_
      try simp (disch := omega) only [ZQ_73, ZQ_74, ZQ_80, ZQ_u74, ZQ_u73, us_us, us_s, us_n, h17, VF_18, VF_19, VF_20, VF_21, VF_g17, VF_g18, VF_g19, VF_g20, VF_g21]
      refine V_if_ne C dX9_houseItem_132 (fun c132 => absurd (by decide) c132) (fun c132 => ?_)
      refine V_aload_n C dX9_houseItem_135 rfl ?_
      refine V_iload_n C dX9_houseItem_136 rfl ?_
      refine V_iload_n C dX9_houseItem_137 rfl ?_
      refine V_iload_n C dX9_houseItem_138 rfl ?_
      refine V_iload C dX9_houseItem_139 rfl ?_
      refine V_iload C dX9_houseItem_141 rfl ?_
      refine V_cv C hE dX9_houseItem_143 (c_X9_newHouse (by rw [ZQ_74]; exact h8)) kyX9_newHouse q1000 (isoO 73 rfl rfl rfl rfl) rfl rfl rfl ?_
      try simp (disch := omega) only [ZQ_73, ZQ_74, ZQ_80, ZQ_u74, ZQ_u73, us_us, us_s, us_n, h17, VF_18, VF_19, VF_20, VF_21, VF_g17, VF_g18, VF_g19, VF_g20, VF_g21]
      refine V_istore C dX9_houseItem_146 rfl ?_
      exact V_retN C dX9_houseItem_148 hT (ZH_t (by unfold hsT; rw [if_pos h8]; simp only [hp1, hp2, hp3, hp4, bd_l, bd_r]))
    have o4 : ∀ (a1 a2 a3 : Nat × Int32) (v : Int32), ptT (σ 80) n 7 0 400 100 (nxT (σ 80) n s) = .inr a1 → ptT (σ 80) n 8 1 40 10 a1.1 = .inr a2 → ptT (σ 80) n 9 0 99 8 a2.1 = .inr a3 → V x (eA E) (AP x E (ZQ σ f n a3.1 v 0 r)) 0 0 98 [some (.ref (ad E 73)), some (.int k), some (.int a1.2), some (.int a2.2), none, none, none] [.int a3.2] := by
      intro a1 a2 a3 v hp1 hp2 hp3
      have hl1 : a1.1 ≤ n := pt_le2 (nxT_le hs) hp1
      have hl2 : a2.1 ≤ n := pt_le2 hl1 hp2
      have hl3 : a3.1 ≤ n := pt_le2 hl2 hp3
      rcases hp4 : ptT (σ 80) n 10 0 400 60 a3.1 with p | a4
      · refine V_istore C dX9_houseItem_98 rfl ?_
        refine V_aload_n C dX9_houseItem_100 rfl ?_
        refine V_aload_n C dX9_houseItem_101 rfl ?_
        refine V_cv C hE dX9_houseItem_102 (c_X9_word h17 hl3 hn) kyX9_word q1325 (isoO 73 rfl rfl rfl rfl) rfl rfl rfl ?_
        try simp (disch := omega) only [ZQ_73, ZQ_74, ZQ_80, ZQ_u74, ZQ_u73, us_us, us_s, us_n, h17, VF_18, VF_19, VF_20, VF_21, VF_g17, VF_g18, VF_g19, VF_g20, VF_g21]
        refine V_ldc2 C dX9_houseItem_105 q1357 ?_
        refine V_lcmp C dX9_houseItem_108 ?_
        refine V_if_ne C dX9_houseItem_109 (fun c109 => absurd ((wl_k (t := σ 80) (n := n) (s := a3.1) (w := 0) (i := 10) (c := 2610628) (by decide) (by decide +kernel)).mpr ⟨rfl, pt_wd hp4⟩) c109) (fun c109 => ?_)
        refine V_iconst C 1 dX9_houseItem_112 (by decide) ?_
        refine V_goto C dX9_houseItem_113 ?_
        refine V_iconst C 0 dX9_houseItem_117 (by decide) ?_
        refine V_sipush C 400 dX9_houseItem_118 (by decide) ?_
        refine V_bipush C 60 dX9_houseItem_121 (by decide) ?_
        refine V_cv C hE dX9_houseItem_123 (c_perhN (lo := 0) (hi := 400) rfl rfl (by omega) (by omega) h17 hl3 hn (pt_nm hp4)) kyX9_perhaps q1347 (isoO 73 rfl rfl rfl rfl) rfl rfl rfl ?_
        try simp (disch := omega) only [ZQ_73, ZQ_74, ZQ_80, ZQ_u74, ZQ_u73, us_us, us_s, us_n, h17, VF_18, VF_19, VF_20, VF_21, VF_g17, VF_g18, VF_g19, VF_g20, VF_g21]
        exact w5 _ _ _ _ _ _ (nxT_le hl3) (by rw [show nxT (σ 80) n a3.1 = p from by have h := hp4; rw [pt_f (pt_wd h) (pt_nm h)] at h; cases h; rfl]; exact (by unfold hsT; rw [if_pos h8]; simp only [hp1, hp2, hp3, hp4, bd_l, bd_r]))
      · by_cases hw4 : wdT (σ 80) n 10 a3.1
        · refine V_istore C dX9_houseItem_98 rfl ?_
          refine V_aload_n C dX9_houseItem_100 rfl ?_
          refine V_aload_n C dX9_houseItem_101 rfl ?_
          refine V_cv C hE dX9_houseItem_102 (c_X9_word h17 hl3 hn) kyX9_word q1325 (isoO 73 rfl rfl rfl rfl) rfl rfl rfl ?_
          try simp (disch := omega) only [ZQ_73, ZQ_74, ZQ_80, ZQ_u74, ZQ_u73, us_us, us_s, us_n, h17, VF_18, VF_19, VF_20, VF_21, VF_g17, VF_g18, VF_g19, VF_g20, VF_g21]
          refine V_ldc2 C dX9_houseItem_105 q1357 ?_
          refine V_lcmp C dX9_houseItem_108 ?_
          refine V_if_ne C dX9_houseItem_109 (fun c109 => absurd ((wl_k (t := σ 80) (n := n) (s := a3.1) (w := 0) (i := 10) (c := 2610628) (by decide) (by decide +kernel)).mpr ⟨rfl, hw4⟩) c109) (fun c109 => ?_)
          refine V_iconst C 1 dX9_houseItem_112 (by decide) ?_
          refine V_goto C dX9_houseItem_113 ?_
          refine V_iconst C 0 dX9_houseItem_117 (by decide) ?_
          refine V_sipush C 400 dX9_houseItem_118 (by decide) ?_
          refine V_bipush C 60 dX9_houseItem_121 (by decide) ?_
          refine V_cv C hE dX9_houseItem_123 (c_perhY (lo := 0) (hi := 400) rfl rfl (by omega) (by omega) h17 hl3 hn (pt_nm2 hp4 hw4)) kyX9_perhaps q1347 (isoO 73 rfl rfl rfl rfl) rfl rfl rfl ?_
          try simp (disch := omega) only [ZQ_73, ZQ_74, ZQ_80, ZQ_u74, ZQ_u73, us_us, us_s, us_n, h17, VF_18, VF_19, VF_20, VF_21, VF_g17, VF_g18, VF_g19, VF_g20, VF_g21]
          exact V_nx (by rw [show a4.1 = nxT (σ 80) n (nxT (σ 80) n a3.1) from by have h := hp4; rw [pt_y hw4 (pt_nm2 h hw4)] at h; cases h; rfl]) rfl (V_st (by rw [show a4.2 = nI (vlT (σ 80) n (nxT (σ 80) n a3.1)) from by have h := hp4; rw [pt_y hw4 (pt_nm2 h hw4)] at h; cases h; rfl]) (o5 a1 a2 a3 a4 _ hp1 hp2 hp3 hp4))
        · refine V_istore C dX9_houseItem_98 rfl ?_
          refine V_aload_n C dX9_houseItem_100 rfl ?_
          refine V_aload_n C dX9_houseItem_101 rfl ?_
          refine V_cv C hE dX9_houseItem_102 (c_X9_word h17 hl3 hn) kyX9_word q1325 (isoO 73 rfl rfl rfl rfl) rfl rfl rfl ?_
          try simp (disch := omega) only [ZQ_73, ZQ_74, ZQ_80, ZQ_u74, ZQ_u73, us_us, us_s, us_n, h17, VF_18, VF_19, VF_20, VF_21, VF_g17, VF_g18, VF_g19, VF_g20, VF_g21]
          refine V_ldc2 C dX9_houseItem_105 q1357 ?_
          refine V_lcmp C dX9_houseItem_108 ?_
          refine V_if_ne C dX9_houseItem_109 (fun c109 => ?_) (fun c109 => absurd c109 (fun q => hw4 ((wl_k (t := σ 80) (n := n) (s := a3.1) (w := 0) (i := 10) (c := 2610628) (by decide) (by decide +kernel)).mp q).2))
          refine V_iconst C 0 dX9_houseItem_116 (by decide) ?_
          refine V_iconst C 0 dX9_houseItem_117 (by decide) ?_
          refine V_sipush C 400 dX9_houseItem_118 (by decide) ?_
          refine V_bipush C 60 dX9_houseItem_121 (by decide) ?_
          refine V_cv C hE dX9_houseItem_123 (c_perh0) kyX9_perhaps q1347 (isoO 73 rfl rfl rfl rfl) rfl rfl rfl ?_
          try simp (disch := omega) only [ZQ_73, ZQ_74, ZQ_80, ZQ_u74, ZQ_u73, us_us, us_s, us_n, h17, VF_18, VF_19, VF_20, VF_21, VF_g17, VF_g18, VF_g19, VF_g20, VF_g21]
          exact V_nx (by rw [show a4.1 = a3.1 from by have h := hp4; rw [pt_n hw4] at h; cases h; rfl]) rfl (V_st (by rw [show a4.2 = 60 from by have h := hp4; rw [pt_n hw4] at h; cases h; rfl]) (o5 a1 a2 a3 a4 _ hp1 hp2 hp3 hp4))
    have o3 : ∀ (a1 a2 : Nat × Int32) (v : Int32), ptT (σ 80) n 7 0 400 100 (nxT (σ 80) n s) = .inr a1 → ptT (σ 80) n 8 1 40 10 a1.1 = .inr a2 → V x (eA E) (AP x E (ZQ σ f n a2.1 v 0 r)) 0 0 72 [some (.ref (ad E 73)), some (.int k), some (.int a1.2), none, none, none, none] [.int a2.2] := by
      intro a1 a2 v hp1 hp2
      have hl1 : a1.1 ≤ n := pt_le2 (nxT_le hs) hp1
      have hl2 : a2.1 ≤ n := pt_le2 hl1 hp2
      rcases hp3 : ptT (σ 80) n 9 0 99 8 a2.1 with p | a3
      · refine V_istore_n C dX9_houseItem_72 rfl ?_
        refine V_aload_n C dX9_houseItem_73 rfl ?_
        refine V_aload_n C dX9_houseItem_74 rfl ?_
        refine V_cv C hE dX9_houseItem_75 (c_X9_word h17 hl2 hn) kyX9_word q1325 (isoO 73 rfl rfl rfl rfl) rfl rfl rfl ?_
        try simp (disch := omega) only [ZQ_73, ZQ_74, ZQ_80, ZQ_u74, ZQ_u73, us_us, us_s, us_n, h17, VF_18, VF_19, VF_20, VF_21, VF_g17, VF_g18, VF_g19, VF_g20, VF_g21]
        refine V_ldc2 C dX9_houseItem_78 q1356 ?_
        refine V_lcmp C dX9_houseItem_81 ?_
        refine V_if_ne C dX9_houseItem_82 (fun c82 => absurd ((wl_k (t := σ 80) (n := n) (s := a2.1) (w := 0) (i := 9) (c := 408819) (by decide) (by decide +kernel)).mpr ⟨rfl, pt_wd hp3⟩) c82) (fun c82 => ?_)
        refine V_iconst C 1 dX9_houseItem_85 (by decide) ?_
        refine V_goto C dX9_houseItem_86 ?_
        refine V_iconst C 0 dX9_houseItem_90 (by decide) ?_
        refine V_bipush C 99 dX9_houseItem_91 (by decide) ?_
        refine V_bipush C 8 dX9_houseItem_93 (by decide) ?_
        refine V_cv C hE dX9_houseItem_95 (c_perhN (lo := 0) (hi := 99) rfl rfl (by omega) (by omega) h17 hl2 hn (pt_nm hp3)) kyX9_perhaps q1347 (isoO 73 rfl rfl rfl rfl) rfl rfl rfl ?_
        try simp (disch := omega) only [ZQ_73, ZQ_74, ZQ_80, ZQ_u74, ZQ_u73, us_us, us_s, us_n, h17, VF_18, VF_19, VF_20, VF_21, VF_g17, VF_g18, VF_g19, VF_g20, VF_g21]
        exact w4 _ _ _ _ _ (nxT_le hl2) (by rw [show nxT (σ 80) n a2.1 = p from by have h := hp3; rw [pt_f (pt_wd h) (pt_nm h)] at h; cases h; rfl]; exact (by unfold hsT; rw [if_pos h8]; simp only [hp1, hp2, hp3, bd_l, bd_r]))
      · by_cases hw3 : wdT (σ 80) n 9 a2.1
        · refine V_istore_n C dX9_houseItem_72 rfl ?_
          refine V_aload_n C dX9_houseItem_73 rfl ?_
          refine V_aload_n C dX9_houseItem_74 rfl ?_
          refine V_cv C hE dX9_houseItem_75 (c_X9_word h17 hl2 hn) kyX9_word q1325 (isoO 73 rfl rfl rfl rfl) rfl rfl rfl ?_
          try simp (disch := omega) only [ZQ_73, ZQ_74, ZQ_80, ZQ_u74, ZQ_u73, us_us, us_s, us_n, h17, VF_18, VF_19, VF_20, VF_21, VF_g17, VF_g18, VF_g19, VF_g20, VF_g21]
          refine V_ldc2 C dX9_houseItem_78 q1356 ?_
          refine V_lcmp C dX9_houseItem_81 ?_
          refine V_if_ne C dX9_houseItem_82 (fun c82 => absurd ((wl_k (t := σ 80) (n := n) (s := a2.1) (w := 0) (i := 9) (c := 408819) (by decide) (by decide +kernel)).mpr ⟨rfl, hw3⟩) c82) (fun c82 => ?_)
          refine V_iconst C 1 dX9_houseItem_85 (by decide) ?_
          refine V_goto C dX9_houseItem_86 ?_
          refine V_iconst C 0 dX9_houseItem_90 (by decide) ?_
          refine V_bipush C 99 dX9_houseItem_91 (by decide) ?_
          refine V_bipush C 8 dX9_houseItem_93 (by decide) ?_
          refine V_cv C hE dX9_houseItem_95 (c_perhY (lo := 0) (hi := 99) rfl rfl (by omega) (by omega) h17 hl2 hn (pt_nm2 hp3 hw3)) kyX9_perhaps q1347 (isoO 73 rfl rfl rfl rfl) rfl rfl rfl ?_
          try simp (disch := omega) only [ZQ_73, ZQ_74, ZQ_80, ZQ_u74, ZQ_u73, us_us, us_s, us_n, h17, VF_18, VF_19, VF_20, VF_21, VF_g17, VF_g18, VF_g19, VF_g20, VF_g21]
          exact V_nx (by rw [show a3.1 = nxT (σ 80) n (nxT (σ 80) n a2.1) from by have h := hp3; rw [pt_y hw3 (pt_nm2 h hw3)] at h; cases h; rfl]) rfl (V_st (by rw [show a3.2 = nI (vlT (σ 80) n (nxT (σ 80) n a2.1)) from by have h := hp3; rw [pt_y hw3 (pt_nm2 h hw3)] at h; cases h; rfl]) (o4 a1 a2 a3 _ hp1 hp2 hp3))
        · refine V_istore_n C dX9_houseItem_72 rfl ?_
          refine V_aload_n C dX9_houseItem_73 rfl ?_
          refine V_aload_n C dX9_houseItem_74 rfl ?_
          refine V_cv C hE dX9_houseItem_75 (c_X9_word h17 hl2 hn) kyX9_word q1325 (isoO 73 rfl rfl rfl rfl) rfl rfl rfl ?_
          try simp (disch := omega) only [ZQ_73, ZQ_74, ZQ_80, ZQ_u74, ZQ_u73, us_us, us_s, us_n, h17, VF_18, VF_19, VF_20, VF_21, VF_g17, VF_g18, VF_g19, VF_g20, VF_g21]
          refine V_ldc2 C dX9_houseItem_78 q1356 ?_
          refine V_lcmp C dX9_houseItem_81 ?_
          refine V_if_ne C dX9_houseItem_82 (fun c82 => ?_) (fun c82 => absurd c82 (fun q => hw3 ((wl_k (t := σ 80) (n := n) (s := a2.1) (w := 0) (i := 9) (c := 408819) (by decide) (by decide +kernel)).mp q).2))
          refine V_iconst C 0 dX9_houseItem_89 (by decide) ?_
          refine V_iconst C 0 dX9_houseItem_90 (by decide) ?_
          refine V_bipush C 99 dX9_houseItem_91 (by decide) ?_
          refine V_bipush C 8 dX9_houseItem_93 (by decide) ?_
          refine V_cv C hE dX9_houseItem_95 (c_perh0) kyX9_perhaps q1347 (isoO 73 rfl rfl rfl rfl) rfl rfl rfl ?_
          try simp (disch := omega) only [ZQ_73, ZQ_74, ZQ_80, ZQ_u74, ZQ_u73, us_us, us_s, us_n, h17, VF_18, VF_19, VF_20, VF_21, VF_g17, VF_g18, VF_g19, VF_g20, VF_g21]
          exact V_nx (by rw [show a3.1 = a2.1 from by have h := hp3; rw [pt_n hw3] at h; cases h; rfl]) rfl (V_st (by rw [show a3.2 = 8 from by have h := hp3; rw [pt_n hw3] at h; cases h; rfl]) (o4 a1 a2 a3 _ hp1 hp2 hp3))
    have o2 : ∀ (a1 : Nat × Int32) (v : Int32), ptT (σ 80) n 7 0 400 100 (nxT (σ 80) n s) = .inr a1 → V x (eA E) (AP x E (ZQ σ f n a1.1 v 0 r)) 0 0 46 [some (.ref (ad E 73)), some (.int k), none, none, none, none, none] [.int a1.2] := by
      intro a1 v hp1
      have hl1 : a1.1 ≤ n := pt_le2 (nxT_le hs) hp1
      rcases hp2 : ptT (σ 80) n 8 1 40 10 a1.1 with p | a2
      · refine V_istore_n C dX9_houseItem_46 rfl ?_
        refine V_aload_n C dX9_houseItem_47 rfl ?_
        refine V_aload_n C dX9_houseItem_48 rfl ?_
        refine V_cv C hE dX9_houseItem_49 (c_X9_word h17 hl1 hn) kyX9_word q1325 (isoO 73 rfl rfl rfl rfl) rfl rfl rfl ?_
        try simp (disch := omega) only [ZQ_73, ZQ_74, ZQ_80, ZQ_u74, ZQ_u73, us_us, us_s, us_n, h17, VF_18, VF_19, VF_20, VF_21, VF_g17, VF_g18, VF_g19, VF_g20, VF_g21]
        refine V_ldc2 C dX9_houseItem_52 q1355 ?_
        refine V_lcmp C dX9_houseItem_55 ?_
        refine V_if_ne C dX9_houseItem_56 (fun c56 => absurd ((wl_k (t := σ 80) (n := n) (s := a1.1) (w := 0) (i := 8) (c := 755084) (by decide) (by decide +kernel)).mpr ⟨rfl, pt_wd hp2⟩) c56) (fun c56 => ?_)
        refine V_iconst C 1 dX9_houseItem_59 (by decide) ?_
        refine V_goto C dX9_houseItem_60 ?_
        refine V_iconst C 1 dX9_houseItem_64 (by decide) ?_
        refine V_bipush C 40 dX9_houseItem_65 (by decide) ?_
        refine V_bipush C 10 dX9_houseItem_67 (by decide) ?_
        refine V_cv C hE dX9_houseItem_69 (c_perhN (lo := 1) (hi := 40) rfl rfl (by omega) (by omega) h17 hl1 hn (pt_nm hp2)) kyX9_perhaps q1347 (isoO 73 rfl rfl rfl rfl) rfl rfl rfl ?_
        try simp (disch := omega) only [ZQ_73, ZQ_74, ZQ_80, ZQ_u74, ZQ_u73, us_us, us_s, us_n, h17, VF_18, VF_19, VF_20, VF_21, VF_g17, VF_g18, VF_g19, VF_g20, VF_g21]
        exact w3 _ _ _ _ (nxT_le hl1) (by rw [show nxT (σ 80) n a1.1 = p from by have h := hp2; rw [pt_f (pt_wd h) (pt_nm h)] at h; cases h; rfl]; exact (by unfold hsT; rw [if_pos h8]; simp only [hp1, hp2, bd_l, bd_r]))
      · by_cases hw2 : wdT (σ 80) n 8 a1.1
        · refine V_istore_n C dX9_houseItem_46 rfl ?_
          refine V_aload_n C dX9_houseItem_47 rfl ?_
          refine V_aload_n C dX9_houseItem_48 rfl ?_
          refine V_cv C hE dX9_houseItem_49 (c_X9_word h17 hl1 hn) kyX9_word q1325 (isoO 73 rfl rfl rfl rfl) rfl rfl rfl ?_
          try simp (disch := omega) only [ZQ_73, ZQ_74, ZQ_80, ZQ_u74, ZQ_u73, us_us, us_s, us_n, h17, VF_18, VF_19, VF_20, VF_21, VF_g17, VF_g18, VF_g19, VF_g20, VF_g21]
          refine V_ldc2 C dX9_houseItem_52 q1355 ?_
          refine V_lcmp C dX9_houseItem_55 ?_
          refine V_if_ne C dX9_houseItem_56 (fun c56 => absurd ((wl_k (t := σ 80) (n := n) (s := a1.1) (w := 0) (i := 8) (c := 755084) (by decide) (by decide +kernel)).mpr ⟨rfl, hw2⟩) c56) (fun c56 => ?_)
          refine V_iconst C 1 dX9_houseItem_59 (by decide) ?_
          refine V_goto C dX9_houseItem_60 ?_
          refine V_iconst C 1 dX9_houseItem_64 (by decide) ?_
          refine V_bipush C 40 dX9_houseItem_65 (by decide) ?_
          refine V_bipush C 10 dX9_houseItem_67 (by decide) ?_
          refine V_cv C hE dX9_houseItem_69 (c_perhY (lo := 1) (hi := 40) rfl rfl (by omega) (by omega) h17 hl1 hn (pt_nm2 hp2 hw2)) kyX9_perhaps q1347 (isoO 73 rfl rfl rfl rfl) rfl rfl rfl ?_
          try simp (disch := omega) only [ZQ_73, ZQ_74, ZQ_80, ZQ_u74, ZQ_u73, us_us, us_s, us_n, h17, VF_18, VF_19, VF_20, VF_21, VF_g17, VF_g18, VF_g19, VF_g20, VF_g21]
          exact V_nx (by rw [show a2.1 = nxT (σ 80) n (nxT (σ 80) n a1.1) from by have h := hp2; rw [pt_y hw2 (pt_nm2 h hw2)] at h; cases h; rfl]) rfl (V_st (by rw [show a2.2 = nI (vlT (σ 80) n (nxT (σ 80) n a1.1)) from by have h := hp2; rw [pt_y hw2 (pt_nm2 h hw2)] at h; cases h; rfl]) (o3 a1 a2 _ hp1 hp2))
        · refine V_istore_n C dX9_houseItem_46 rfl ?_
          refine V_aload_n C dX9_houseItem_47 rfl ?_
          refine V_aload_n C dX9_houseItem_48 rfl ?_
          refine V_cv C hE dX9_houseItem_49 (c_X9_word h17 hl1 hn) kyX9_word q1325 (isoO 73 rfl rfl rfl rfl) rfl rfl rfl ?_
          try simp (disch := omega) only [ZQ_73, ZQ_74, ZQ_80, ZQ_u74, ZQ_u73, us_us, us_s, us_n, h17, VF_18, VF_19, VF_20, VF_21, VF_g17, VF_g18, VF_g19, VF_g20, VF_g21]
          refine V_ldc2 C dX9_houseItem_52 q1355 ?_
          refine V_lcmp C dX9_houseItem_55 ?_
          refine V_if_ne C dX9_houseItem_56 (fun c56 => ?_) (fun c56 => absurd c56 (fun q => hw2 ((wl_k (t := σ 80) (n := n) (s := a1.1) (w := 0) (i := 8) (c := 755084) (by decide) (by decide +kernel)).mp q).2))
          refine V_iconst C 0 dX9_houseItem_63 (by decide) ?_
          refine V_iconst C 1 dX9_houseItem_64 (by decide) ?_
          refine V_bipush C 40 dX9_houseItem_65 (by decide) ?_
          refine V_bipush C 10 dX9_houseItem_67 (by decide) ?_
          refine V_cv C hE dX9_houseItem_69 (c_perh0) kyX9_perhaps q1347 (isoO 73 rfl rfl rfl rfl) rfl rfl rfl ?_
          try simp (disch := omega) only [ZQ_73, ZQ_74, ZQ_80, ZQ_u74, ZQ_u73, us_us, us_s, us_n, h17, VF_18, VF_19, VF_20, VF_21, VF_g17, VF_g18, VF_g19, VF_g20, VF_g21]
          exact V_nx (by rw [show a2.1 = a1.1 from by have h := hp2; rw [pt_n hw2] at h; cases h; rfl]) rfl (V_st (by rw [show a2.2 = 10 from by have h := hp2; rw [pt_n hw2] at h; cases h; rfl]) (o3 a1 a2 _ hp1 hp2))
    rcases hp1 : ptT (σ 80) n 7 0 400 100 (nxT (σ 80) n s) with p | a1
    · refine V_aload_n C dX9_houseItem_20 rfl ?_
      refine V_aload_n C dX9_houseItem_21 rfl ?_
      refine V_cv C hE dX9_houseItem_22 (c_X9_word h17 (nxT_le hs) hn) kyX9_word q1325 (isoO 73 rfl rfl rfl rfl) rfl rfl rfl ?_
      try simp (disch := omega) only [ZQ_73, ZQ_74, ZQ_80, ZQ_u74, ZQ_u73, us_us, us_s, us_n, h17, VF_18, VF_19, VF_20, VF_21, VF_g17, VF_g18, VF_g19, VF_g20, VF_g21]
      refine V_ldc2 C dX9_houseItem_25 q1346 ?_
      refine V_lcmp C dX9_houseItem_28 ?_
      refine V_if_ne C dX9_houseItem_29 (fun c29 => absurd ((wl_k (t := σ 80) (n := n) (s := (nxT (σ 80) n s)) (w := 0) (i := 7) (c := 755277) (by decide) (by decide +kernel)).mpr ⟨rfl, pt_wd hp1⟩) c29) (fun c29 => ?_)
      refine V_iconst C 1 dX9_houseItem_32 (by decide) ?_
      refine V_goto C dX9_houseItem_33 ?_
      refine V_iconst C 0 dX9_houseItem_37 (by decide) ?_
      refine V_sipush C 400 dX9_houseItem_38 (by decide) ?_
      refine V_bipush C 100 dX9_houseItem_41 (by decide) ?_
      refine V_cv C hE dX9_houseItem_43 (c_perhN (lo := 0) (hi := 400) rfl rfl (by omega) (by omega) h17 (nxT_le hs) hn (pt_nm hp1)) kyX9_perhaps q1347 (isoO 73 rfl rfl rfl rfl) rfl rfl rfl ?_
      try simp (disch := omega) only [ZQ_73, ZQ_74, ZQ_80, ZQ_u74, ZQ_u73, us_us, us_s, us_n, h17, VF_18, VF_19, VF_20, VF_21, VF_g17, VF_g18, VF_g19, VF_g20, VF_g21]
      exact w2 _ _ _  (nxT_le (nxT_le hs)) (by rw [show nxT (σ 80) n (nxT (σ 80) n s) = p from by have h := hp1; rw [pt_f (pt_wd h) (pt_nm h)] at h; cases h; rfl]; exact (by unfold hsT; rw [if_pos h8]; simp only [hp1, bd_l, bd_r]))
    · by_cases hw1 : wdT (σ 80) n 7 (nxT (σ 80) n s)
      · refine V_aload_n C dX9_houseItem_20 rfl ?_
        refine V_aload_n C dX9_houseItem_21 rfl ?_
        refine V_cv C hE dX9_houseItem_22 (c_X9_word h17 (nxT_le hs) hn) kyX9_word q1325 (isoO 73 rfl rfl rfl rfl) rfl rfl rfl ?_
        try simp (disch := omega) only [ZQ_73, ZQ_74, ZQ_80, ZQ_u74, ZQ_u73, us_us, us_s, us_n, h17, VF_18, VF_19, VF_20, VF_21, VF_g17, VF_g18, VF_g19, VF_g20, VF_g21]
        refine V_ldc2 C dX9_houseItem_25 q1346 ?_
        refine V_lcmp C dX9_houseItem_28 ?_
        refine V_if_ne C dX9_houseItem_29 (fun c29 => absurd ((wl_k (t := σ 80) (n := n) (s := (nxT (σ 80) n s)) (w := 0) (i := 7) (c := 755277) (by decide) (by decide +kernel)).mpr ⟨rfl, hw1⟩) c29) (fun c29 => ?_)
        refine V_iconst C 1 dX9_houseItem_32 (by decide) ?_
        refine V_goto C dX9_houseItem_33 ?_
        refine V_iconst C 0 dX9_houseItem_37 (by decide) ?_
        refine V_sipush C 400 dX9_houseItem_38 (by decide) ?_
        refine V_bipush C 100 dX9_houseItem_41 (by decide) ?_
        refine V_cv C hE dX9_houseItem_43 (c_perhY (lo := 0) (hi := 400) rfl rfl (by omega) (by omega) h17 (nxT_le hs) hn (pt_nm2 hp1 hw1)) kyX9_perhaps q1347 (isoO 73 rfl rfl rfl rfl) rfl rfl rfl ?_
        try simp (disch := omega) only [ZQ_73, ZQ_74, ZQ_80, ZQ_u74, ZQ_u73, us_us, us_s, us_n, h17, VF_18, VF_19, VF_20, VF_21, VF_g17, VF_g18, VF_g19, VF_g20, VF_g21]
        exact V_nx (by rw [show a1.1 = nxT (σ 80) n (nxT (σ 80) n (nxT (σ 80) n s)) from by have h := hp1; rw [pt_y hw1 (pt_nm2 h hw1)] at h; cases h; rfl]) rfl (V_st (by rw [show a1.2 = nI (vlT (σ 80) n (nxT (σ 80) n (nxT (σ 80) n s))) from by have h := hp1; rw [pt_y hw1 (pt_nm2 h hw1)] at h; cases h; rfl]) (o2  a1 _ hp1))
      · refine V_aload_n C dX9_houseItem_20 rfl ?_
        refine V_aload_n C dX9_houseItem_21 rfl ?_
        refine V_cv C hE dX9_houseItem_22 (c_X9_word h17 (nxT_le hs) hn) kyX9_word q1325 (isoO 73 rfl rfl rfl rfl) rfl rfl rfl ?_
        try simp (disch := omega) only [ZQ_73, ZQ_74, ZQ_80, ZQ_u74, ZQ_u73, us_us, us_s, us_n, h17, VF_18, VF_19, VF_20, VF_21, VF_g17, VF_g18, VF_g19, VF_g20, VF_g21]
        refine V_ldc2 C dX9_houseItem_25 q1346 ?_
        refine V_lcmp C dX9_houseItem_28 ?_
        refine V_if_ne C dX9_houseItem_29 (fun c29 => ?_) (fun c29 => absurd c29 (fun q => hw1 ((wl_k (t := σ 80) (n := n) (s := (nxT (σ 80) n s)) (w := 0) (i := 7) (c := 755277) (by decide) (by decide +kernel)).mp q).2))
        refine V_iconst C 0 dX9_houseItem_36 (by decide) ?_
        refine V_iconst C 0 dX9_houseItem_37 (by decide) ?_
        refine V_sipush C 400 dX9_houseItem_38 (by decide) ?_
        refine V_bipush C 100 dX9_houseItem_41 (by decide) ?_
        refine V_cv C hE dX9_houseItem_43 (c_perh0) kyX9_perhaps q1347 (isoO 73 rfl rfl rfl rfl) rfl rfl rfl ?_
        try simp (disch := omega) only [ZQ_73, ZQ_74, ZQ_80, ZQ_u74, ZQ_u73, us_us, us_s, us_n, h17, VF_18, VF_19, VF_20, VF_21, VF_g17, VF_g18, VF_g19, VF_g20, VF_g21]
        exact V_nx (by rw [show a1.1 = (nxT (σ 80) n s) from by have h := hp1; rw [pt_n hw1] at h; cases h; rfl]) rfl (V_st (by rw [show a1.2 = 100 from by have h := hp1; rw [pt_n hw1] at h; cases h; rfl]) (o2  a1 _ hp1))
  · refine V_aload_n C dX9_houseItem_0 rfl ?_
    refine V_aload_n C dX9_houseItem_1 rfl ?_
    refine V_get C dX9_houseItem_2 (rdO (j := 0) 73 rfl rfl rfl rfl rfl) in_X9 (by decide) q907 rfl ?_
    refine V_iconst C 1 dX9_houseItem_5 (by decide) ?_
    refine V_iald C 1 rfl rfl rfl dX9_houseItem_6 (rdM 74 1 rfl rfl rfl) ?_
    rw [ZQ_74, hr1]
    refine V_bipush C 8 dX9_houseItem_7 (by decide) ?_
    refine V_icmp_ge C dX9_houseItem_9 (fun c9 => ?_) (fun c9 => absurd (nI_le (a := 8) (b := nh r) (by omega) (by omega)) c9)
    refine V_iconst C 0 dX9_houseItem_16 (by decide) ?_
    refine V_cv0 C hE dX9_houseItem_17 (c_needs0 h17 hs hn) kyX9_needs q1342 (isoO 73 rfl rfl rfl rfl) rfl rfl rfl ?_
    try simp (disch := omega) only [ZQ_73, ZQ_74, ZQ_80, ZQ_u74, ZQ_u73, us_us, us_s, us_n, h17, VF_18, VF_19, VF_20, VF_21, VF_g17, VF_g18, VF_g19, VF_g20, VF_g21]
    exact w1 _ _ hs (by unfold hsT; rw [if_neg h8])

theorem c_X9_steepItem {l : Launch} {E : En} {σ : Sg} {f r : Nat → Int32} {n s : Nat} {v : Int32} (h17 : f 17 = nI n) (hs : s ≤ n) (hn : n ≤ 120) : MN l yX9_steepItem cX9_steepItem 2 none rmX9_steepItem E [.ref (ad E 73)] (ZQ σ f n s v 0 r) (ZH σ f n (spT (σ 80) n s r)) := by
  refine MN_of (by decide +kernel) rfl fun x C hE hT hcan => ?_
  have C : CX x cX9_steepItem RX9 rmX9_steepItem := C
  refine V_L (L' := [some (.ref (ad E 73)), none]) rfl ?_
  by_cases h1 : nmT (σ 80) n 0 6 (nxT (σ 80) n s)
  · have h1v := (nmT_i.mp h1).2.2
    refine V_aload_n C dX9_steepItem_0 rfl ?_
    refine V_iconst C 1 dX9_steepItem_1 (by decide) ?_
    refine V_iconst C 0 dX9_steepItem_2 (by decide) ?_
    refine V_bipush C 6 dX9_steepItem_3 (by decide) ?_
    refine V_iconst C 0 dX9_steepItem_5 (by decide) ?_
    refine V_cv C hE dX9_steepItem_6 (c_perhY (lo := 0) (hi := 6) rfl rfl (by omega) (by omega) h17 hs hn h1) kyX9_perhaps q1347 (isoO 73 rfl rfl rfl rfl) rfl rfl rfl ?_
    try simp (disch := omega) only [ZQ_73, ZQ_74, ZQ_80, ZQ_u74, ZQ_u73, us_us, us_s, us_n, h17, VF_18, VF_19, VF_20, VF_21, VF_g17, VF_g18, VF_g19, VF_g20, VF_g21]
    refine V_istore_n C dX9_steepItem_9 rfl ?_
    by_cases h2 : nmT (σ 80) n 0 9 (nxT (σ 80) n (nxT (σ 80) n s))
    · refine V_aload_n C dX9_steepItem_10 rfl ?_
      refine V_iconst C 0 dX9_steepItem_11 (by decide) ?_
      refine V_bipush C 9 dX9_steepItem_12 (by decide) ?_
      refine V_cv0 C hE dX9_steepItem_14 (c_numY (lo := 0) (hi := 9) rfl rfl (by omega) (by omega) h17 (nxT_le (nxT_le hs)) hn h2) kyX9_number q1351 (isoO 73 rfl rfl rfl rfl) rfl rfl rfl ?_
      try simp (disch := omega) only [ZQ_73, ZQ_74, ZQ_80, ZQ_u74, ZQ_u73, us_us, us_s, us_n, h17, VF_18, VF_19, VF_20, VF_21, VF_g17, VF_g18, VF_g19, VF_g20, VF_g21]
      refine V_aload_n C dX9_steepItem_17 rfl ?_
      refine V_get C dX9_steepItem_18 (rdO (j := 21) 73 rfl rfl rfl rfl rfl) in_X9 (by decide) q928 rfl ?_
      try simp (disch := omega) only [ZQ_73, ZQ_74, ZQ_80, ZQ_u74, ZQ_u73, us_us, us_s, us_n, h17, VF_18, VF_19, VF_20, VF_21, VF_g17, VF_g18, VF_g19, VF_g20, VF_g21]
      refine V_if_ne C dX9_steepItem_21 (fun c21 => absurd (by decide) c21) (fun c21 => ?_)
      refine V_aload_n C dX9_steepItem_24 rfl ?_
      refine V_get C dX9_steepItem_25 (rdO (j := 0) 73 rfl rfl rfl rfl rfl) in_X9 (by decide) q907 rfl ?_
      refine V_bipush C 8 dX9_steepItem_28 (by decide) ?_
      refine V_iload_n C dX9_steepItem_30 rfl ?_
      refine V_iadd C dX9_steepItem_31 ?_
      refine V_aload_n C dX9_steepItem_32 rfl ?_
      refine V_get C dX9_steepItem_33 (rdO (j := 20) 73 rfl rfl rfl rfl rfl) in_X9 (by decide) q927 rfl ?_
      try simp (disch := omega) only [ZQ_73, ZQ_74, ZQ_80, ZQ_u74, ZQ_u73, us_us, us_s, us_n, h17, VF_18, VF_19, VF_20, VF_21, VF_g17, VF_g18, VF_g19, VF_g20, VF_g21]
      refine V_iastN C (8 + vlT (σ 80) n (nxT (σ 80) n s)) (nI_add 8 _) (by omega) (by omega) dX9_steepItem_36 (wrM 74 (8 + vlT (σ 80) n (nxT (σ 80) n s)) rfl rfl (sc8 (by omega)) (q1n (by omega))) ?_
      try simp (disch := omega) only [ZQ_73, ZQ_74, ZQ_80, ZQ_u74, ZQ_u73, us_us, us_s, us_n, h17, VF_18, VF_19, VF_20, VF_21, VF_g17, VF_g18, VF_g19, VF_g20, VF_g21]
      exact V_retN C dX9_steepItem_37 hT (ZH_t (by unfold spT; rw [if_pos h1, if_pos h2]))
    · refine V_aload_n C dX9_steepItem_10 rfl ?_
      refine V_iconst C 0 dX9_steepItem_11 (by decide) ?_
      refine V_bipush C 9 dX9_steepItem_12 (by decide) ?_
      refine V_cv0 C hE dX9_steepItem_14 (c_numN (lo := 0) (hi := 9) rfl rfl (by omega) (by omega) h17 (nxT_le (nxT_le hs)) hn h2) kyX9_number q1351 (isoO 73 rfl rfl rfl rfl) rfl rfl rfl ?_
      try simp (disch := omega) only [ZQ_73, ZQ_74, ZQ_80, ZQ_u74, ZQ_u73, us_us, us_s, us_n, h17, VF_18, VF_19, VF_20, VF_21, VF_g17, VF_g18, VF_g19, VF_g20, VF_g21]
      refine V_aload_n C dX9_steepItem_17 rfl ?_
      refine V_get C dX9_steepItem_18 (rdO (j := 21) 73 rfl rfl rfl rfl rfl) in_X9 (by decide) q928 rfl ?_
      try simp (disch := omega) only [ZQ_73, ZQ_74, ZQ_80, ZQ_u74, ZQ_u73, us_us, us_s, us_n, h17, VF_18, VF_19, VF_20, VF_21, VF_g17, VF_g18, VF_g19, VF_g20, VF_g21]
      refine V_if_ne C dX9_steepItem_21 (fun c21 => ?_) (fun c21 => absurd c21 (by decide))
      exact V_retN C dX9_steepItem_37 hT (ZH_f (by unfold spT; rw [if_pos h1, if_neg h2]))
  · refine V_aload_n C dX9_steepItem_0 rfl ?_
    refine V_iconst C 1 dX9_steepItem_1 (by decide) ?_
    refine V_iconst C 0 dX9_steepItem_2 (by decide) ?_
    refine V_bipush C 6 dX9_steepItem_3 (by decide) ?_
    refine V_iconst C 0 dX9_steepItem_5 (by decide) ?_
    refine V_cv C hE dX9_steepItem_6 (c_perhN (lo := 0) (hi := 6) rfl rfl (by omega) (by omega) h17 hs hn h1) kyX9_perhaps q1347 (isoO 73 rfl rfl rfl rfl) rfl rfl rfl ?_
    try simp (disch := omega) only [ZQ_73, ZQ_74, ZQ_80, ZQ_u74, ZQ_u73, us_us, us_s, us_n, h17, VF_18, VF_19, VF_20, VF_21, VF_g17, VF_g18, VF_g19, VF_g20, VF_g21]
    refine V_istore_n C dX9_steepItem_9 rfl ?_
    refine V_aload_n C dX9_steepItem_10 rfl ?_
    refine V_iconst C 0 dX9_steepItem_11 (by decide) ?_
    refine V_bipush C 9 dX9_steepItem_12 (by decide) ?_
    refine V_cv0 C hE dX9_steepItem_14 (c_numW h17 (nxT_le hs) hn) kyX9_number q1351 (isoO 73 rfl rfl rfl rfl) rfl rfl rfl ?_
    try simp (disch := omega) only [ZQ_73, ZQ_74, ZQ_80, ZQ_u74, ZQ_u73, us_us, us_s, us_n, h17, VF_18, VF_19, VF_20, VF_21, VF_g17, VF_g18, VF_g19, VF_g20, VF_g21]
    refine V_aload_n C dX9_steepItem_17 rfl ?_
    refine V_get C dX9_steepItem_18 (rdO (j := 21) 73 rfl rfl rfl rfl rfl) in_X9 (by decide) q928 rfl ?_
    try simp (disch := omega) only [ZQ_73, ZQ_74, ZQ_80, ZQ_u74, ZQ_u73, us_us, us_s, us_n, h17, VF_18, VF_19, VF_20, VF_21, VF_g17, VF_g18, VF_g19, VF_g20, VF_g21]
    refine V_if_ne C dX9_steepItem_21 (fun c21 => ?_) (fun c21 => absurd c21 (by decide))
    exact V_retN C dX9_steepItem_37 hT (ZH_f (by unfold spT; rw [if_neg h1]))

theorem c_X9_item {l : Launch} {E : En} {σ : Sg} {f r : Nat → Int32} {n s : Nat} {v : Int32} (h17 : f 17 = nI n) (hs : s ≤ n) (hn : n ≤ 120) : MN l yX9_item cX9_item 3 none rmX9_item E [.ref (ad E 73)] (ZQ σ f n s v 0 r) (ZH σ f n (itT (σ 80) n s r)) := by
  refine MN_of (by decide +kernel) rfl fun x C hE hT hcan => ?_
  have C : CX x cX9_item RX9 rmX9_item := C
  refine V_L (L' := [some (.ref (ad E 73)), none, none]) rfl ?_
  refine V_aload_n C dX9_item_0 rfl ?_
  refine V_cv C hE dX9_item_1 (c_kind0 h17 hs hn) kyX9_kindHere q1321 (isoO 73 rfl rfl rfl rfl) rfl rfl rfl ?_
  try simp (disch := omega) only [ZQ_73, ZQ_74, ZQ_80, ZQ_u74, ZQ_u73, us_us, us_s, us_n, h17, VF_18, VF_19, VF_20, VF_21, VF_g17, VF_g18, VF_g19, VF_g20, VF_g21]
  refine V_istore_n C dX9_item_4 rfl ?_
  by_cases hk : 0 ≤ kdT (σ 80) n s
  · refine V_iload_n C dX9_item_5 rfl ?_
    refine V_if_lt C dX9_item_6 (fun c6 => absurd c6 (Int32.not_lt.mpr hk)) (fun c6 => ?_)
    refine V_aload_n C dX9_item_9 rfl ?_
    refine V_iload_n C dX9_item_10 rfl ?_
    refine V_cn C hE dX9_item_11 (c_X9_houseItem h17 hs hn) kyX9_houseItem q1338 (isoO 73 rfl rfl rfl rfl) rfl rfl rfl ?_
    rintro q u ⟨rfl, v', g', rfl, hg⟩
    refine V_goto C dX9_item_14 ?_
    exact V_retN C dX9_item_121 hT (by rw [show itT (σ 80) n s r = hsT (σ 80) n (kdT (σ 80) n s) s r from by unfold itT; rw [if_pos hk]]; exact ⟨rfl, v', g', rfl, hg⟩)
    done
  · have hk' := Int32.not_le.mp hk
    refine V_iload_n C dX9_item_5 rfl ?_
    refine V_if_lt C dX9_item_6 (fun c6 => ?_) (fun c6 => absurd (Int32.not_le.mp hk) c6)
    refine V_aload_n C dX9_item_17 rfl ?_
    refine V_cv C hE dX9_item_18 (c_X9_word h17 hs hn) kyX9_word q1325 (isoO 73 rfl rfl rfl rfl) rfl rfl rfl ?_
    try simp (disch := omega) only [ZQ_73, ZQ_74, ZQ_80, ZQ_u74, ZQ_u73, us_us, us_s, us_n, h17, VF_18, VF_19, VF_20, VF_21, VF_g17, VF_g18, VF_g19, VF_g20, VF_g21]
    by_cases h11 : wdT (σ 80) n 11 s
    · refine V_ldc2 C dX9_item_21 q1358 ?_
      refine V_lcmp C dX9_item_24 ?_
      refine V_if_ne C dX9_item_25 (fun c25 => absurd ((wl_k (t := σ 80) (n := n) (s := s) (w := 0) (i := 11) (c := 20583600) (by decide) (by decide +kernel)).mpr ⟨rfl, h11⟩) c25) (fun c25 => ?_)
      refine V_aload_n C dX9_item_28 rfl ?_
      refine V_cn C hE dX9_item_29 (c_X9_steepItem h17 hs hn) kyX9_steepItem q1359 (isoO 73 rfl rfl rfl rfl) rfl rfl rfl ?_
      rintro q u ⟨rfl, v', g', rfl, hg⟩
      refine V_goto C dX9_item_32 ?_
      exact V_retN C dX9_item_121 hT (by rw [show itT (σ 80) n s r = spT (σ 80) n s r from by unfold itT; rw [if_neg hk, if_pos h11]]; exact ⟨rfl, v', g', rfl, hg⟩)
      done
    · refine V_ldc2 C dX9_item_21 q1358 ?_
      refine V_lcmp C dX9_item_24 ?_
      refine V_if_ne C dX9_item_25 (fun c25 => ?_) (fun c25 => absurd c25 (fun q => h11 ((wl_k (t := σ 80) (n := n) (s := s) (w := 0) (i := 11) (c := 20583600) (by decide) (by decide +kernel)).mp q).2))
      refine V_aload_n C dX9_item_35 rfl ?_
      refine V_cv C hE dX9_item_36 (c_X9_word h17 hs hn) kyX9_word q1325 (isoO 73 rfl rfl rfl rfl) rfl rfl rfl ?_
      try simp (disch := omega) only [ZQ_73, ZQ_74, ZQ_80, ZQ_u74, ZQ_u73, us_us, us_s, us_n, h17, VF_18, VF_19, VF_20, VF_21, VF_g17, VF_g18, VF_g19, VF_g20, VF_g21]
      by_cases h12 : wdT (σ 80) n 12 s
      · refine V_ldc2 C dX9_item_39 q1363 ?_
        refine V_lcmp C dX9_item_42 ?_
        refine V_if_ne C dX9_item_43 (fun c43 => absurd ((wl_k (t := σ 80) (n := n) (s := s) (w := 0) (i := 12) (c := 16052) (by decide) (by decide +kernel)).mpr ⟨rfl, h12⟩) c43) (fun c43 => ?_)
        by_cases h1 : nmT (σ 80) n 0 100 (nxT (σ 80) n s)
        · refine V_aload_n C dX9_item_46 rfl ?_
          refine V_get C dX9_item_47 (rdO (j := 0) 73 rfl rfl rfl rfl rfl) in_X9 (by decide) q907 rfl ?_
          refine V_bipush C 6 dX9_item_50 (by decide) ?_
          refine V_aload_n C dX9_item_52 rfl ?_
          refine V_iconst C 1 dX9_item_53 (by decide) ?_
          refine V_iconst C 0 dX9_item_54 (by decide) ?_
          refine V_bipush C 100 dX9_item_55 (by decide) ?_
          refine V_iconst C 0 dX9_item_57 (by decide) ?_
          refine V_cv C hE dX9_item_58 (c_perhY (lo := 0) (hi := 100) rfl rfl (by omega) (by omega) h17 hs hn h1) kyX9_perhaps q1347 (isoO 73 rfl rfl rfl rfl) rfl rfl rfl ?_
          try simp (disch := omega) only [ZQ_73, ZQ_74, ZQ_80, ZQ_u74, ZQ_u73, us_us, us_s, us_n, h17, VF_18, VF_19, VF_20, VF_21, VF_g17, VF_g18, VF_g19, VF_g20, VF_g21]
          refine V_iast C 6 rfl rfl rfl dX9_item_61 (wrM 74 6 rfl rfl rfl rfl) ?_
          try simp (disch := omega) only [ZQ_73, ZQ_74, ZQ_80, ZQ_u74, ZQ_u73, us_us, us_s, us_n, h17, VF_18, VF_19, VF_20, VF_21, VF_g17, VF_g18, VF_g19, VF_g20, VF_g21]
          refine V_goto C dX9_item_62 ?_
          exact V_retN C dX9_item_121 hT (ZH_t (by rw [show itT (σ 80) n s r = ouT (σ 80) n s r from by unfold itT; rw [if_neg hk, if_neg h11, if_pos h12]]; unfold ouT; rw [if_pos h1]))
        · refine V_aload_n C dX9_item_46 rfl ?_
          refine V_get C dX9_item_47 (rdO (j := 0) 73 rfl rfl rfl rfl rfl) in_X9 (by decide) q907 rfl ?_
          refine V_bipush C 6 dX9_item_50 (by decide) ?_
          refine V_aload_n C dX9_item_52 rfl ?_
          refine V_iconst C 1 dX9_item_53 (by decide) ?_
          refine V_iconst C 0 dX9_item_54 (by decide) ?_
          refine V_bipush C 100 dX9_item_55 (by decide) ?_
          refine V_iconst C 0 dX9_item_57 (by decide) ?_
          refine V_cv C hE dX9_item_58 (c_perhN (lo := 0) (hi := 100) rfl rfl (by omega) (by omega) h17 hs hn h1) kyX9_perhaps q1347 (isoO 73 rfl rfl rfl rfl) rfl rfl rfl ?_
          try simp (disch := omega) only [ZQ_73, ZQ_74, ZQ_80, ZQ_u74, ZQ_u73, us_us, us_s, us_n, h17, VF_18, VF_19, VF_20, VF_21, VF_g17, VF_g18, VF_g19, VF_g20, VF_g21]
          refine V_iast C 6 rfl rfl rfl dX9_item_61 (wrM 74 6 rfl rfl rfl rfl) ?_
          try simp (disch := omega) only [ZQ_73, ZQ_74, ZQ_80, ZQ_u74, ZQ_u73, us_us, us_s, us_n, h17, VF_18, VF_19, VF_20, VF_21, VF_g17, VF_g18, VF_g19, VF_g20, VF_g21]
          refine V_goto C dX9_item_62 ?_
          exact V_retN C dX9_item_121 hT (ZH_f (by rw [show itT (σ 80) n s r = ouT (σ 80) n s r from by unfold itT; rw [if_neg hk, if_neg h11, if_pos h12]]; unfold ouT; rw [if_neg h1]))
      · refine V_ldc2 C dX9_item_39 q1363 ?_
        refine V_lcmp C dX9_item_42 ?_
        refine V_if_ne C dX9_item_43 (fun c43 => ?_) (fun c43 => absurd c43 (fun q => h12 ((wl_k (t := σ 80) (n := n) (s := s) (w := 0) (i := 12) (c := 16052) (by decide) (by decide +kernel)).mp q).2))
        refine V_aload_n C dX9_item_65 rfl ?_
        refine V_cv C hE dX9_item_66 (c_X9_word h17 hs hn) kyX9_word q1325 (isoO 73 rfl rfl rfl rfl) rfl rfl rfl ?_
        try simp (disch := omega) only [ZQ_73, ZQ_74, ZQ_80, ZQ_u74, ZQ_u73, us_us, us_s, us_n, h17, VF_18, VF_19, VF_20, VF_21, VF_g17, VF_g18, VF_g19, VF_g20, VF_g21]
        by_cases h13 : wdT (σ 80) n 13 s
        · refine V_ldc2 C dX9_item_69 q1364 ?_
          refine V_lcmp C dX9_item_72 ?_
          refine V_if_ne C dX9_item_73 (fun c73 => absurd ((wl_k (t := σ 80) (n := n) (s := s) (w := 0) (i := 13) (c := 9317) (by decide) (by decide +kernel)).mpr ⟨rfl, h13⟩) c73) (fun c73 => ?_)
          refine V_iconst C 1 dX9_item_76 (by decide) ?_
          refine V_goto C dX9_item_77 ?_
          refine V_istore_n C dX9_item_81 rfl ?_
          refine V_aload_n C dX9_item_82 rfl ?_
          refine V_iload_n C dX9_item_83 rfl ?_
          refine V_if_ne C dX9_item_84 (fun c84 => ?_) (fun c84 => absurd c84 (by decide))
          refine V_iconst C 1 dX9_item_98 (by decide) ?_
          refine V_goto C dX9_item_99 ?_
          refine V_cv0 C hE dX9_item_103 (c_needs1 h17 hs hn) kyX9_needs q1342 (isoO 73 rfl rfl rfl rfl) rfl rfl rfl ?_
          try simp (disch := omega) only [ZQ_73, ZQ_74, ZQ_80, ZQ_u74, ZQ_u73, us_us, us_s, us_n, h17, VF_18, VF_19, VF_20, VF_21, VF_g17, VF_g18, VF_g19, VF_g20, VF_g21]
          refine V_aload_n C dX9_item_106 rfl ?_
          refine V_get C dX9_item_107 (rdO (j := 0) 73 rfl rfl rfl rfl rfl) in_X9 (by decide) q907 rfl ?_
          refine V_iconst C 5 dX9_item_110 (by decide) ?_
          refine V_iload_n C dX9_item_111 rfl ?_
          refine V_if_eq C dX9_item_112 (fun c112 => absurd c112 (by decide)) (fun c112 => ?_)
          refine V_iconst C 1 dX9_item_115 (by decide) ?_
          refine V_goto C dX9_item_116 ?_
          refine V_iast C 5 rfl rfl rfl dX9_item_120 (wrM 74 5 rfl rfl rfl rfl) ?_
          try simp (disch := omega) only [ZQ_73, ZQ_74, ZQ_80, ZQ_u74, ZQ_u73, us_us, us_s, us_n, h17, VF_18, VF_19, VF_20, VF_21, VF_g17, VF_g18, VF_g19, VF_g20, VF_g21]
          exact V_retN C dX9_item_121 hT (ZH_t (by unfold itT; rw [if_neg hk, if_neg h11, if_neg h12, if_pos h13]))
        · refine V_ldc2 C dX9_item_69 q1364 ?_
          refine V_lcmp C dX9_item_72 ?_
          refine V_if_ne C dX9_item_73 (fun c73 => ?_) (fun c73 => absurd c73 (fun q => h13 ((wl_k (t := σ 80) (n := n) (s := s) (w := 0) (i := 13) (c := 9317) (by decide) (by decide +kernel)).mp q).2))
          refine V_iconst C 0 dX9_item_80 (by decide) ?_
          refine V_istore_n C dX9_item_81 rfl ?_
          refine V_aload_n C dX9_item_82 rfl ?_
          refine V_iload_n C dX9_item_83 rfl ?_
          refine V_if_ne C dX9_item_84 (fun c84 => absurd (rfl) c84) (fun c84 => ?_)
          refine V_aload_n C dX9_item_87 rfl ?_
          refine V_cv C hE dX9_item_88 (c_X9_word h17 hs hn) kyX9_word q1325 (isoO 73 rfl rfl rfl rfl) rfl rfl rfl ?_
          try simp (disch := omega) only [ZQ_73, ZQ_74, ZQ_80, ZQ_u74, ZQ_u73, us_us, us_s, us_n, h17, VF_18, VF_19, VF_20, VF_21, VF_g17, VF_g18, VF_g19, VF_g20, VF_g21]
          by_cases h14 : wdT (σ 80) n 14 s
          · refine V_ldc2 C dX9_item_91 q1365 ?_
            refine V_lcmp C dX9_item_94 ?_
            refine V_if_ne C dX9_item_95 (fun c95 => absurd ((wl_k (t := σ 80) (n := n) (s := s) (w := 0) (i := 14) (c := 663607) (by decide) (by decide +kernel)).mpr ⟨rfl, h14⟩) c95) (fun c95 => ?_)
            refine V_iconst C 1 dX9_item_98 (by decide) ?_
            refine V_goto C dX9_item_99 ?_
            refine V_cv0 C hE dX9_item_103 (c_needs1 h17 hs hn) kyX9_needs q1342 (isoO 73 rfl rfl rfl rfl) rfl rfl rfl ?_
            try simp (disch := omega) only [ZQ_73, ZQ_74, ZQ_80, ZQ_u74, ZQ_u73, us_us, us_s, us_n, h17, VF_18, VF_19, VF_20, VF_21, VF_g17, VF_g18, VF_g19, VF_g20, VF_g21]
            refine V_aload_n C dX9_item_106 rfl ?_
            refine V_get C dX9_item_107 (rdO (j := 0) 73 rfl rfl rfl rfl rfl) in_X9 (by decide) q907 rfl ?_
            refine V_iconst C 5 dX9_item_110 (by decide) ?_
            refine V_iload_n C dX9_item_111 rfl ?_
            refine V_if_eq C dX9_item_112 (fun c112 => ?_) (fun c112 => absurd (rfl) c112)
            refine V_iconst C 0 dX9_item_119 (by decide) ?_
            refine V_iast C 5 rfl rfl rfl dX9_item_120 (wrM 74 5 rfl rfl rfl rfl) ?_
            try simp (disch := omega) only [ZQ_73, ZQ_74, ZQ_80, ZQ_u74, ZQ_u73, us_us, us_s, us_n, h17, VF_18, VF_19, VF_20, VF_21, VF_g17, VF_g18, VF_g19, VF_g20, VF_g21]
            exact V_retN C dX9_item_121 hT (ZH_t (by unfold itT; rw [if_neg hk, if_neg h11, if_neg h12, if_neg h13, if_pos h14]))
          · refine V_ldc2 C dX9_item_91 q1365 ?_
            refine V_lcmp C dX9_item_94 ?_
            refine V_if_ne C dX9_item_95 (fun c95 => ?_) (fun c95 => absurd c95 (fun q => h14 ((wl_k (t := σ 80) (n := n) (s := s) (w := 0) (i := 14) (c := 663607) (by decide) (by decide +kernel)).mp q).2))
            refine V_iconst C 0 dX9_item_102 (by decide) ?_
            refine V_cv0 C hE dX9_item_103 (c_needs0 h17 hs hn) kyX9_needs q1342 (isoO 73 rfl rfl rfl rfl) rfl rfl rfl ?_
            try simp (disch := omega) only [ZQ_73, ZQ_74, ZQ_80, ZQ_u74, ZQ_u73, us_us, us_s, us_n, h17, VF_18, VF_19, VF_20, VF_21, VF_g17, VF_g18, VF_g19, VF_g20, VF_g21]
            refine V_aload_n C dX9_item_106 rfl ?_
            refine V_get C dX9_item_107 (rdO (j := 0) 73 rfl rfl rfl rfl rfl) in_X9 (by decide) q907 rfl ?_
            refine V_iconst C 5 dX9_item_110 (by decide) ?_
            refine V_iload_n C dX9_item_111 rfl ?_
            refine V_if_eq C dX9_item_112 (fun c112 => ?_) (fun c112 => absurd (rfl) c112)
            refine V_iconst C 0 dX9_item_119 (by decide) ?_
            refine V_iast C 5 rfl rfl rfl dX9_item_120 (wrM 74 5 rfl rfl rfl rfl) ?_
            try simp (disch := omega) only [ZQ_73, ZQ_74, ZQ_80, ZQ_u74, ZQ_u73, us_us, us_s, us_n, h17, VF_18, VF_19, VF_20, VF_21, VF_g17, VF_g18, VF_g19, VF_g20, VF_g21]
            exact V_retN C dX9_item_121 hT (ZH_f (by unfold itT; rw [if_neg hk, if_neg h11, if_neg h12, if_neg h13, if_neg h14]))

theorem c_itemW {l : Launch} {E : En} {σ : Sg} {f r : Nat → Int32} {n s : Nat} {v : Int32} (h17 : f 17 = nI n) (hs : s ≤ n) (hn : n ≤ 120) : MD l yX9_item cX9_item 3 none rmX9_item E [.ref (ad E 73)] (ZQ σ f n s v 1 r) (none) (ZQ σ f n s v 1 (upd r 5 0)) := by
  refine MD_of (by decide +kernel) rfl fun x C hE hT hcan => ?_
  have C : CX x cX9_item RX9 rmX9_item := C
  refine V_L (L' := [some (.ref (ad E 73)), none, none]) rfl ?_
  refine V_aload_n C dX9_item_0 rfl ?_
  refine V_cv C hE dX9_item_1 (c_kindW h17 hs hn) kyX9_kindHere q1321 (isoO 73 rfl rfl rfl rfl) rfl rfl rfl ?_
  try simp (disch := omega) only [ZQ_73, ZQ_74, ZQ_80, ZQ_u74, ZQ_u73, us_us, us_s, us_n, h17, VF_18, VF_19, VF_20, VF_21, VF_g17, VF_g18, VF_g19, VF_g20, VF_g21]
  refine V_istore_n C dX9_item_4 rfl ?_
  refine V_iload_n C dX9_item_5 rfl ?_
  refine V_if_lt C dX9_item_6 (fun c6 => ?_) (fun c6 => absurd (by decide) c6)
  refine V_aload_n C dX9_item_17 rfl ?_
  refine V_cv C hE dX9_item_18 (c_X9_word h17 hs hn) kyX9_word q1325 (isoO 73 rfl rfl rfl rfl) rfl rfl rfl ?_
  try simp (disch := omega) only [ZQ_73, ZQ_74, ZQ_80, ZQ_u74, ZQ_u73, us_us, us_s, us_n, h17, VF_18, VF_19, VF_20, VF_21, VF_g17, VF_g18, VF_g19, VF_g20, VF_g21]
  refine V_ldc2 C dX9_item_21 q1358 ?_
  refine V_lcmp C dX9_item_24 ?_
  refine V_if_ne C dX9_item_25 (fun c25 => ?_) (fun c25 => absurd c25 (fun q => absurd ((wl_k (t := σ 80) (n := n) (s := s) (w := 1) (i := 11) (c := 20583600) (by decide) (by decide +kernel)).mp q).1 (by decide)))
  refine V_aload_n C dX9_item_35 rfl ?_
  refine V_cv C hE dX9_item_36 (c_X9_word h17 hs hn) kyX9_word q1325 (isoO 73 rfl rfl rfl rfl) rfl rfl rfl ?_
  try simp (disch := omega) only [ZQ_73, ZQ_74, ZQ_80, ZQ_u74, ZQ_u73, us_us, us_s, us_n, h17, VF_18, VF_19, VF_20, VF_21, VF_g17, VF_g18, VF_g19, VF_g20, VF_g21]
  refine V_ldc2 C dX9_item_39 q1363 ?_
  refine V_lcmp C dX9_item_42 ?_
  refine V_if_ne C dX9_item_43 (fun c43 => ?_) (fun c43 => absurd c43 (fun q => absurd ((wl_k (t := σ 80) (n := n) (s := s) (w := 1) (i := 12) (c := 16052) (by decide) (by decide +kernel)).mp q).1 (by decide)))
  refine V_aload_n C dX9_item_65 rfl ?_
  refine V_cv C hE dX9_item_66 (c_X9_word h17 hs hn) kyX9_word q1325 (isoO 73 rfl rfl rfl rfl) rfl rfl rfl ?_
  try simp (disch := omega) only [ZQ_73, ZQ_74, ZQ_80, ZQ_u74, ZQ_u73, us_us, us_s, us_n, h17, VF_18, VF_19, VF_20, VF_21, VF_g17, VF_g18, VF_g19, VF_g20, VF_g21]
  refine V_ldc2 C dX9_item_69 q1364 ?_
  refine V_lcmp C dX9_item_72 ?_
  refine V_if_ne C dX9_item_73 (fun c73 => ?_) (fun c73 => absurd c73 (fun q => absurd ((wl_k (t := σ 80) (n := n) (s := s) (w := 1) (i := 13) (c := 9317) (by decide) (by decide +kernel)).mp q).1 (by decide)))
  refine V_iconst C 0 dX9_item_80 (by decide) ?_
  refine V_istore_n C dX9_item_81 rfl ?_
  refine V_aload_n C dX9_item_82 rfl ?_
  refine V_iload_n C dX9_item_83 rfl ?_
  refine V_if_ne C dX9_item_84 (fun c84 => absurd (rfl) c84) (fun c84 => ?_)
  refine V_aload_n C dX9_item_87 rfl ?_
  refine V_cv C hE dX9_item_88 (c_X9_word h17 hs hn) kyX9_word q1325 (isoO 73 rfl rfl rfl rfl) rfl rfl rfl ?_
  try simp (disch := omega) only [ZQ_73, ZQ_74, ZQ_80, ZQ_u74, ZQ_u73, us_us, us_s, us_n, h17, VF_18, VF_19, VF_20, VF_21, VF_g17, VF_g18, VF_g19, VF_g20, VF_g21]
  refine V_ldc2 C dX9_item_91 q1365 ?_
  refine V_lcmp C dX9_item_94 ?_
  refine V_if_ne C dX9_item_95 (fun c95 => ?_) (fun c95 => absurd c95 (fun q => absurd ((wl_k (t := σ 80) (n := n) (s := s) (w := 1) (i := 14) (c := 663607) (by decide) (by decide +kernel)).mp q).1 (by decide)))
  refine V_iconst C 0 dX9_item_102 (by decide) ?_
  refine V_cv0 C hE dX9_item_103 (c_needsW h17 hs hn) kyX9_needs q1342 (isoO 73 rfl rfl rfl rfl) rfl rfl rfl ?_
  try simp (disch := omega) only [ZQ_73, ZQ_74, ZQ_80, ZQ_u74, ZQ_u73, us_us, us_s, us_n, h17, VF_18, VF_19, VF_20, VF_21, VF_g17, VF_g18, VF_g19, VF_g20, VF_g21]
  refine V_aload_n C dX9_item_106 rfl ?_
  refine V_get C dX9_item_107 (rdO (j := 0) 73 rfl rfl rfl rfl rfl) in_X9 (by decide) q907 rfl ?_
  refine V_iconst C 5 dX9_item_110 (by decide) ?_
  refine V_iload_n C dX9_item_111 rfl ?_
  refine V_if_eq C dX9_item_112 (fun c112 => ?_) (fun c112 => absurd (rfl) c112)
  refine V_iconst C 0 dX9_item_119 (by decide) ?_
  refine V_iast C 5 rfl rfl rfl dX9_item_120 (wrM 74 5 rfl rfl rfl rfl) ?_
  try simp (disch := omega) only [ZQ_73, ZQ_74, ZQ_80, ZQ_u74, ZQ_u73, us_us, us_s, us_n, h17, VF_18, VF_19, VF_20, VF_21, VF_g17, VF_g18, VF_g19, VF_g20, VF_g21]
  exact V_retD C dX9_item_121 hT rfl

