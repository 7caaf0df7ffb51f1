/-! ===== the model's night begins ===== -/
/-- the first k places of the rows that G names -/
def fillG (S : Sg) (G : Nat → Nat → Option Int) (k : Nat) : Sg := fun f i j => if i = 0 ∧ j < k then (G f j).getD (S f i j) else S f i j
theorem fillG_0 {S : Sg} {G : Nat → Nat → Option Int} : fillG S G 0 = S := by
  funext f i j
  simp [fillG]
theorem fillG_up {S T : Sg} {G : Nat → Nat → Option Int} {k : Nat} (h1 : ∀ f i j, ¬ (i = 0 ∧ j = k) → T f i j = fillG S G k f i j) (h2 : ∀ f, T f 0 k = (G f k).getD (S f 0 k)) : T = fillG S G (k + 1) := by
  funext f i j
  by_cases h : i = 0 ∧ j = k
  · obtain ⟨rfl, rfl⟩ := h
    rw [h2]
    simp [fillG]
  · rw [h1 f i j h]
    simp only [fillG]
    by_cases h3 : i = 0 ∧ j < k
    · rw [if_pos h3, if_pos ⟨h3.1, by omega⟩]
    · rw [if_neg h3, if_neg (fun z => by omega)]
def G1 (f j : Nat) : Option Int := if f = 79 then some (if j % 6 = 0 then 0 else -1) else if f = 80 then some (-1) else if f = 93 then some 0 else none
def G2 (f _j : Nat) : Option Int := if f = 81 ∨ f = 82 ∨ f = 84 then some 0 else none
def G3 (S : Sg) (f j : Nat) : Option Int := if f = 88 then some (S 61 0 j) else if f = 89 ∨ f = 90 ∨ f = 91 then some 0 else none
def G4 (f _j : Nat) : Option Int := if f = 87 then some (-1) else none
theorem G1_s {S : Sg} {k : Nat} {v : Int} (hv : v = if k % 6 = 0 then 0 else -1) : up (up (up (fillG S G1 k) 79 0 k v) 80 0 k (-1)) 93 0 k 0 = fillG S G1 (k + 1) := by
  subst hv
  refine fillG_up (fun f i j h => ?_) (fun f => ?_)
  · simp only [up]
    rw [if_neg (fun z => h z.2), if_neg (fun z => h z.2), if_neg (fun z => h z.2)]
  · simp only [up, G1, fillG, true_and, and_true, Nat.lt_irrefl, if_false]
    by_cases h1 : f = 93
    · subst h1; simp
    · by_cases h2 : f = 80
      · subst h2; simp
      · by_cases h3 : f = 79
        · subst h3; simp
        · simp [h1, h2, h3]
theorem G2_s {S : Sg} {k : Nat} : up (up (up (fillG S G2 k) 81 0 k 0) 82 0 k 0) 84 0 k 0 = fillG S G2 (k + 1) := by
  refine fillG_up (fun f i j h => ?_) (fun f => ?_)
  · simp only [up]
    rw [if_neg (fun z => h z.2), if_neg (fun z => h z.2), if_neg (fun z => h z.2)]
  · simp only [up, G2, fillG, true_and, and_true, Nat.lt_irrefl, if_false]
    by_cases h1 : f = 84
    · subst h1; simp
    · by_cases h2 : f = 82
      · subst h2; simp
      · by_cases h3 : f = 81
        · subst h3; simp
        · simp [h1, h2, h3]
theorem G3_s {S : Sg} {k : Nat} {v : Int} (hv : v = S 61 0 k) : up (up (up (up (fillG S (G3 S) k) 88 0 k v) 89 0 k 0) 90 0 k 0) 91 0 k 0 = fillG S (G3 S) (k + 1) := by
  subst hv
  refine fillG_up (fun f i j h => ?_) (fun f => ?_)
  · simp only [up]
    rw [if_neg (fun z => h z.2), if_neg (fun z => h z.2), if_neg (fun z => h z.2), if_neg (fun z => h z.2)]
  · simp only [up, G3, fillG, true_and, and_true, Nat.lt_irrefl, if_false]
    by_cases h1 : f = 91
    · subst h1; simp
    · by_cases h2 : f = 90
      · subst h2; simp
      · by_cases h3 : f = 89
        · subst h3; simp
        · by_cases h4 : f = 88
          · subst h4; simp
          · simp [h1, h2, h3, h4]
theorem G4_s {S : Sg} {k : Nat} : up (fillG S G4 k) 87 0 k (-1) = fillG S G4 (k + 1) := by
  refine fillG_up (fun f i j h => ?_) (fun f => ?_)
  · simp only [up]
    rw [if_neg (fun z => h z.2)]
  · simp only [up, G4, fillG, true_and, and_true, Nat.lt_irrefl, if_false]
    by_cases h1 : f = 87
    · subst h1; simp
    · simp [h1]
section V
variable {xs : Nat → Int32} {L : Nat} {S : Sg} {e : Nat}
theorem l_114_a {k : Nat} {kk : Int} {Q : MOut → MHp → Prop} (hk : k < 36) (hkk : kk = k) (K : m_ok xs L 114 b_114_2 [vR 296, vI (kk + 1)] [] (mk (fillG S G1 (k + 1)) e) Q) : m_ok xs L 114 b_114_2 [vR 296, vI kk] [] (mk (fillG S G1 k) e) Q := by
  subst hkk
  unfold b_114_2
  repeat' first
    | (refine V_icmp_ge.mpr ?_; first | rw [if_pos (by omega)] | rw [if_neg (by omega)] | split)
    | (refine V_if_ne.mpr ?_; first | rw [if_pos (by omega)] | rw [if_neg (by omega)] | split)
    | (simp (disch := (first | omega | (simp (disch := omega) only [up_f, up_s, up_i, up_k, up_e]; omega))) only [up_f, up_s, up_i, up_k, up_e, V_iconst, V_bipush, V_sipush, V_conti, V_contn, V_goto, Option.some.injEq, exists_eq_left', true_and, and_true, m_fit, Option.isSome_some, List.map_nil, List.map_cons, List.sum_nil, List.sum_cons, List.all_nil, List.all_cons, m_cat, decide_true, Bool.and_true, Bool.true_and, Nat.zero_le, Int.toNat_natCast, Int.reduceAdd, Int.reduceSub, Int.reduceMul, Int.reduceNeg, Int.reduceLE, Int.reduceLT, Nat.reduceAdd, Nat.reduceLeDiff, Int.reduceToNat, Int.reduceEq, decide_eq_true_eq, true_or, or_true, exists_and_left, and_self, Nat.reduceMul, Nat.reduceSub, Nat.reduceLT, m_oa, Nat.reduceEqDiff, or_false, false_or, Sum.inl.injEq, Sum.inr.injEq, ↓reduceIte, ne_eq, not_false_eq_true, Int.reduceNe, exists_eq_left, D_114, R_114, X_114, J_114_5, F_114_98, J_114_17, J_114_21, F_114_101, F_114_140, J_114_43, J_114_51, F_114_104, F_114_107, F_114_113, J_114_78, J_114_86, F_114_125, F_114_43, F_114_128, F_114_131, F_114_134, J_114_125, J_114_134, F_114_122, J_114_147, V_istoren1, V_iloadn1, V_aloadn0, G_10_35, A_326, T_a326, B_326, V_irem, U_iastore, G_10_36, A_327, T_a327, B_327, G_10_49, A_340, T_a340, B_340, V_iinc1, m_add_eq, G_10_37, A_328, T_a328, B_328, G_10_38, A_329, T_a329, B_329, U_bastore, G_10_40, A_331, T_a331, B_331, G_10_44, A_335, T_a335, B_335, G_10_15, A_308, T_a308, B_308, U_iaload, G_10_45, A_336, T_a336, B_336, G_10_46, A_337, T_a337, B_337, G_10_47, A_338, T_a338, B_338, G_10_43, A_334, T_a334, B_334, b_114_0, b_114_24, b_114_25, b_114_46, b_114_81, b_114_128, b_114_150, m_rem_eq])
  all_goals first | (rw [G1_s (by rw [if_pos (by omega)])]; exact K) | (rw [G1_s (by rw [if_neg (by omega)])]; exact K)
theorem k_114_a {Q : MOut → MHp → Prop} (K : m_ok xs L 114 b_114_48 [vR 296, vI 0] [] (mk (fillG S G1 36) e) Q) : ∀ z k : Nat, ∀ kk : Int, k + z = 36 → kk = k → m_ok xs L 114 b_114_2 [vR 296, vI kk] [] (mk (fillG S G1 k) e) Q
  | 0, k, kk, hz, hkk => by
    have hk : k = 36 := by omega
    subst hk
    subst hkk
    unfold b_114_2
    repeat' first
      | (refine V_icmp_ge.mpr ?_; first | rw [if_pos (by omega)] | rw [if_neg (by omega)] | split)
      | (refine V_if_ne.mpr ?_; first | rw [if_pos (by omega)] | rw [if_neg (by omega)] | split)
      | (simp (disch := (first | omega | (simp (disch := omega) only [up_f, up_s, up_i, up_k, up_e]; omega))) only [up_f, up_s, up_i, up_k, up_e, V_iconst, V_bipush, V_sipush, V_conti, V_contn, V_goto, Option.some.injEq, exists_eq_left', true_and, and_true, m_fit, Option.isSome_some, List.map_nil, List.map_cons, List.sum_nil, List.sum_cons, List.all_nil, List.all_cons, m_cat, decide_true, Bool.and_true, Bool.true_and, Nat.zero_le, Int.toNat_natCast, Int.reduceAdd, Int.reduceSub, Int.reduceMul, Int.reduceNeg, Int.reduceLE, Int.reduceLT, Nat.reduceAdd, Nat.reduceLeDiff, Int.reduceToNat, Int.reduceEq, decide_eq_true_eq, true_or, or_true, exists_and_left, and_self, Nat.reduceMul, Nat.reduceSub, Nat.reduceLT, m_oa, Nat.reduceEqDiff, or_false, false_or, Sum.inl.injEq, Sum.inr.injEq, ↓reduceIte, ne_eq, not_false_eq_true, Int.reduceNe, exists_eq_left, D_114, R_114, X_114, J_114_5, F_114_98, J_114_17, J_114_21, F_114_101, F_114_140, J_114_43, J_114_51, F_114_104, F_114_107, F_114_113, J_114_78, J_114_86, F_114_125, F_114_43, F_114_128, F_114_131, F_114_134, J_114_125, J_114_134, F_114_122, J_114_147, V_istoren1, V_iloadn1, V_aloadn0, G_10_35, A_326, T_a326, B_326, V_irem, U_iastore, G_10_36, A_327, T_a327, B_327, G_10_49, A_340, T_a340, B_340, V_iinc1, m_add_eq, G_10_37, A_328, T_a328, B_328, G_10_38, A_329, T_a329, B_329, U_bastore, G_10_40, A_331, T_a331, B_331, G_10_44, A_335, T_a335, B_335, G_10_15, A_308, T_a308, B_308, U_iaload, G_10_45, A_336, T_a336, B_336, G_10_46, A_337, T_a337, B_337, G_10_47, A_338, T_a338, B_338, G_10_43, A_334, T_a334, B_334, b_114_0, b_114_24, b_114_25, b_114_46, b_114_81, b_114_128, b_114_150])
    all_goals (first | exact K | omega)
  | z + 1, k, kk, hz, hkk => l_114_a (by omega) hkk (k_114_a K z (k + 1) (kk + 1) (by omega) (by omega))
theorem l_114_b {k : Nat} {kk : Int} {Q : MOut → MHp → Prop} (hk : k < 6) (hkk : kk = k) (K : m_ok xs L 114 b_114_48 [vR 296, vI (kk + 1)] [] (mk (fillG S G2 (k + 1)) e) Q) : m_ok xs L 114 b_114_48 [vR 296, vI kk] [] (mk (fillG S G2 k) e) Q := by
  subst hkk
  unfold b_114_48
  repeat' first
    | (refine V_icmp_ge.mpr ?_; first | rw [if_pos (by omega)] | rw [if_neg (by omega)] | split)
    | (refine V_if_ne.mpr ?_; first | rw [if_pos (by omega)] | rw [if_neg (by omega)] | split)
    | (simp (disch := (first | omega | (simp (disch := omega) only [up_f, up_s, up_i, up_k, up_e]; omega))) only [up_f, up_s, up_i, up_k, up_e, V_iconst, V_bipush, V_sipush, V_conti, V_contn, V_goto, Option.some.injEq, exists_eq_left', true_and, and_true, m_fit, Option.isSome_some, List.map_nil, List.map_cons, List.sum_nil, List.sum_cons, List.all_nil, List.all_cons, m_cat, decide_true, Bool.and_true, Bool.true_and, Nat.zero_le, Int.toNat_natCast, Int.reduceAdd, Int.reduceSub, Int.reduceMul, Int.reduceNeg, Int.reduceLE, Int.reduceLT, Nat.reduceAdd, Nat.reduceLeDiff, Int.reduceToNat, Int.reduceEq, decide_eq_true_eq, true_or, or_true, exists_and_left, and_self, Nat.reduceMul, Nat.reduceSub, Nat.reduceLT, m_oa, Nat.reduceEqDiff, or_false, false_or, Sum.inl.injEq, Sum.inr.injEq, ↓reduceIte, ne_eq, not_false_eq_true, Int.reduceNe, exists_eq_left, D_114, R_114, X_114, J_114_5, F_114_98, J_114_17, J_114_21, F_114_101, F_114_140, J_114_43, J_114_51, F_114_104, F_114_107, F_114_113, J_114_78, J_114_86, F_114_125, F_114_43, F_114_128, F_114_131, F_114_134, J_114_125, J_114_134, F_114_122, J_114_147, V_istoren1, V_iloadn1, V_aloadn0, G_10_35, A_326, T_a326, B_326, V_irem, U_iastore, G_10_36, A_327, T_a327, B_327, G_10_49, A_340, T_a340, B_340, V_iinc1, m_add_eq, G_10_37, A_328, T_a328, B_328, G_10_38, A_329, T_a329, B_329, U_bastore, G_10_40, A_331, T_a331, B_331, G_10_44, A_335, T_a335, B_335, G_10_15, A_308, T_a308, B_308, U_iaload, G_10_45, A_336, T_a336, B_336, G_10_46, A_337, T_a337, B_337, G_10_47, A_338, T_a338, B_338, G_10_43, A_334, T_a334, B_334, b_114_0, b_114_24, b_114_25, b_114_46, b_114_81, b_114_128, b_114_150])
  rw [G2_s]; exact K
theorem k_114_b {Q : MOut → MHp → Prop} (K : m_ok xs L 114 b_114_83 [vR 296, vI 0] [] (mk (fillG S G2 6) e) Q) : ∀ z k : Nat, ∀ kk : Int, k + z = 6 → kk = k → m_ok xs L 114 b_114_48 [vR 296, vI kk] [] (mk (fillG S G2 k) e) Q
  | 0, k, kk, hz, hkk => by
    have hk : k = 6 := by omega
    subst hk
    subst hkk
    unfold b_114_48
    repeat' first
      | (refine V_icmp_ge.mpr ?_; first | rw [if_pos (by omega)] | rw [if_neg (by omega)] | split)
      | (refine V_if_ne.mpr ?_; first | rw [if_pos (by omega)] | rw [if_neg (by omega)] | split)
      | (simp (disch := (first | omega | (simp (disch := omega) only [up_f, up_s, up_i, up_k, up_e]; omega))) only [up_f, up_s, up_i, up_k, up_e, V_iconst, V_bipush, V_sipush, V_conti, V_contn, V_goto, Option.some.injEq, exists_eq_left', true_and, and_true, m_fit, Option.isSome_some, List.map_nil, List.map_cons, List.sum_nil, List.sum_cons, List.all_nil, List.all_cons, m_cat, decide_true, Bool.and_true, Bool.true_and, Nat.zero_le, Int.toNat_natCast, Int.reduceAdd, Int.reduceSub, Int.reduceMul, Int.reduceNeg, Int.reduceLE, Int.reduceLT, Nat.reduceAdd, Nat.reduceLeDiff, Int.reduceToNat, Int.reduceEq, decide_eq_true_eq, true_or, or_true, exists_and_left, and_self, Nat.reduceMul, Nat.reduceSub, Nat.reduceLT, m_oa, Nat.reduceEqDiff, or_false, false_or, Sum.inl.injEq, Sum.inr.injEq, ↓reduceIte, ne_eq, not_false_eq_true, Int.reduceNe, exists_eq_left, D_114, R_114, X_114, J_114_5, F_114_98, J_114_17, J_114_21, F_114_101, F_114_140, J_114_43, J_114_51, F_114_104, F_114_107, F_114_113, J_114_78, J_114_86, F_114_125, F_114_43, F_114_128, F_114_131, F_114_134, J_114_125, J_114_134, F_114_122, J_114_147, V_istoren1, V_iloadn1, V_aloadn0, G_10_35, A_326, T_a326, B_326, V_irem, U_iastore, G_10_36, A_327, T_a327, B_327, G_10_49, A_340, T_a340, B_340, V_iinc1, m_add_eq, G_10_37, A_328, T_a328, B_328, G_10_38, A_329, T_a329, B_329, U_bastore, G_10_40, A_331, T_a331, B_331, G_10_44, A_335, T_a335, B_335, G_10_15, A_308, T_a308, B_308, U_iaload, G_10_45, A_336, T_a336, B_336, G_10_46, A_337, T_a337, B_337, G_10_47, A_338, T_a338, B_338, G_10_43, A_334, T_a334, B_334, b_114_0, b_114_24, b_114_25, b_114_46, b_114_81, b_114_128, b_114_150])
    all_goals (first | exact K | omega)
  | z + 1, k, kk, hz, hkk => l_114_b (by omega) hkk (k_114_b K z (k + 1) (kk + 1) (by omega) (by omega))
theorem l_114_c {k : Nat} {kk : Int} {Q : MOut → MHp → Prop} (hk : k < 10) (hkk : kk = k) (K : m_ok xs L 114 b_114_83 [vR 296, vI (kk + 1)] [] (mk (fillG S (G3 S) (k + 1)) e) Q) : m_ok xs L 114 b_114_83 [vR 296, vI kk] [] (mk (fillG S (G3 S) k) e) Q := by
  subst hkk
  unfold b_114_83
  repeat' first
    | (refine V_icmp_ge.mpr ?_; first | rw [if_pos (by omega)] | rw [if_neg (by omega)] | split)
    | (refine V_if_ne.mpr ?_; first | rw [if_pos (by omega)] | rw [if_neg (by omega)] | split)
    | (simp (disch := (first | omega | (simp (disch := omega) only [up_f, up_s, up_i, up_k, up_e]; omega))) only [up_f, up_s, up_i, up_k, up_e, V_iconst, V_bipush, V_sipush, V_conti, V_contn, V_goto, Option.some.injEq, exists_eq_left', true_and, and_true, m_fit, Option.isSome_some, List.map_nil, List.map_cons, List.sum_nil, List.sum_cons, List.all_nil, List.all_cons, m_cat, decide_true, Bool.and_true, Bool.true_and, Nat.zero_le, Int.toNat_natCast, Int.reduceAdd, Int.reduceSub, Int.reduceMul, Int.reduceNeg, Int.reduceLE, Int.reduceLT, Nat.reduceAdd, Nat.reduceLeDiff, Int.reduceToNat, Int.reduceEq, decide_eq_true_eq, true_or, or_true, exists_and_left, and_self, Nat.reduceMul, Nat.reduceSub, Nat.reduceLT, m_oa, Nat.reduceEqDiff, or_false, false_or, Sum.inl.injEq, Sum.inr.injEq, ↓reduceIte, ne_eq, not_false_eq_true, Int.reduceNe, exists_eq_left, D_114, R_114, X_114, J_114_5, F_114_98, J_114_17, J_114_21, F_114_101, F_114_140, J_114_43, J_114_51, F_114_104, F_114_107, F_114_113, J_114_78, J_114_86, F_114_125, F_114_43, F_114_128, F_114_131, F_114_134, J_114_125, J_114_134, F_114_122, J_114_147, V_istoren1, V_iloadn1, V_aloadn0, G_10_35, A_326, T_a326, B_326, V_irem, U_iastore, G_10_36, A_327, T_a327, B_327, G_10_49, A_340, T_a340, B_340, V_iinc1, m_add_eq, G_10_37, A_328, T_a328, B_328, G_10_38, A_329, T_a329, B_329, U_bastore, G_10_40, A_331, T_a331, B_331, G_10_44, A_335, T_a335, B_335, G_10_15, A_308, T_a308, B_308, U_iaload, G_10_45, A_336, T_a336, B_336, G_10_46, A_337, T_a337, B_337, G_10_47, A_338, T_a338, B_338, G_10_43, A_334, T_a334, B_334, b_114_0, b_114_24, b_114_25, b_114_46, b_114_81, b_114_128, b_114_150])
  rw [G3_s (by simp [fillG, G3])]; exact K
theorem k_114_c {Q : MOut → MHp → Prop} (K : m_ok xs L 114 b_114_130 [vR 296, vI 0] [] (mk (fillG S (G3 S) 10) e) Q) : ∀ z k : Nat, ∀ kk : Int, k + z = 10 → kk = k → m_ok xs L 114 b_114_83 [vR 296, vI kk] [] (mk (fillG S (G3 S) k) e) Q
  | 0, k, kk, hz, hkk => by
    have hk : k = 10 := by omega
    subst hk
    subst hkk
    unfold b_114_83
    repeat' first
      | (refine V_icmp_ge.mpr ?_; first | rw [if_pos (by omega)] | rw [if_neg (by omega)] | split)
      | (refine V_if_ne.mpr ?_; first | rw [if_pos (by omega)] | rw [if_neg (by omega)] | split)
      | (simp (disch := (first | omega | (simp (disch := omega) only [up_f, up_s, up_i, up_k, up_e]; omega))) only [up_f, up_s, up_i, up_k, up_e, V_iconst, V_bipush, V_sipush, V_conti, V_contn, V_goto, Option.some.injEq, exists_eq_left', true_and, and_true, m_fit, Option.isSome_some, List.map_nil, List.map_cons, List.sum_nil, List.sum_cons, List.all_nil, List.all_cons, m_cat, decide_true, Bool.and_true, Bool.true_and, Nat.zero_le, Int.toNat_natCast, Int.reduceAdd, Int.reduceSub, Int.reduceMul, Int.reduceNeg, Int.reduceLE, Int.reduceLT, Nat.reduceAdd, Nat.reduceLeDiff, Int.reduceToNat, Int.reduceEq, decide_eq_true_eq, true_or, or_true, exists_and_left, and_self, Nat.reduceMul, Nat.reduceSub, Nat.reduceLT, m_oa, Nat.reduceEqDiff, or_false, false_or, Sum.inl.injEq, Sum.inr.injEq, ↓reduceIte, ne_eq, not_false_eq_true, Int.reduceNe, exists_eq_left, D_114, R_114, X_114, J_114_5, F_114_98, J_114_17, J_114_21, F_114_101, F_114_140, J_114_43, J_114_51, F_114_104, F_114_107, F_114_113, J_114_78, J_114_86, F_114_125, F_114_43, F_114_128, F_114_131, F_114_134, J_114_125, J_114_134, F_114_122, J_114_147, V_istoren1, V_iloadn1, V_aloadn0, G_10_35, A_326, T_a326, B_326, V_irem, U_iastore, G_10_36, A_327, T_a327, B_327, G_10_49, A_340, T_a340, B_340, V_iinc1, m_add_eq, G_10_37, A_328, T_a328, B_328, G_10_38, A_329, T_a329, B_329, U_bastore, G_10_40, A_331, T_a331, B_331, G_10_44, A_335, T_a335, B_335, G_10_15, A_308, T_a308, B_308, U_iaload, G_10_45, A_336, T_a336, B_336, G_10_46, A_337, T_a337, B_337, G_10_47, A_338, T_a338, B_338, G_10_43, A_334, T_a334, B_334, b_114_0, b_114_24, b_114_25, b_114_46, b_114_81, b_114_128, b_114_150])
    all_goals (first | exact K | omega)
  | z + 1, k, kk, hz, hkk => l_114_c (by omega) hkk (k_114_c K z (k + 1) (kk + 1) (by omega) (by omega))
theorem l_114_d {k : Nat} {kk : Int} {Q : MOut → MHp → Prop} (hk : k < 360) (hkk : kk = k) (K : m_ok xs L 114 b_114_130 [vR 296, vI (kk + 1)] [] (mk (fillG S G4 (k + 1)) e) Q) : m_ok xs L 114 b_114_130 [vR 296, vI kk] [] (mk (fillG S G4 k) e) Q := by
  subst hkk
  unfold b_114_130
  repeat' first
    | (refine V_icmp_ge.mpr ?_; first | rw [if_pos (by omega)] | rw [if_neg (by omega)] | split)
    | (refine V_if_ne.mpr ?_; first | rw [if_pos (by omega)] | rw [if_neg (by omega)] | split)
    | (simp (disch := (first | omega | (simp (disch := omega) only [up_f, up_s, up_i, up_k, up_e]; omega))) only [up_f, up_s, up_i, up_k, up_e, V_iconst, V_bipush, V_sipush, V_conti, V_contn, V_goto, Option.some.injEq, exists_eq_left', true_and, and_true, m_fit, Option.isSome_some, List.map_nil, List.map_cons, List.sum_nil, List.sum_cons, List.all_nil, List.all_cons, m_cat, decide_true, Bool.and_true, Bool.true_and, Nat.zero_le, Int.toNat_natCast, Int.reduceAdd, Int.reduceSub, Int.reduceMul, Int.reduceNeg, Int.reduceLE, Int.reduceLT, Nat.reduceAdd, Nat.reduceLeDiff, Int.reduceToNat, Int.reduceEq, decide_eq_true_eq, true_or, or_true, exists_and_left, and_self, Nat.reduceMul, Nat.reduceSub, Nat.reduceLT, m_oa, Nat.reduceEqDiff, or_false, false_or, Sum.inl.injEq, Sum.inr.injEq, ↓reduceIte, ne_eq, not_false_eq_true, Int.reduceNe, exists_eq_left, D_114, R_114, X_114, J_114_5, F_114_98, J_114_17, J_114_21, F_114_101, F_114_140, J_114_43, J_114_51, F_114_104, F_114_107, F_114_113, J_114_78, J_114_86, F_114_125, F_114_43, F_114_128, F_114_131, F_114_134, J_114_125, J_114_134, F_114_122, J_114_147, V_istoren1, V_iloadn1, V_aloadn0, G_10_35, A_326, T_a326, B_326, V_irem, U_iastore, G_10_36, A_327, T_a327, B_327, G_10_49, A_340, T_a340, B_340, V_iinc1, m_add_eq, G_10_37, A_328, T_a328, B_328, G_10_38, A_329, T_a329, B_329, U_bastore, G_10_40, A_331, T_a331, B_331, G_10_44, A_335, T_a335, B_335, G_10_15, A_308, T_a308, B_308, U_iaload, G_10_45, A_336, T_a336, B_336, G_10_46, A_337, T_a337, B_337, G_10_47, A_338, T_a338, B_338, G_10_43, A_334, T_a334, B_334, b_114_0, b_114_24, b_114_25, b_114_46, b_114_81, b_114_128])
  rw [G4_s]; exact K
theorem k_114_d {Q : MOut → MHp → Prop} (K : m_ok xs L 114 b_114_150 [vR 296, vI 360] [] (mk (fillG S G4 360) e) Q) : ∀ z k : Nat, ∀ kk : Int, k + z = 360 → kk = k → m_ok xs L 114 b_114_130 [vR 296, vI kk] [] (mk (fillG S G4 k) e) Q
  | 0, k, kk, hz, hkk => by
    have hk : k = 360 := by omega
    subst hk
    subst hkk
    unfold b_114_130
    repeat' first
      | (refine V_icmp_ge.mpr ?_; first | rw [if_pos (by omega)] | rw [if_neg (by omega)] | split)
      | (refine V_if_ne.mpr ?_; first | rw [if_pos (by omega)] | rw [if_neg (by omega)] | split)
      | (simp (disch := (first | omega | (simp (disch := omega) only [up_f, up_s, up_i, up_k, up_e]; omega))) only [up_f, up_s, up_i, up_k, up_e, V_iconst, V_bipush, V_sipush, V_conti, V_contn, V_goto, Option.some.injEq, exists_eq_left', true_and, and_true, m_fit, Option.isSome_some, List.map_nil, List.map_cons, List.sum_nil, List.sum_cons, List.all_nil, List.all_cons, m_cat, decide_true, Bool.and_true, Bool.true_and, Nat.zero_le, Int.toNat_natCast, Int.reduceAdd, Int.reduceSub, Int.reduceMul, Int.reduceNeg, Int.reduceLE, Int.reduceLT, Nat.reduceAdd, Nat.reduceLeDiff, Int.reduceToNat, Int.reduceEq, decide_eq_true_eq, true_or, or_true, exists_and_left, and_self, Nat.reduceMul, Nat.reduceSub, Nat.reduceLT, m_oa, Nat.reduceEqDiff, or_false, false_or, Sum.inl.injEq, Sum.inr.injEq, ↓reduceIte, ne_eq, not_false_eq_true, Int.reduceNe, exists_eq_left, D_114, R_114, X_114, J_114_5, F_114_98, J_114_17, J_114_21, F_114_101, F_114_140, J_114_43, J_114_51, F_114_104, F_114_107, F_114_113, J_114_78, J_114_86, F_114_125, F_114_43, F_114_128, F_114_131, F_114_134, J_114_125, J_114_134, F_114_122, J_114_147, V_istoren1, V_iloadn1, V_aloadn0, G_10_35, A_326, T_a326, B_326, V_irem, U_iastore, G_10_36, A_327, T_a327, B_327, G_10_49, A_340, T_a340, B_340, V_iinc1, m_add_eq, G_10_37, A_328, T_a328, B_328, G_10_38, A_329, T_a329, B_329, U_bastore, G_10_40, A_331, T_a331, B_331, G_10_44, A_335, T_a335, B_335, G_10_15, A_308, T_a308, B_308, U_iaload, G_10_45, A_336, T_a336, B_336, G_10_46, A_337, T_a337, B_337, G_10_47, A_338, T_a338, B_338, G_10_43, A_334, T_a334, B_334, b_114_0, b_114_24, b_114_25, b_114_46, b_114_81, b_114_128])
    all_goals (first | exact K | omega)
  | z + 1, k, kk, hz, hkk => l_114_d (by omega) hkk (k_114_d K z (k + 1) (kk + 1) (by omega) (by omega))
/-- the model's night as it begins -/
def mBeg (S : Sg) : Sg :=
  let S1 := fillG S G1 36
  let S2 := fillG S1 G2 6
  let S3 := fillG S2 (G3 S2) 10
  fillG S3 G4 360
theorem s_114 (Q : MOut → MHp → Prop) : m_do xs L 114 [vR 296] (mk S e) Q ↔ Q (.inl none) (mk (mBeg S) e) := by
  refine m_do_eq ?_ Q
  repeat' first
    | (refine V_icmp_ge.mpr ?_; first | rw [if_pos (by omega)] | rw [if_neg (by omega)] | split)
    | (refine V_if_ne.mpr ?_; first | rw [if_pos (by omega)] | rw [if_neg (by omega)] | split)
    | (simp (disch := (first | omega | (simp (disch := omega) only [up_f, up_s, up_i, up_k, up_e]; omega))) only [up_f, up_s, up_i, up_k, up_e, V_iconst, V_bipush, V_sipush, V_conti, V_contn, V_goto, Option.some.injEq, exists_eq_left', true_and, and_true, m_fit, Option.isSome_some, List.map_nil, List.map_cons, List.sum_nil, List.sum_cons, List.all_nil, List.all_cons, m_cat, decide_true, Bool.and_true, Bool.true_and, Nat.zero_le, Int.toNat_natCast, Int.reduceAdd, Int.reduceSub, Int.reduceMul, Int.reduceNeg, Int.reduceLE, Int.reduceLT, Nat.reduceAdd, Nat.reduceLeDiff, Int.reduceToNat, Int.reduceEq, decide_eq_true_eq, true_or, or_true, exists_and_left, and_self, Nat.reduceMul, Nat.reduceSub, Nat.reduceLT, m_oa, Nat.reduceEqDiff, or_false, false_or, Sum.inl.injEq, Sum.inr.injEq, ↓reduceIte, ne_eq, not_false_eq_true, Int.reduceNe, exists_eq_left, D_114, R_114, X_114, J_114_5, F_114_98, J_114_17, J_114_21, F_114_101, F_114_140, J_114_43, J_114_51, F_114_104, F_114_107, F_114_113, J_114_78, J_114_86, F_114_125, F_114_43, F_114_128, F_114_131, F_114_134, J_114_125, J_114_134, F_114_122, J_114_147, V_istoren1, V_iloadn1, V_aloadn0, G_10_35, A_326, T_a326, B_326, V_irem, U_iastore, G_10_36, A_327, T_a327, B_327, G_10_49, A_340, T_a340, B_340, V_iinc1, m_add_eq, G_10_37, A_328, T_a328, B_328, G_10_38, A_329, T_a329, B_329, U_bastore, G_10_40, A_331, T_a331, B_331, G_10_44, A_335, T_a335, B_335, G_10_15, A_308, T_a308, B_308, U_iaload, G_10_45, A_336, T_a336, B_336, G_10_46, A_337, T_a337, B_337, G_10_47, A_338, T_a338, B_338, G_10_43, A_334, T_a334, B_334, b_114_0, b_114_24, b_114_25, b_114_46, b_114_81, b_114_128])
  have k4 : m_ok xs L 114 b_114_150 [vR 296, vI 360] [] (mk (mBeg S) e) (fun a b => a = .inl none ∧ b = mk (mBeg S) e) := by
    unfold b_114_150
    repeat' first
      | (refine V_icmp_ge.mpr ?_; first | rw [if_pos (by omega)] | rw [if_neg (by omega)] | split)
      | (refine V_if_ne.mpr ?_; first | rw [if_pos (by omega)] | rw [if_neg (by omega)] | split)
      | (simp (disch := (first | omega | (simp (disch := omega) only [up_f, up_s, up_i, up_k, up_e]; omega))) only [up_f, up_s, up_i, up_k, up_e, V_iconst, V_bipush, V_sipush, V_conti, V_contn, V_goto, Option.some.injEq, exists_eq_left', true_and, and_true, m_fit, Option.isSome_some, List.map_nil, List.map_cons, List.sum_nil, List.sum_cons, List.all_nil, List.all_cons, m_cat, decide_true, Bool.and_true, Bool.true_and, Nat.zero_le, Int.toNat_natCast, Int.reduceAdd, Int.reduceSub, Int.reduceMul, Int.reduceNeg, Int.reduceLE, Int.reduceLT, Nat.reduceAdd, Nat.reduceLeDiff, Int.reduceToNat, Int.reduceEq, decide_eq_true_eq, true_or, or_true, exists_and_left, and_self, Nat.reduceMul, Nat.reduceSub, Nat.reduceLT, m_oa, Nat.reduceEqDiff, or_false, false_or, Sum.inl.injEq, Sum.inr.injEq, ↓reduceIte, ne_eq, not_false_eq_true, Int.reduceNe, exists_eq_left, D_114, R_114, X_114, J_114_5, F_114_98, J_114_17, J_114_21, F_114_101, F_114_140, J_114_43, J_114_51, F_114_104, F_114_107, F_114_113, J_114_78, J_114_86, F_114_125, F_114_43, F_114_128, F_114_131, F_114_134, J_114_125, J_114_134, F_114_122, J_114_147, V_istoren1, V_iloadn1, V_aloadn0, G_10_35, A_326, T_a326, B_326, V_irem, U_iastore, G_10_36, A_327, T_a327, B_327, G_10_49, A_340, T_a340, B_340, V_iinc1, m_add_eq, G_10_37, A_328, T_a328, B_328, G_10_38, A_329, T_a329, B_329, U_bastore, G_10_40, A_331, T_a331, B_331, G_10_44, A_335, T_a335, B_335, G_10_15, A_308, T_a308, B_308, U_iaload, G_10_45, A_336, T_a336, B_336, G_10_46, A_337, T_a337, B_337, G_10_47, A_338, T_a338, B_338, G_10_43, A_334, T_a334, B_334, b_114_0, b_114_24, b_114_25, b_114_46, b_114_81, b_114_128])
  have k3 := k_114_d (xs := xs) (L := L) (e := e) k4 360 0 0 (by omega) rfl
  rw [fillG_0] at k3
  have k2 := k_114_c (xs := xs) (L := L) (e := e) k3 10 0 0 (by omega) rfl
  rw [fillG_0] at k2
  have k1 := k_114_b (xs := xs) (L := L) (e := e) k2 6 0 0 (by omega) rfl
  rw [fillG_0] at k1
  have k0 := k_114_a (xs := xs) (L := L) (e := e) k1 36 0 0 (by omega) rfl
  rw [fillG_0] at k0
  exact k0
end V
