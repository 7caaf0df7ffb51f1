/-! ===== takeOut of the model ===== -/
def MB (S B : Sg) : Prop := ∀ f j, 61 ≤ f ∧ f ≤ 78 → S f 0 j = B f 0 j
theorem fitM_S {S B : Sg} (h : ∀ f j, 72 ≤ f ∧ f ≤ 78 → S f 0 j = B f 0 j) {c r : Nat} {w p : Int} : fitM S c w p r ↔ fitM B c w p r := by
  unfold fitM mhP
  simp only [h 78 _ (by omega), h 72 _ (by omega), h 74 _ (by omega)]
theorem rfM_S {S B : Sg} (h : ∀ f j, 72 ≤ f ∧ f ≤ 78 → S f 0 j = B f 0 j) {c : Nat} {w p : Int} : rfM S c w p = rfM B c w p := by
  unfold rfM
  exact rf_c (fun r hr => fitM_S h)
theorem MB_up {S B : Sg} {F K : Nat} {a : Int} (h : MB S B) : MB (up S F 0 K a) (up B F 0 K a) := fun f j hf => by
  simp only [up]
  split
  · rfl
  · exact h f j hf
def FPm (S S2 : Sg) : Prop := ∀ f i j, ¬ (75 ≤ f ∧ f ≤ 78) → S2 f i j = S f i j
theorem FPm_up {S S2 : Sg} {F I K : Nat} {a : Int} (h : FPm S S2) (hF : 75 ≤ F ∧ F ≤ 78) : FPm S (up S2 F I K a) := fun f i j hf => by
  rw [up_f (by omega)]
  exact h f i j hf
section V
variable {xs : Nat → Int32} {L : Nat} {e : Nat}
theorem k_132 {S0 S : Sg} {P i c C : Nat} {Q : MOut → MHp → Prop} (h : PPx S0 S P) (hi : i < P) (hC10 : C ≤ 10) (hc : c < 10) (h67 : ∀ k, k < 10 → 0 ≤ S 68 0 k ∧ S 68 0 k ≤ 1) (K : Q (.inl (some (vI (lo (tkc S i c) C)))) (mk S e)) : ∀ (k : Nat) (x kk : Int) (v : MV), k ≤ C → kk = (k : Int) - 1 → ((x = -1 ∧ ∀ j, k ≤ j → j < C → ¬ tkc S i c j) ∨ ∃ j : Nat, k ≤ j ∧ j < C ∧ x = j ∧ tkc S i c j ∧ ∀ i2, k ≤ i2 → i2 < j → ¬ tkc S i c i2) → m_ok xs L 132 b_132_10 [vR 296, vI c, vI i, vI x, vI kk, v] [] (mk S e) Q
  | 0, x, kk, v, hk, hkk, hinv => by
    have hxx : x = lo (tkc S i c) C := lo_uniq (hinv.imp (fun z => ⟨z.1, fun j hj => z.2 j (by omega) hj⟩) (fun ⟨j, z1, z2, z3, z4, z5⟩ => ⟨j, z2, z3, z4, fun i2 h2 => z5 i2 (by omega) h2⟩))
    rw [← hxx] at K
    have hk1 : kk = -1 := by omega
    subst hk1
    unfold b_132_10
    repeat' first
      | (refine V_icmp_eq.mpr ?_; first | rw [if_pos (by omega)] | rw [if_neg (by omega)] | split)
      | (refine V_icmp_lt.mpr ?_; first | rw [if_pos (by omega)] | rw [if_neg (by omega)] | split)
      | (refine V_icmp_ne.mpr ?_; first | rw [if_pos (by omega)] | rw [if_neg (by omega)] | split)
      | (refine V_if_eq.mpr ?_; first | rw [if_pos (by omega)] | rw [if_neg (by omega)] | split)
      | (refine V_if_le.mpr ?_; first | rw [if_pos (by omega)] | rw [if_neg (by omega)] | split)
      | (refine V_if_lt.mpr ?_; first | rw [if_pos (by omega)] | rw [if_neg (by omega)] | split)
      | (refine V_if_ne.mpr ?_; first | rw [if_pos (by omega)] | rw [if_neg (by omega)] | split)
      | (simp (disch := (first | omega | (simp (disch := omega) only [up_f, up_s, up_i, up_k, up_e]; omega))) only [up_f, up_s, up_i, up_k, up_e, V_iconst, V_bipush, V_sipush, V_conti, V_contn, V_goto, Option.some.injEq, exists_eq_left', true_and, and_true, m_fit, Option.isSome_some, List.map_nil, List.map_cons, List.sum_nil, List.sum_cons, List.all_nil, List.all_cons, m_cat, decide_true, Bool.and_true, Bool.true_and, Nat.zero_le, Int.toNat_natCast, Int.reduceAdd, Int.reduceSub, Int.reduceMul, Int.reduceNeg, Int.reduceLE, Int.reduceLT, Nat.reduceAdd, Nat.reduceLeDiff, Int.reduceToNat, Int.reduceEq, decide_eq_true_eq, true_or, or_true, exists_and_left, and_self, Nat.reduceMul, Nat.reduceSub, Nat.reduceLT, m_oa, Nat.reduceEqDiff, or_false, false_or, Sum.inl.injEq, Sum.inr.injEq, ↓reduceIte, ne_eq, not_false_eq_true, Int.reduceNe, exists_eq_left, D_132, R_132, X_132, F_132_161, J_132_12, F_132_68, J_132_21, J_132_31, F_132_65, J_132_41, F_132_49, J_132_57, F_132_71, J_132_77, F_132_43, J_132_93, J_132_97, J_132_105, F_132_77, F_132_83, I_132_237, J_132_127, J_132_132, J_132_140, V_istoren3, V_aloadn0, G_10_14, V_isub, m_sub_eq, V_istore4, V_iload4, G_10_23, A_316, T_a316, B_316, V_iloadn1, U_iaload, G_10_22, A_315, T_a315, B_315, U_baload, G_10_17, A_310, T_a310, B_310, G_10_24, A_317, T_a317, B_317, V_imul, m_mul_eq, G_10_15, A_308, T_a308, B_308, V_istore5, V_iload5, G_10_27, A_319, T_a319, B_319, V_iloadn2, G_10_29, A_321, T_a321, B_321, T_10, V_iloadn3, V_iinc4, m_add_eq, b_132_0, b_132_100, b_132_101, b_132_135, b_132_136, b_132_143])
    all_goals exact K
  | k + 1, x, kk, v, hk, hkk, hinv => by
    have hk1 : kk = (k : Int) := by omega
    subst hk1
    have hP := h.1
    have hk10 : k < 10 := by omega
    have q2 := h.2.1 i (by omega)
    have h72 := q2.2.2.2.2.2.1
    have hx1 : (3 * (k : Int)).toNat = 3 * k := by omega
    have hx2 : (3 * (c : Int)).toNat = 3 * c := by omega
    have s_129x := s_129 (xs := xs) (L := L) (S := S) (e := e) (c := k) (w := S 72 0 i) (p := S 74 0 i) hk10 (bed_78 h)
    by_cases ht : tkc S i c k
    · obtain ⟨⟨r1, r2, r3, r4, r5, r6⟩, hf⟩ := ht
      have kk := fun v => k_132 h hi hC10 hc h67 K k (k : Int) ((k : Int) - 1) v (by omega) (by omega) (Or.inr ⟨k, by omega, by omega, rfl, ⟨⟨r1, r2, r3, r4, r5, r6⟩, hf⟩, fun i2 h2 h3 => by omega⟩)
      have hkk2 : (k : Int) + -1 = (k : Int) - 1 := by omega
      unfold b_132_10
      repeat' first
        | (refine V_icmp_eq.mpr ?_; first | rw [if_pos (by omega)] | rw [if_neg (by omega)] | split)
        | (refine V_icmp_lt.mpr ?_; first | rw [if_pos (by omega)] | rw [if_neg (by omega)] | split)
        | (refine V_icmp_ne.mpr ?_; first | rw [if_pos (by omega)] | rw [if_neg (by omega)] | split)
        | (refine V_if_eq.mpr ?_; first | rw [if_pos (by omega)] | rw [if_neg (by omega)] | split)
        | (refine V_if_le.mpr ?_; first | rw [if_pos (by omega)] | rw [if_neg (by omega)] | split)
        | (refine V_if_lt.mpr ?_; first | rw [if_pos (by omega)] | rw [if_neg (by omega)] | split)
        | (refine V_if_ne.mpr ?_; first | rw [if_pos (by omega)] | rw [if_neg (by omega)] | split)
        | (simp (disch := (first | omega | (simp (disch := omega) only [up_f, up_s, up_i, up_k, up_e]; omega))) only [up_f, up_s, up_i, up_k, up_e, V_iconst, V_bipush, V_sipush, V_conti, V_contn, V_goto, Option.some.injEq, exists_eq_left', true_and, and_true, m_fit, Option.isSome_some, List.map_nil, List.map_cons, List.sum_nil, List.sum_cons, List.all_nil, List.all_cons, m_cat, decide_true, Bool.and_true, Bool.true_and, Nat.zero_le, Int.toNat_natCast, Int.reduceAdd, Int.reduceSub, Int.reduceMul, Int.reduceNeg, Int.reduceLE, Int.reduceLT, Nat.reduceAdd, Nat.reduceLeDiff, Int.reduceToNat, Int.reduceEq, decide_eq_true_eq, true_or, or_true, exists_and_left, and_self, Nat.reduceMul, Nat.reduceSub, Nat.reduceLT, m_oa, Nat.reduceEqDiff, or_false, false_or, Sum.inl.injEq, Sum.inr.injEq, ↓reduceIte, ne_eq, not_false_eq_true, Int.reduceNe, exists_eq_left, D_132, R_132, X_132, F_132_161, J_132_12, F_132_68, J_132_21, J_132_31, F_132_65, J_132_41, F_132_49, J_132_57, F_132_71, J_132_77, F_132_43, J_132_93, J_132_97, J_132_105, F_132_77, F_132_83, I_132_237, J_132_127, J_132_132, J_132_140, V_istoren3, V_aloadn0, G_10_14, V_isub, m_sub_eq, V_istore4, V_iload4, G_10_23, A_316, T_a316, B_316, V_iloadn1, U_iaload, G_10_22, A_315, T_a315, B_315, U_baload, G_10_17, A_310, T_a310, B_310, G_10_24, A_317, T_a317, B_317, V_imul, m_mul_eq, G_10_15, A_308, T_a308, B_308, V_istore5, V_iload5, G_10_27, A_319, T_a319, B_319, V_iloadn2, G_10_29, A_321, T_a321, B_321, T_10, V_iloadn3, V_iinc4, m_add_eq, b_132_0, b_132_100, b_132_101, b_132_135, b_132_136, b_132_143, s_129x, hx1, hx2, hf])
      all_goals first | exact kk _ | (rw [hkk2]; exact kk _)
    · have kk := fun v => k_132 h hi hC10 hc h67 K k x ((k : Int) - 1) v (by omega) (by omega) (hinv.imp (fun z => ⟨z.1, fun j h2 h3 => by
          by_cases hjk : j = k
          · subst hjk; exact ht
          · exact z.2 j (by omega) h3⟩) (fun ⟨j, z1, z2, z3, z4, z5⟩ => ⟨j, by omega, z2, z3, z4, fun i2 h2 h3 => by
          by_cases hjk : i2 = k
          · subst hjk; exact ht
          · exact z5 i2 (by omega) h3⟩))
      have hkk2 : (k : Int) + -1 = (k : Int) - 1 := by omega
      have hno : ∀ (r1 : 0 < S 69 0 c) (r2 : 0 < S 69 0 k) (r3 : S 68 0 k = 0) (r4 : S 63 0 c ≤ S 63 0 k) (r5 : S 70 0 (3 * k) = S 70 0 (3 * c)) (r6 : S 61 0 k = S 61 0 c), rfM S k (S 72 0 i) (S 74 0 i) = -1 := fun r1 r2 r3 r4 r5 r6 => by
        by_cases hz : rfM S k (S 72 0 i) (S 74 0 i) = -1
        · exact hz
        · exact absurd ⟨⟨r1, r2, r3, r4, r5, r6⟩, hz⟩ ht
      unfold b_132_10
      by_cases r1 : 0 < S 69 0 c
      · by_cases r2 : 0 < S 69 0 k
        · by_cases r3 : S 68 0 k = 0
          · by_cases r4 : S 63 0 c ≤ S 63 0 k
            · by_cases r5 : S 70 0 (3 * k) = S 70 0 (3 * c)
              · by_cases r6 : S 61 0 k = S 61 0 c
                · have hf := hno r1 r2 r3 r4 r5 r6
                  repeat' first
                    | (refine V_icmp_eq.mpr ?_; first | rw [if_pos (by omega)] | rw [if_neg (by omega)] | split)
                    | (refine V_icmp_lt.mpr ?_; first | rw [if_pos (by omega)] | rw [if_neg (by omega)] | split)
                    | (refine V_icmp_ne.mpr ?_; first | rw [if_pos (by omega)] | rw [if_neg (by omega)] | split)
                    | (refine V_if_eq.mpr ?_; first | rw [if_pos (by omega)] | rw [if_neg (by omega)] | split)
                    | (refine V_if_le.mpr ?_; first | rw [if_pos (by omega)] | rw [if_neg (by omega)] | split)
                    | (refine V_if_lt.mpr ?_; first | rw [if_pos (by omega)] | rw [if_neg (by omega)] | split)
                    | (refine V_if_ne.mpr ?_; first | rw [if_pos (by omega)] | rw [if_neg (by omega)] | split)
                    | (simp (disch := (first | omega | (simp (disch := omega) only [up_f, up_s, up_i, up_k, up_e]; omega))) only [up_f, up_s, up_i, up_k, up_e, V_iconst, V_bipush, V_sipush, V_conti, V_contn, V_goto, Option.some.injEq, exists_eq_left', true_and, and_true, m_fit, Option.isSome_some, List.map_nil, List.map_cons, List.sum_nil, List.sum_cons, List.all_nil, List.all_cons, m_cat, decide_true, Bool.and_true, Bool.true_and, Nat.zero_le, Int.toNat_natCast, Int.reduceAdd, Int.reduceSub, Int.reduceMul, Int.reduceNeg, Int.reduceLE, Int.reduceLT, Nat.reduceAdd, Nat.reduceLeDiff, Int.reduceToNat, Int.reduceEq, decide_eq_true_eq, true_or, or_true, exists_and_left, and_self, Nat.reduceMul, Nat.reduceSub, Nat.reduceLT, m_oa, Nat.reduceEqDiff, or_false, false_or, Sum.inl.injEq, Sum.inr.injEq, ↓reduceIte, ne_eq, not_false_eq_true, Int.reduceNe, exists_eq_left, D_132, R_132, X_132, F_132_161, J_132_12, F_132_68, J_132_21, J_132_31, F_132_65, J_132_41, F_132_49, J_132_57, F_132_71, J_132_77, F_132_43, J_132_93, J_132_97, J_132_105, F_132_77, F_132_83, I_132_237, J_132_127, J_132_132, J_132_140, V_istoren3, V_aloadn0, G_10_14, V_isub, m_sub_eq, V_istore4, V_iload4, G_10_23, A_316, T_a316, B_316, V_iloadn1, U_iaload, G_10_22, A_315, T_a315, B_315, U_baload, G_10_17, A_310, T_a310, B_310, G_10_24, A_317, T_a317, B_317, V_imul, m_mul_eq, G_10_15, A_308, T_a308, B_308, V_istore5, V_iload5, G_10_27, A_319, T_a319, B_319, V_iloadn2, G_10_29, A_321, T_a321, B_321, T_10, V_iloadn3, V_iinc4, m_add_eq, b_132_0, b_132_100, b_132_101, b_132_135, b_132_136, b_132_143, s_129x, hx1, hx2, hf])
                  all_goals first | exact kk _ | (rw [hkk2]; exact kk _)
                · 
                  repeat' first
                    | (refine V_icmp_eq.mpr ?_; first | rw [if_pos (by omega)] | rw [if_neg (by omega)] | split)
                    | (refine V_icmp_lt.mpr ?_; first | rw [if_pos (by omega)] | rw [if_neg (by omega)] | split)
                    | (refine V_icmp_ne.mpr ?_; first | rw [if_pos (by omega)] | rw [if_neg (by omega)] | split)
                    | (refine V_if_eq.mpr ?_; first | rw [if_pos (by omega)] | rw [if_neg (by omega)] | split)
                    | (refine V_if_le.mpr ?_; first | rw [if_pos (by omega)] | rw [if_neg (by omega)] | split)
                    | (refine V_if_lt.mpr ?_; first | rw [if_pos (by omega)] | rw [if_neg (by omega)] | split)
                    | (refine V_if_ne.mpr ?_; first | rw [if_pos (by omega)] | rw [if_neg (by omega)] | split)
                    | (simp (disch := (first | omega | (simp (disch := omega) only [up_f, up_s, up_i, up_k, up_e]; omega))) only [up_f, up_s, up_i, up_k, up_e, V_iconst, V_bipush, V_sipush, V_conti, V_contn, V_goto, Option.some.injEq, exists_eq_left', true_and, and_true, m_fit, Option.isSome_some, List.map_nil, List.map_cons, List.sum_nil, List.sum_cons, List.all_nil, List.all_cons, m_cat, decide_true, Bool.and_true, Bool.true_and, Nat.zero_le, Int.toNat_natCast, Int.reduceAdd, Int.reduceSub, Int.reduceMul, Int.reduceNeg, Int.reduceLE, Int.reduceLT, Nat.reduceAdd, Nat.reduceLeDiff, Int.reduceToNat, Int.reduceEq, decide_eq_true_eq, true_or, or_true, exists_and_left, and_self, Nat.reduceMul, Nat.reduceSub, Nat.reduceLT, m_oa, Nat.reduceEqDiff, or_false, false_or, Sum.inl.injEq, Sum.inr.injEq, ↓reduceIte, ne_eq, not_false_eq_true, Int.reduceNe, exists_eq_left, D_132, R_132, X_132, F_132_161, J_132_12, F_132_68, J_132_21, J_132_31, F_132_65, J_132_41, F_132_49, J_132_57, F_132_71, J_132_77, F_132_43, J_132_93, J_132_97, J_132_105, F_132_77, F_132_83, I_132_237, J_132_127, J_132_132, J_132_140, V_istoren3, V_aloadn0, G_10_14, V_isub, m_sub_eq, V_istore4, V_iload4, G_10_23, A_316, T_a316, B_316, V_iloadn1, U_iaload, G_10_22, A_315, T_a315, B_315, U_baload, G_10_17, A_310, T_a310, B_310, G_10_24, A_317, T_a317, B_317, V_imul, m_mul_eq, G_10_15, A_308, T_a308, B_308, V_istore5, V_iload5, G_10_27, A_319, T_a319, B_319, V_iloadn2, G_10_29, A_321, T_a321, B_321, T_10, V_iloadn3, V_iinc4, m_add_eq, b_132_0, b_132_100, b_132_101, b_132_135, b_132_136, b_132_143, s_129x, hx1, hx2])
                  all_goals first | exact kk _ | (rw [hkk2]; exact kk _)
              · 
                repeat' first
                  | (refine V_icmp_eq.mpr ?_; first | rw [if_pos (by omega)] | rw [if_neg (by omega)] | split)
                  | (refine V_icmp_lt.mpr ?_; first | rw [if_pos (by omega)] | rw [if_neg (by omega)] | split)
                  | (refine V_icmp_ne.mpr ?_; first | rw [if_pos (by omega)] | rw [if_neg (by omega)] | split)
                  | (refine V_if_eq.mpr ?_; first | rw [if_pos (by omega)] | rw [if_neg (by omega)] | split)
                  | (refine V_if_le.mpr ?_; first | rw [if_pos (by omega)] | rw [if_neg (by omega)] | split)
                  | (refine V_if_lt.mpr ?_; first | rw [if_pos (by omega)] | rw [if_neg (by omega)] | split)
                  | (refine V_if_ne.mpr ?_; first | rw [if_pos (by omega)] | rw [if_neg (by omega)] | split)
                  | (simp (disch := (first | omega | (simp (disch := omega) only [up_f, up_s, up_i, up_k, up_e]; omega))) only [up_f, up_s, up_i, up_k, up_e, V_iconst, V_bipush, V_sipush, V_conti, V_contn, V_goto, Option.some.injEq, exists_eq_left', true_and, and_true, m_fit, Option.isSome_some, List.map_nil, List.map_cons, List.sum_nil, List.sum_cons, List.all_nil, List.all_cons, m_cat, decide_true, Bool.and_true, Bool.true_and, Nat.zero_le, Int.toNat_natCast, Int.reduceAdd, Int.reduceSub, Int.reduceMul, Int.reduceNeg, Int.reduceLE, Int.reduceLT, Nat.reduceAdd, Nat.reduceLeDiff, Int.reduceToNat, Int.reduceEq, decide_eq_true_eq, true_or, or_true, exists_and_left, and_self, Nat.reduceMul, Nat.reduceSub, Nat.reduceLT, m_oa, Nat.reduceEqDiff, or_false, false_or, Sum.inl.injEq, Sum.inr.injEq, ↓reduceIte, ne_eq, not_false_eq_true, Int.reduceNe, exists_eq_left, D_132, R_132, X_132, F_132_161, J_132_12, F_132_68, J_132_21, J_132_31, F_132_65, J_132_41, F_132_49, J_132_57, F_132_71, J_132_77, F_132_43, J_132_93, J_132_97, J_132_105, F_132_77, F_132_83, I_132_237, J_132_127, J_132_132, J_132_140, V_istoren3, V_aloadn0, G_10_14, V_isub, m_sub_eq, V_istore4, V_iload4, G_10_23, A_316, T_a316, B_316, V_iloadn1, U_iaload, G_10_22, A_315, T_a315, B_315, U_baload, G_10_17, A_310, T_a310, B_310, G_10_24, A_317, T_a317, B_317, V_imul, m_mul_eq, G_10_15, A_308, T_a308, B_308, V_istore5, V_iload5, G_10_27, A_319, T_a319, B_319, V_iloadn2, G_10_29, A_321, T_a321, B_321, T_10, V_iloadn3, V_iinc4, m_add_eq, b_132_0, b_132_100, b_132_101, b_132_135, b_132_136, b_132_143, s_129x, hx1, hx2])
                all_goals first | exact kk _ | (rw [hkk2]; exact kk _)
            · 
              repeat' first
                | (refine V_icmp_eq.mpr ?_; first | rw [if_pos (by omega)] | rw [if_neg (by omega)] | split)
                | (refine V_icmp_lt.mpr ?_; first | rw [if_pos (by omega)] | rw [if_neg (by omega)] | split)
                | (refine V_icmp_ne.mpr ?_; first | rw [if_pos (by omega)] | rw [if_neg (by omega)] | split)
                | (refine V_if_eq.mpr ?_; first | rw [if_pos (by omega)] | rw [if_neg (by omega)] | split)
                | (refine V_if_le.mpr ?_; first | rw [if_pos (by omega)] | rw [if_neg (by omega)] | split)
                | (refine V_if_lt.mpr ?_; first | rw [if_pos (by omega)] | rw [if_neg (by omega)] | split)
                | (refine V_if_ne.mpr ?_; first | rw [if_pos (by omega)] | rw [if_neg (by omega)] | split)
                | (simp (disch := (first | omega | (simp (disch := omega) only [up_f, up_s, up_i, up_k, up_e]; omega))) only [up_f, up_s, up_i, up_k, up_e, V_iconst, V_bipush, V_sipush, V_conti, V_contn, V_goto, Option.some.injEq, exists_eq_left', true_and, and_true, m_fit, Option.isSome_some, List.map_nil, List.map_cons, List.sum_nil, List.sum_cons, List.all_nil, List.all_cons, m_cat, decide_true, Bool.and_true, Bool.true_and, Nat.zero_le, Int.toNat_natCast, Int.reduceAdd, Int.reduceSub, Int.reduceMul, Int.reduceNeg, Int.reduceLE, Int.reduceLT, Nat.reduceAdd, Nat.reduceLeDiff, Int.reduceToNat, Int.reduceEq, decide_eq_true_eq, true_or, or_true, exists_and_left, and_self, Nat.reduceMul, Nat.reduceSub, Nat.reduceLT, m_oa, Nat.reduceEqDiff, or_false, false_or, Sum.inl.injEq, Sum.inr.injEq, ↓reduceIte, ne_eq, not_false_eq_true, Int.reduceNe, exists_eq_left, D_132, R_132, X_132, F_132_161, J_132_12, F_132_68, J_132_21, J_132_31, F_132_65, J_132_41, F_132_49, J_132_57, F_132_71, J_132_77, F_132_43, J_132_93, J_132_97, J_132_105, F_132_77, F_132_83, I_132_237, J_132_127, J_132_132, J_132_140, V_istoren3, V_aloadn0, G_10_14, V_isub, m_sub_eq, V_istore4, V_iload4, G_10_23, A_316, T_a316, B_316, V_iloadn1, U_iaload, G_10_22, A_315, T_a315, B_315, U_baload, G_10_17, A_310, T_a310, B_310, G_10_24, A_317, T_a317, B_317, V_imul, m_mul_eq, G_10_15, A_308, T_a308, B_308, V_istore5, V_iload5, G_10_27, A_319, T_a319, B_319, V_iloadn2, G_10_29, A_321, T_a321, B_321, T_10, V_iloadn3, V_iinc4, m_add_eq, b_132_0, b_132_100, b_132_101, b_132_135, b_132_136, b_132_143, s_129x, hx1, hx2])
              all_goals first | exact kk _ | (rw [hkk2]; exact kk _)
          · 
            repeat' first
              | (refine V_icmp_eq.mpr ?_; first | rw [if_pos (by omega)] | rw [if_neg (by omega)] | split)
              | (refine V_icmp_lt.mpr ?_; first | rw [if_pos (by omega)] | rw [if_neg (by omega)] | split)
              | (refine V_icmp_ne.mpr ?_; first | rw [if_pos (by omega)] | rw [if_neg (by omega)] | split)
              | (refine V_if_eq.mpr ?_; first | rw [if_pos (by omega)] | rw [if_neg (by omega)] | split)
              | (refine V_if_le.mpr ?_; first | rw [if_pos (by omega)] | rw [if_neg (by omega)] | split)
              | (refine V_if_lt.mpr ?_; first | rw [if_pos (by omega)] | rw [if_neg (by omega)] | split)
              | (refine V_if_ne.mpr ?_; first | rw [if_pos (by omega)] | rw [if_neg (by omega)] | split)
              | (simp (disch := (first | omega | (simp (disch := omega) only [up_f, up_s, up_i, up_k, up_e]; omega))) only [up_f, up_s, up_i, up_k, up_e, V_iconst, V_bipush, V_sipush, V_conti, V_contn, V_goto, Option.some.injEq, exists_eq_left', true_and, and_true, m_fit, Option.isSome_some, List.map_nil, List.map_cons, List.sum_nil, List.sum_cons, List.all_nil, List.all_cons, m_cat, decide_true, Bool.and_true, Bool.true_and, Nat.zero_le, Int.toNat_natCast, Int.reduceAdd, Int.reduceSub, Int.reduceMul, Int.reduceNeg, Int.reduceLE, Int.reduceLT, Nat.reduceAdd, Nat.reduceLeDiff, Int.reduceToNat, Int.reduceEq, decide_eq_true_eq, true_or, or_true, exists_and_left, and_self, Nat.reduceMul, Nat.reduceSub, Nat.reduceLT, m_oa, Nat.reduceEqDiff, or_false, false_or, Sum.inl.injEq, Sum.inr.injEq, ↓reduceIte, ne_eq, not_false_eq_true, Int.reduceNe, exists_eq_left, D_132, R_132, X_132, F_132_161, J_132_12, F_132_68, J_132_21, J_132_31, F_132_65, J_132_41, F_132_49, J_132_57, F_132_71, J_132_77, F_132_43, J_132_93, J_132_97, J_132_105, F_132_77, F_132_83, I_132_237, J_132_127, J_132_132, J_132_140, V_istoren3, V_aloadn0, G_10_14, V_isub, m_sub_eq, V_istore4, V_iload4, G_10_23, A_316, T_a316, B_316, V_iloadn1, U_iaload, G_10_22, A_315, T_a315, B_315, U_baload, G_10_17, A_310, T_a310, B_310, G_10_24, A_317, T_a317, B_317, V_imul, m_mul_eq, G_10_15, A_308, T_a308, B_308, V_istore5, V_iload5, G_10_27, A_319, T_a319, B_319, V_iloadn2, G_10_29, A_321, T_a321, B_321, T_10, V_iloadn3, V_iinc4, m_add_eq, b_132_0, b_132_100, b_132_101, b_132_135, b_132_136, b_132_143, s_129x, hx1, hx2])
            all_goals first | exact kk _ | (rw [hkk2]; exact kk _)
        · 
          repeat' first
            | (refine V_icmp_eq.mpr ?_; first | rw [if_pos (by omega)] | rw [if_neg (by omega)] | split)
            | (refine V_icmp_lt.mpr ?_; first | rw [if_pos (by omega)] | rw [if_neg (by omega)] | split)
            | (refine V_icmp_ne.mpr ?_; first | rw [if_pos (by omega)] | rw [if_neg (by omega)] | split)
            | (refine V_if_eq.mpr ?_; first | rw [if_pos (by omega)] | rw [if_neg (by omega)] | split)
            | (refine V_if_le.mpr ?_; first | rw [if_pos (by omega)] | rw [if_neg (by omega)] | split)
            | (refine V_if_lt.mpr ?_; first | rw [if_pos (by omega)] | rw [if_neg (by omega)] | split)
            | (refine V_if_ne.mpr ?_; first | rw [if_pos (by omega)] | rw [if_neg (by omega)] | split)
            | (simp (disch := (first | omega | (simp (disch := omega) only [up_f, up_s, up_i, up_k, up_e]; omega))) only [up_f, up_s, up_i, up_k, up_e, V_iconst, V_bipush, V_sipush, V_conti, V_contn, V_goto, Option.some.injEq, exists_eq_left', true_and, and_true, m_fit, Option.isSome_some, List.map_nil, List.map_cons, List.sum_nil, List.sum_cons, List.all_nil, List.all_cons, m_cat, decide_true, Bool.and_true, Bool.true_and, Nat.zero_le, Int.toNat_natCast, Int.reduceAdd, Int.reduceSub, Int.reduceMul, Int.reduceNeg, Int.reduceLE, Int.reduceLT, Nat.reduceAdd, Nat.reduceLeDiff, Int.reduceToNat, Int.reduceEq, decide_eq_true_eq, true_or, or_true, exists_and_left, and_self, Nat.reduceMul, Nat.reduceSub, Nat.reduceLT, m_oa, Nat.reduceEqDiff, or_false, false_or, Sum.inl.injEq, Sum.inr.injEq, ↓reduceIte, ne_eq, not_false_eq_true, Int.reduceNe, exists_eq_left, D_132, R_132, X_132, F_132_161, J_132_12, F_132_68, J_132_21, J_132_31, F_132_65, J_132_41, F_132_49, J_132_57, F_132_71, J_132_77, F_132_43, J_132_93, J_132_97, J_132_105, F_132_77, F_132_83, I_132_237, J_132_127, J_132_132, J_132_140, V_istoren3, V_aloadn0, G_10_14, V_isub, m_sub_eq, V_istore4, V_iload4, G_10_23, A_316, T_a316, B_316, V_iloadn1, U_iaload, G_10_22, A_315, T_a315, B_315, U_baload, G_10_17, A_310, T_a310, B_310, G_10_24, A_317, T_a317, B_317, V_imul, m_mul_eq, G_10_15, A_308, T_a308, B_308, V_istore5, V_iload5, G_10_27, A_319, T_a319, B_319, V_iloadn2, G_10_29, A_321, T_a321, B_321, T_10, V_iloadn3, V_iinc4, m_add_eq, b_132_0, b_132_100, b_132_101, b_132_135, b_132_136, b_132_143, s_129x, hx1, hx2])
          all_goals first | exact kk _ | (rw [hkk2]; exact kk _)
      · 
        repeat' first
          | (refine V_icmp_eq.mpr ?_; first | rw [if_pos (by omega)] | rw [if_neg (by omega)] | split)
          | (refine V_icmp_lt.mpr ?_; first | rw [if_pos (by omega)] | rw [if_neg (by omega)] | split)
          | (refine V_icmp_ne.mpr ?_; first | rw [if_pos (by omega)] | rw [if_neg (by omega)] | split)
          | (refine V_if_eq.mpr ?_; first | rw [if_pos (by omega)] | rw [if_neg (by omega)] | split)
          | (refine V_if_le.mpr ?_; first | rw [if_pos (by omega)] | rw [if_neg (by omega)] | split)
          | (refine V_if_lt.mpr ?_; first | rw [if_pos (by omega)] | rw [if_neg (by omega)] | split)
          | (refine V_if_ne.mpr ?_; first | rw [if_pos (by omega)] | rw [if_neg (by omega)] | split)
          | (simp (disch := (first | omega | (simp (disch := omega) only [up_f, up_s, up_i, up_k, up_e]; omega))) only [up_f, up_s, up_i, up_k, up_e, V_iconst, V_bipush, V_sipush, V_conti, V_contn, V_goto, Option.some.injEq, exists_eq_left', true_and, and_true, m_fit, Option.isSome_some, List.map_nil, List.map_cons, List.sum_nil, List.sum_cons, List.all_nil, List.all_cons, m_cat, decide_true, Bool.and_true, Bool.true_and, Nat.zero_le, Int.toNat_natCast, Int.reduceAdd, Int.reduceSub, Int.reduceMul, Int.reduceNeg, Int.reduceLE, Int.reduceLT, Nat.reduceAdd, Nat.reduceLeDiff, Int.reduceToNat, Int.reduceEq, decide_eq_true_eq, true_or, or_true, exists_and_left, and_self, Nat.reduceMul, Nat.reduceSub, Nat.reduceLT, m_oa, Nat.reduceEqDiff, or_false, false_or, Sum.inl.injEq, Sum.inr.injEq, ↓reduceIte, ne_eq, not_false_eq_true, Int.reduceNe, exists_eq_left, D_132, R_132, X_132, F_132_161, J_132_12, F_132_68, J_132_21, J_132_31, F_132_65, J_132_41, F_132_49, J_132_57, F_132_71, J_132_77, F_132_43, J_132_93, J_132_97, J_132_105, F_132_77, F_132_83, I_132_237, J_132_127, J_132_132, J_132_140, V_istoren3, V_aloadn0, G_10_14, V_isub, m_sub_eq, V_istore4, V_iload4, G_10_23, A_316, T_a316, B_316, V_iloadn1, U_iaload, G_10_22, A_315, T_a315, B_315, U_baload, G_10_17, A_310, T_a310, B_310, G_10_24, A_317, T_a317, B_317, V_imul, m_mul_eq, G_10_15, A_308, T_a308, B_308, V_istore5, V_iload5, G_10_27, A_319, T_a319, B_319, V_iloadn2, G_10_29, A_321, T_a321, B_321, T_10, V_iloadn3, V_iinc4, m_add_eq, b_132_0, b_132_100, b_132_101, b_132_135, b_132_136, b_132_143, s_129x, hx1, hx2])
        all_goals first | exact kk _ | (rw [hkk2]; exact kk _)
theorem r_132 {S0 S : Sg} {P i c C : Nat} (h : PPx S0 S P) (hi : i < P) (hC : S 2014 0 0 = C) (hC10 : C ≤ 10) (hc : c < 10) (h67 : ∀ k, k < 10 → 0 ≤ S 68 0 k ∧ S 68 0 k ≤ 1) (Q : MOut → MHp → Prop) : m_do xs L 132 [vR 296, vI c, vI i] (mk S e) Q ↔ Q (.inl (some (vI (lo (tkc S i c) C)))) (mk S e) := by
  refine m_do_eq ?_ Q
  repeat' first
    | (refine V_icmp_eq.mpr ?_; first | rw [if_pos (by omega)] | rw [if_neg (by omega)] | split)
    | (refine V_icmp_lt.mpr ?_; first | rw [if_pos (by omega)] | rw [if_neg (by omega)] | split)
    | (refine V_icmp_ne.mpr ?_; first | rw [if_pos (by omega)] | rw [if_neg (by omega)] | split)
    | (refine V_if_eq.mpr ?_; first | rw [if_pos (by omega)] | rw [if_neg (by omega)] | split)
    | (refine V_if_le.mpr ?_; first | rw [if_pos (by omega)] | rw [if_neg (by omega)] | split)
    | (refine V_if_lt.mpr ?_; first | rw [if_pos (by omega)] | rw [if_neg (by omega)] | split)
    | (refine V_if_ne.mpr ?_; first | rw [if_pos (by omega)] | rw [if_neg (by omega)] | split)
    | (simp (disch := (first | omega | (simp (disch := omega) only [up_f, up_s, up_i, up_k, up_e]; omega))) only [up_f, up_s, up_i, up_k, up_e, V_iconst, V_bipush, V_sipush, V_conti, V_contn, V_goto, Option.some.injEq, exists_eq_left', true_and, and_true, m_fit, Option.isSome_some, List.map_nil, List.map_cons, List.sum_nil, List.sum_cons, List.all_nil, List.all_cons, m_cat, decide_true, Bool.and_true, Bool.true_and, Nat.zero_le, Int.toNat_natCast, Int.reduceAdd, Int.reduceSub, Int.reduceMul, Int.reduceNeg, Int.reduceLE, Int.reduceLT, Nat.reduceAdd, Nat.reduceLeDiff, Int.reduceToNat, Int.reduceEq, decide_eq_true_eq, true_or, or_true, exists_and_left, and_self, Nat.reduceMul, Nat.reduceSub, Nat.reduceLT, m_oa, Nat.reduceEqDiff, or_false, false_or, Sum.inl.injEq, Sum.inr.injEq, ↓reduceIte, ne_eq, not_false_eq_true, Int.reduceNe, exists_eq_left, D_132, R_132, X_132, F_132_161, J_132_12, F_132_68, J_132_21, J_132_31, F_132_65, J_132_41, F_132_49, J_132_57, F_132_71, J_132_77, F_132_43, J_132_93, J_132_97, J_132_105, F_132_77, F_132_83, I_132_237, J_132_127, J_132_132, J_132_140, V_istoren3, V_aloadn0, G_10_14, V_isub, m_sub_eq, V_istore4, V_iload4, G_10_23, A_316, T_a316, B_316, V_iloadn1, U_iaload, G_10_22, A_315, T_a315, B_315, U_baload, G_10_17, A_310, T_a310, B_310, G_10_24, A_317, T_a317, B_317, V_imul, m_mul_eq, G_10_15, A_308, T_a308, B_308, V_istore5, V_iload5, G_10_27, A_319, T_a319, B_319, V_iloadn2, G_10_29, A_321, T_a321, B_321, T_10, V_iloadn3, V_iinc4, m_add_eq, b_132_0, b_132_100, b_132_101, b_132_135, b_132_136, b_132_143, hC])
  exact k_132 h hi hC10 hc h67 ⟨rfl, rfl⟩ C (-1) _ _ (by omega) rfl (Or.inl ⟨rfl, fun j h1 h2 => by omega⟩)
theorem k_133 {M0 B : Sg} {P c C : Nat} {s1 : Int} {Q : MOut → MHp → Prop} (hC10 : C ≤ 10) (hc : c < 10) (hP40 : P ≤ 40) (hP0 : M0 2026 0 0 = P) (hC0 : M0 2014 0 0 = C) (h69 : 0 ≤ B 69 0 c ∧ B 69 0 c ≤ 3) (h67 : ∀ k, k < 10 → 0 ≤ B 68 0 k ∧ B 68 0 k ≤ 1) (hex : ∀ i, i ≤ P → ∃ Sx, PPx Sx (tkA B c C i).1 P)
    (K : ∀ S2 : Sg, MB S2 (tkA B c C P).1 → FPm M0 S2 → Q (.inl (some (vI (tkA B c C P).2))) (mk S2 e)) : ∀ (z i : Nat) (ll ii : Int) (v : MV) (S : Sg), i + z = P → ii = i → ll = (tkA B c C i).2 → MB S (tkA B c C i).1 → FPm M0 S → m_ok xs L 133 b_133_54 [vR 296, vI c, vI s1, vI ll, vI ii, v] [] (mk S e) Q
  | 0, i, ll, ii, v, S, hz, hii, hll, mb, fp => by
    have hi : i = P := by omega
    subst hi
    subst hii hll
    have hP : S 2026 0 0 = i := by rw [fp 2026 _ _ (by omega)]; exact hP0
    have kk := K S mb fp
    unfold b_133_54
    repeat' first
      | (refine V_icmp_ge.mpr ?_; first | rw [if_pos (by omega)] | rw [if_neg (by omega)] | split)
      | (refine V_icmp_ne.mpr ?_; first | rw [if_pos (by omega)] | rw [if_neg (by omega)] | split)
      | (refine V_if_eq.mpr ?_; first | rw [if_pos (by omega)] | rw [if_neg (by omega)] | split)
      | (refine V_if_ne.mpr ?_; first | rw [if_pos (by omega)] | rw [if_neg (by omega)] | split)
      | (simp (disch := (first | omega | (simp (disch := omega) only [up_f, up_s, up_i, up_k, up_e]; omega))) only [up_f, up_s, up_i, up_k, up_e, V_iconst, V_bipush, V_sipush, V_conti, V_contn, V_goto, Option.some.injEq, exists_eq_left', true_and, and_true, m_fit, Option.isSome_some, List.map_nil, List.map_cons, List.sum_nil, List.sum_cons, List.all_nil, List.all_cons, m_cat, decide_true, Bool.and_true, Bool.true_and, Nat.zero_le, Int.toNat_natCast, Int.reduceAdd, Int.reduceSub, Int.reduceMul, Int.reduceNeg, Int.reduceLE, Int.reduceLT, Nat.reduceAdd, Nat.reduceLeDiff, Int.reduceToNat, Int.reduceEq, decide_eq_true_eq, true_or, or_true, exists_and_left, and_self, Nat.reduceMul, Nat.reduceSub, Nat.reduceLT, m_oa, Nat.reduceEqDiff, or_false, false_or, Sum.inl.injEq, Sum.inr.injEq, ↓reduceIte, ne_eq, not_false_eq_true, Int.reduceNe, exists_eq_left, D_133, R_133, X_133, I_133_185, J_133_8, J_133_12, F_133_65, J_133_21, J_133_25, I_133_167, J_133_32, W_133_173, F_133_164, J_133_60, F_133_89, J_133_71, F_133_95, I_133_241, I_133_244, J_133_106, F_133_86, F_133_68, J_133_131, F_133_77, F_133_83, I_133_237, I_133_247, J_133_165, V_aloadn0, V_iloadn1, T_10, V_istoren2, V_iloadn2, G_10_22, A_315, T_a315, B_315, U_baload, U_bastore, G_10_34, P_10_34, V_istoren3, V_istore4, V_iload4, G_10_26, G_10_31, A_323, T_a323, B_323, U_iaload, G_10_33, A_325, T_a325, B_325, U_iastore, V_istore5, V_iload5, G_10_30, A_322, T_a322, B_322, V_dup2, G_10_23, A_316, T_a316, B_316, V_imul, m_mul_eq, V_iadd, m_add_eq, V_iinc3, G_10_27, A_319, T_a319, B_319, G_10_29, A_321, T_a321, B_321, V_iinc4, V_iloadn3, b_133_0, b_133_15, b_133_28, b_133_29, b_133_37, b_133_134, b_133_162, b_133_168, hP])
    all_goals exact kk
  | z + 1, i, ll, ii, v, S, hz, hii, hll, mb, fp => by
    subst hii hll
    have hiP : i < P := by omega
    obtain ⟨Sx, hx⟩ := hex i (by omega)
    have hP : S 2026 0 0 = P := by rw [fp 2026 _ _ (by omega)]; exact hP0
    have hC : S 2014 0 0 = C := by rw [fp 2014 _ _ (by omega)]; exact hC0
    have hst : ∀ f j, stF f → (tkA B c C i).1 f 0 j = B f 0 j := fun f j hf => tkA_f hf i
    have e69 : (tkA B c C i).1 69 0 c = B 69 0 c := hst 69 _ (Or.inl (by decide))
    have e68 : ∀ k, (tkA B c C i).1 68 0 k = B 68 0 k := fun k => hst 68 _ (Or.inl (by decide))
    have t2 := tkA_2 (B := B) (c := c) (C := C) i
    have e1 : (tkA B c C (i + 1)).1 = (tkS (tkA B c C i).1 c C i).1 := rfl
    have e2 : (tkA B c C (i + 1)).2 = (tkA B c C i).2 + (tkS (tkA B c C i).1 c C i).2 := rfl
    generalize hBi : (tkA B c C i).1 = Bi at *
    have h76 : S 76 0 i = Bi 76 0 i := mb 76 i (by omega)
    by_cases hcc : Bi 76 0 i = c
    · obtain ⟨h75, r, b, ha, hp⟩ := at_of hx hiP hcc
      have h77 : S 77 0 i = 10 * r + b := by rw [mb 77 i (by omega)]; exact ha.2.2.2.2.1
      have h76c : S 76 0 i = c := by rw [h76]; exact hcc
      have h131 := s_131 (xs := xs) (L := L) (S := S) (e := e) (show i < 40 by omega) hc ha.2.1 ha.2.2.1 h76c h77
      have hf := PP_free hx hiP ha
      rw [← fre_eq hp] at hf
      have mb1 : MB (up (up S 78 0 (18 * c + 3 * r + b) (-1)) 76 0 i (-1)) (fre Bi i) := by
        rw [fre_eq hp]
        exact MB_up (MB_up mb)
      have fp1 : FPm M0 (up (up S 78 0 (18 * c + 3 * r + b) (-1)) 76 0 i (-1)) := FPm_up (FPm_up fp (by omega)) (by omega)
      have hS2014 : up (up S 78 0 (18 * c + 3 * r + b) (-1)) 76 0 i (-1) 2014 0 0 = C := by simp (disch := omega) only [up_f]; exact hC
      have hr39 : r < 6 ∧ b < 3 := ⟨ha.2.1, ha.2.2.1⟩
      have hbx : (18 * (c : Int) + 3 * (r : Int) + (b : Int)).toNat = 18 * c + 3 * r + b := by omega
      have hx180 : 18 * c + 3 * r + b < 180 := by omega
      generalize hS1 : up (up S 78 0 (18 * c + 3 * r + b) (-1)) 76 0 i (-1) = S1 at *
      have hS1' : ∀ e, mk (up (up S 78 0 (18 * c + 3 * r + b) (-1)) 76 0 i (-1)) e = mk S1 e := fun e => by rw [hS1]
      have hx1 : PPx (up (up (up (up Sx 40 0 (18 * c + 3 * r + b) (-1)) 1304 i 0 (-1)) 1305 i 0 (-1)) 1306 i 0 (-1)) S1 P := PP_ext hf (fun _ _ _ _ => rfl) (fun f j hf9 => mb1 f j (by
        unfold pmF at hf9
        simp only [Bool.and_eq_true, Nat.ble_eq] at hf9
        omega))
      have hmm : ∀ f j, 72 ≤ f ∧ f ≤ 78 → S1 f 0 j = fre Bi i f 0 j := fun f j h9 => mb1 f j (by omega)
      have htk : ∀ k, tkc S1 i c k ↔ tkc (fre Bi i) i c k := fun k => by
        unfold tkc rep
        rw [rfM_S hmm, mb1 69 _ (by omega), mb1 69 _ (by omega), mb1 68 _ (by omega), mb1 63 _ (by omega), mb1 63 _ (by omega), mb1 70 _ (by omega), mb1 70 _ (by omega), mb1 61 _ (by omega), mb1 61 _ (by omega), mb1 72 _ (by omega), mb1 74 _ (by omega)]
      have hlo : lo (tkc S1 i c) C = lo (tkc (fre Bi i) i c) C := by
        have : tkc S1 i c = tkc (fre Bi i) i c := funext (fun k => propext (htk k))
        rw [this]
      have hfst : ∀ f j, stF f → fre Bi i f 0 j = Bi f 0 j := fun f j hf9 => by
        unfold stF at hf9
        rw [fre_eq hp, up_f (by omega), up_f (by omega)]
      have h132 := r_132 (xs := xs) (L := L) (e := e) hx1 hiP hS2014 hC10 hc (fun k hk => by
        have h9 : S1 68 0 k = B 68 0 k := by rw [mb1 68 _ (by omega), hfst 68 _ (Or.inl (by decide)), e68]
        rw [h9]
        exact h67 k hk)
      rw [hlo] at h132
      have g69 : S1 69 0 c = B 69 0 c := by rw [mb1 69 _ (by omega), hfst 69 _ (Or.inl (by decide)), e69]
      have g75 : S1 75 0 i = fre Bi i 75 0 i := mb1 75 _ (by omega)
      have g75b : fre Bi i 75 0 i = 0 := by
        rw [fre_eq hp]
        simp (disch := omega) only [up_f]
        exact h75
      rcases lo_spec (p := tkc (fre Bi i) i c) C with ⟨z1, z2⟩ | ⟨k, z1, z2, z3, z4⟩
      · rw [z1] at h132
        have hT : tkS Bi c C i = (up (fre Bi i) 75 0 i (fre Bi i 75 0 i + 50 * Bi 69 0 c), 1) := by
          unfold tkS
          rw [if_pos hcc, if_pos z1]
        rw [hT, e69] at e1
        rw [hT] at e2
        have e1b : (tkA B c C (i + 1)).1 = up (fre Bi i) 75 0 i (fre Bi i 75 0 i + 50 * B 69 0 c) := e1
        have g75c : S1 75 0 i = 0 := by rw [g75]; exact g75b
        have kk := fun v => k_133 (s1 := s1) hC10 hc hP40 hP0 hC0 h69 h67 hex K z (i + 1) ((tkA B c C i).2 + 1) ((i : Int) + 1) v (up S1 75 0 i (0 + 50 * B 69 0 c)) (by omega) (by omega) e2.symm (by rw [e1b, g75b]; exact MB_up mb1) (FPm_up fp1 (by omega))
        unfold b_133_54
        repeat' first
          | (refine V_icmp_ge.mpr ?_; first | rw [if_pos (by omega)] | rw [if_neg (by omega)] | split)
          | (refine V_icmp_ne.mpr ?_; first | rw [if_pos (by omega)] | rw [if_neg (by omega)] | split)
          | (refine V_if_eq.mpr ?_; first | rw [if_pos (by omega)] | rw [if_neg (by omega)] | split)
          | (refine V_if_ne.mpr ?_; first | rw [if_pos (by omega)] | rw [if_neg (by omega)] | split)
          | (simp (disch := (first | omega | (simp (disch := omega) only [up_f, up_s, up_i, up_k, up_e]; omega))) only [up_f, up_s, up_i, up_k, up_e, V_iconst, V_bipush, V_sipush, V_conti, V_contn, V_goto, Option.some.injEq, exists_eq_left', true_and, and_true, m_fit, Option.isSome_some, List.map_nil, List.map_cons, List.sum_nil, List.sum_cons, List.all_nil, List.all_cons, m_cat, decide_true, Bool.and_true, Bool.true_and, Nat.zero_le, Int.toNat_natCast, Int.reduceAdd, Int.reduceSub, Int.reduceMul, Int.reduceNeg, Int.reduceLE, Int.reduceLT, Nat.reduceAdd, Nat.reduceLeDiff, Int.reduceToNat, Int.reduceEq, decide_eq_true_eq, true_or, or_true, exists_and_left, and_self, Nat.reduceMul, Nat.reduceSub, Nat.reduceLT, m_oa, Nat.reduceEqDiff, or_false, false_or, Sum.inl.injEq, Sum.inr.injEq, ↓reduceIte, ne_eq, not_false_eq_true, Int.reduceNe, exists_eq_left, D_133, R_133, X_133, I_133_185, J_133_8, J_133_12, F_133_65, J_133_21, J_133_25, I_133_167, J_133_32, W_133_173, F_133_164, J_133_60, F_133_89, J_133_71, F_133_95, I_133_241, I_133_244, J_133_106, F_133_86, F_133_68, J_133_131, F_133_77, F_133_83, I_133_237, I_133_247, J_133_165, V_aloadn0, V_iloadn1, T_10, V_istoren2, V_iloadn2, G_10_22, A_315, T_a315, B_315, U_baload, U_bastore, G_10_34, P_10_34, V_istoren3, V_istore4, V_iload4, G_10_26, G_10_31, A_323, T_a323, B_323, U_iaload, G_10_33, A_325, T_a325, B_325, U_iastore, V_istore5, V_iload5, G_10_30, A_322, T_a322, B_322, V_dup2, G_10_23, A_316, T_a316, B_316, V_imul, m_mul_eq, V_iadd, m_add_eq, V_iinc3, G_10_27, A_319, T_a319, B_319, G_10_29, A_321, T_a321, B_321, V_iinc4, V_iloadn3, b_133_0, b_133_15, b_133_28, b_133_29, b_133_37, b_133_134, b_133_162, b_133_168, hP, h76c, h131, hbx, hS1', h132, g69, g75c])
        exact kk _
      · rw [z2] at h132
        have hk10 : k < 10 := by omega
        have hk1 : ¬ (k : Int) = -1 := by omega
        have hT : tkS Bi c C i = (sla (fre Bi i) i k, 0) := by
          unfold tkS
          rw [if_pos hcc, if_neg (by omega), z2, Int.toNat_natCast]
        rw [hT] at e1 e2
        have e1b : (tkA B c C (i + 1)).1 = sla (fre Bi i) i k := e1
        obtain ⟨s1', s2, s3, s4, s5, s6⟩ := sla_ok hf hiP hk10 z3.2
        have g72 : S1 72 0 i = fre Bi i 72 0 i := mb1 72 _ (by omega)
        have g74 : S1 74 0 i = fre Bi i 74 0 i := mb1 74 _ (by omega)
        have h129 := s_129 (xs := xs) (L := L) (S := S1) (e := e) (c := k) (w := fre Bi i 72 0 i) (p := fre Bi i 74 0 i) hk10 (bed_78 hx1)
        rw [rfM_S hmm, s2] at h129
        have g01 : fre Bi i 72 0 i = 0 ∨ fre Bi i 72 0 i = 1 := (hf.2.1 i (by omega)).2.2.2.2.2.1
        have h130 := s_130 (xs := xs) (L := L) (S := S1) (e := e) (p := i) (c := k) (r := slR (fre Bi i) i k) (b := slB (fre Bi i) i k) (by omega) hk10 s1' s3 (by
          have e9 := fb_c (f := fun b => S1 78 0 (18 * k + 3 * slR (fre Bi i) i k + b)) (g := fun b => fre Bi i 78 0 (18 * k + 3 * slR (fre Bi i) i k + b)) (fun a _ => mb1 78 _ (by omega))
          rw [e9.1, e9.2, mb1 73 _ (by omega)]
          exact s4)
        have mb2 : MB (up (up (up S1 78 0 (18 * k + 3 * slR (fre Bi i) i k + slB (fre Bi i) i k) i) 76 0 i k) 77 0 i (10 * slR (fre Bi i) i k + slB (fre Bi i) i k)) (sla (fre Bi i) i k) := MB_up (MB_up (MB_up mb1))
        have kk := fun v => k_133 (s1 := s1) hC10 hc hP40 hP0 hC0 h69 h67 hex K z (i + 1) (tkA B c C i).2 ((i : Int) + 1) v _ (by omega) (by omega) (by rw [e2]; omega) (by rw [e1b]; exact mb2) (FPm_up (FPm_up (FPm_up fp1 (by omega)) (by omega)) (by omega))
        unfold b_133_54
        repeat' first
          | (refine V_icmp_ge.mpr ?_; first | rw [if_pos (by omega)] | rw [if_neg (by omega)] | split)
          | (refine V_icmp_ne.mpr ?_; first | rw [if_pos (by omega)] | rw [if_neg (by omega)] | split)
          | (refine V_if_eq.mpr ?_; first | rw [if_pos (by omega)] | rw [if_neg (by omega)] | split)
          | (refine V_if_ne.mpr ?_; first | rw [if_pos (by omega)] | rw [if_neg (by omega)] | split)
          | (simp (disch := (first | omega | (simp (disch := omega) only [up_f, up_s, up_i, up_k, up_e]; omega))) only [up_f, up_s, up_i, up_k, up_e, V_iconst, V_bipush, V_sipush, V_conti, V_contn, V_goto, Option.some.injEq, exists_eq_left', true_and, and_true, m_fit, Option.isSome_some, List.map_nil, List.map_cons, List.sum_nil, List.sum_cons, List.all_nil, List.all_cons, m_cat, decide_true, Bool.and_true, Bool.true_and, Nat.zero_le, Int.toNat_natCast, Int.reduceAdd, Int.reduceSub, Int.reduceMul, Int.reduceNeg, Int.reduceLE, Int.reduceLT, Nat.reduceAdd, Nat.reduceLeDiff, Int.reduceToNat, Int.reduceEq, decide_eq_true_eq, true_or, or_true, exists_and_left, and_self, Nat.reduceMul, Nat.reduceSub, Nat.reduceLT, m_oa, Nat.reduceEqDiff, or_false, false_or, Sum.inl.injEq, Sum.inr.injEq, ↓reduceIte, ne_eq, not_false_eq_true, Int.reduceNe, exists_eq_left, D_133, R_133, X_133, I_133_185, J_133_8, J_133_12, F_133_65, J_133_21, J_133_25, I_133_167, J_133_32, W_133_173, F_133_164, J_133_60, F_133_89, J_133_71, F_133_95, I_133_241, I_133_244, J_133_106, F_133_86, F_133_68, J_133_131, F_133_77, F_133_83, I_133_237, I_133_247, J_133_165, V_aloadn0, V_iloadn1, T_10, V_istoren2, V_iloadn2, G_10_22, A_315, T_a315, B_315, U_baload, U_bastore, G_10_34, P_10_34, V_istoren3, V_istore4, V_iload4, G_10_26, G_10_31, A_323, T_a323, B_323, U_iaload, G_10_33, A_325, T_a325, B_325, U_iastore, V_istore5, V_iload5, G_10_30, A_322, T_a322, B_322, V_dup2, G_10_23, A_316, T_a316, B_316, V_imul, m_mul_eq, V_iadd, m_add_eq, V_iinc3, G_10_27, A_319, T_a319, B_319, G_10_29, A_321, T_a321, B_321, V_iinc4, V_iloadn3, b_133_0, b_133_15, b_133_28, b_133_29, b_133_37, b_133_134, b_133_162, b_133_168, hP, h76c, h131, hbx, hS1', h132, hk1, g72, g74, h129, h130])
        exact kk _
    · have hT : tkS Bi c C i = (Bi, 0) := by
        unfold tkS
        rw [if_neg hcc]
      rw [hT] at e1 e2
      have e1b : (tkA B c C (i + 1)).1 = Bi := e1
      have h76n : ¬ S 76 0 i = c := by rw [h76]; exact hcc
      have kk := fun v => k_133 (s1 := s1) hC10 hc hP40 hP0 hC0 h69 h67 hex K z (i + 1) (tkA B c C i).2 ((i : Int) + 1) v S (by omega) (by omega) (by rw [e2]; omega) (by rw [e1b]; exact mb) fp
      unfold b_133_54
      repeat' first
        | (refine V_icmp_ge.mpr ?_; first | rw [if_pos (by omega)] | rw [if_neg (by omega)] | split)
        | (refine V_icmp_ne.mpr ?_; first | rw [if_pos (by omega)] | rw [if_neg (by omega)] | split)
        | (refine V_if_eq.mpr ?_; first | rw [if_pos (by omega)] | rw [if_neg (by omega)] | split)
        | (refine V_if_ne.mpr ?_; first | rw [if_pos (by omega)] | rw [if_neg (by omega)] | split)
        | (simp (disch := (first | omega | (simp (disch := omega) only [up_f, up_s, up_i, up_k, up_e]; omega))) only [up_f, up_s, up_i, up_k, up_e, V_iconst, V_bipush, V_sipush, V_conti, V_contn, V_goto, Option.some.injEq, exists_eq_left', true_and, and_true, m_fit, Option.isSome_some, List.map_nil, List.map_cons, List.sum_nil, List.sum_cons, List.all_nil, List.all_cons, m_cat, decide_true, Bool.and_true, Bool.true_and, Nat.zero_le, Int.toNat_natCast, Int.reduceAdd, Int.reduceSub, Int.reduceMul, Int.reduceNeg, Int.reduceLE, Int.reduceLT, Nat.reduceAdd, Nat.reduceLeDiff, Int.reduceToNat, Int.reduceEq, decide_eq_true_eq, true_or, or_true, exists_and_left, and_self, Nat.reduceMul, Nat.reduceSub, Nat.reduceLT, m_oa, Nat.reduceEqDiff, or_false, false_or, Sum.inl.injEq, Sum.inr.injEq, ↓reduceIte, ne_eq, not_false_eq_true, Int.reduceNe, exists_eq_left, D_133, R_133, X_133, I_133_185, J_133_8, J_133_12, F_133_65, J_133_21, J_133_25, I_133_167, J_133_32, W_133_173, F_133_164, J_133_60, F_133_89, J_133_71, F_133_95, I_133_241, I_133_244, J_133_106, F_133_86, F_133_68, J_133_131, F_133_77, F_133_83, I_133_237, I_133_247, J_133_165, V_aloadn0, V_iloadn1, T_10, V_istoren2, V_iloadn2, G_10_22, A_315, T_a315, B_315, U_baload, U_bastore, G_10_34, P_10_34, V_istoren3, V_istore4, V_iload4, G_10_26, G_10_31, A_323, T_a323, B_323, U_iaload, G_10_33, A_325, T_a325, B_325, U_iastore, V_istore5, V_iload5, G_10_30, A_322, T_a322, B_322, V_dup2, G_10_23, A_316, T_a316, B_316, V_imul, m_mul_eq, V_iadd, m_add_eq, V_iinc3, G_10_27, A_319, T_a319, B_319, G_10_29, A_321, T_a321, B_321, V_iinc4, V_iloadn3, b_133_0, b_133_15, b_133_28, b_133_29, b_133_37, b_133_134, b_133_162, b_133_168, hP])
      exact kk _
/-- takeOut of the model -/
theorem m_133 {S0 S : Sg} {P c C : Nat} (h : PPx S0 S P) (hC : S 2014 0 0 = C) (hC10 : C ≤ 10) (hc : c < C) (hP : S 2026 0 0 = P) (h69 : 0 ≤ S 69 0 c ∧ S 69 0 c ≤ 3) (h67 : ∀ k, k < 10 → 0 ≤ S 68 0 k ∧ S 68 0 k ≤ 1) (ho : S 68 0 c = 0) :
    ∃ S2, (MB S2 (tkA (up S 68 0 c 1) c C P).1 ∧ FPm (up (up (up S 2000 0 0 0) 68 0 c 1) 2034 0 0 0) S2) ∧ ∀ Q, m_do xs L 133 [vR 296, vI c] (mk S e) Q ↔ Q (.inl (some (vI (tkA (up S 68 0 c 1) c C P).2))) (mk S2 e) := by
  have hB : PPx S0 (up S 68 0 c 1) P := PP_ext h (fun _ _ _ _ => rfl) (fun f j hf => up_f (fun z => by rw [z] at hf; cases hf))
  have e69 : up S 68 0 c 1 69 0 c = S 69 0 c := up_f (by decide)
  have hex : ∀ i, i ≤ P → ∃ Sx, PPx Sx (tkA (up S 68 0 c 1) c C i).1 P := tkA_PP hB hC10 (by rw [e69]; exact h69)
  have h103 := co1 (xs := xs) (L := L) (S := S) (e := e) (a := (c : Int)) (by omega) (by omega)
  refine m_do_ex ?_
  repeat' first
    | (refine V_icmp_ge.mpr ?_; first | rw [if_pos (by omega)] | rw [if_neg (by omega)] | split)
    | (refine V_icmp_ne.mpr ?_; first | rw [if_pos (by omega)] | rw [if_neg (by omega)] | split)
    | (refine V_if_eq.mpr ?_; first | rw [if_pos (by omega)] | rw [if_neg (by omega)] | split)
    | (refine V_if_ne.mpr ?_; first | rw [if_pos (by omega)] | rw [if_neg (by omega)] | split)
    | (simp (disch := (first | omega | (simp (disch := omega) only [up_f, up_s, up_i, up_k, up_e]; omega))) only [up_f, up_s, up_i, up_k, up_e, V_iconst, V_bipush, V_sipush, V_conti, V_contn, V_goto, Option.some.injEq, exists_eq_left', true_and, and_true, m_fit, Option.isSome_some, List.map_nil, List.map_cons, List.sum_nil, List.sum_cons, List.all_nil, List.all_cons, m_cat, decide_true, Bool.and_true, Bool.true_and, Nat.zero_le, Int.toNat_natCast, Int.reduceAdd, Int.reduceSub, Int.reduceMul, Int.reduceNeg, Int.reduceLE, Int.reduceLT, Nat.reduceAdd, Nat.reduceLeDiff, Int.reduceToNat, Int.reduceEq, decide_eq_true_eq, true_or, or_true, exists_and_left, and_self, Nat.reduceMul, Nat.reduceSub, Nat.reduceLT, m_oa, Nat.reduceEqDiff, or_false, false_or, Sum.inl.injEq, Sum.inr.injEq, ↓reduceIte, ne_eq, not_false_eq_true, Int.reduceNe, exists_eq_left, D_133, R_133, X_133, I_133_185, J_133_8, J_133_12, F_133_65, J_133_21, J_133_25, I_133_167, J_133_32, W_133_173, F_133_164, J_133_60, F_133_89, J_133_71, F_133_95, I_133_241, I_133_244, J_133_106, F_133_86, F_133_68, J_133_131, F_133_77, F_133_83, I_133_237, I_133_247, J_133_165, V_aloadn0, V_iloadn1, T_10, V_istoren2, V_iloadn2, G_10_22, A_315, T_a315, B_315, U_baload, U_bastore, G_10_34, P_10_34, V_istoren3, V_istore4, V_iload4, G_10_26, G_10_31, A_323, T_a323, B_323, U_iaload, G_10_33, A_325, T_a325, B_325, U_iastore, V_istore5, V_iload5, G_10_30, A_322, T_a322, B_322, V_dup2, G_10_23, A_316, T_a316, B_316, V_imul, m_mul_eq, V_iadd, m_add_eq, V_iinc3, G_10_27, A_319, T_a319, B_319, G_10_29, A_321, T_a321, B_321, V_iinc4, V_iloadn3, b_133_0, b_133_15, b_133_28, b_133_29, b_133_37, b_133_134, b_133_162, b_133_168, h103, ho, refu0])
  refine k_133 (B := up S 68 0 c 1) (C := C) (P := P) hC10 (by omega) h.1 (by simp (disch := omega) only [up_f]; exact hP) (by simp (disch := omega) only [up_f]; exact hC) (by rw [e69]; exact h69) (fun k hk => ?_) hex (fun S2 a1 a2 => ⟨rfl, S2, rfl, a1, a2⟩) P 0 0 0 _ _ (by omega) rfl rfl (fun f j hf => ?_) (fun _ _ _ _ => rfl)
  · by_cases hkc : k = c
    · subst hkc
      rw [up_s]; omega
    · rw [up_k hkc]; exact h67 k hk
  · show up (up (up S 2000 0 0 0) 68 0 c 1) 2034 0 0 0 f 0 j = up S 68 0 c 1 f 0 j
    rw [up_f (by omega)]
    simp only [up]
    split
    · rfl
    · rw [if_neg (by omega)]
end V
