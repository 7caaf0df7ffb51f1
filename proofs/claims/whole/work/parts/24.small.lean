/-! ===== arithmetic in range ===== -/
theorem m_add_eq {a b : Int} (h : -2147483648 ≤ a + b ∧ a + b < 2147483648) : m_add a b = a + b := by
  unfold m_add
  rw [← Int32.ofInt_add]
  exact m_i h
theorem m_sub_eq {a b : Int} (h : -2147483648 ≤ a - b ∧ a - b < 2147483648) : m_sub a b = a - b := by
  unfold m_sub
  rw [← Int32.ofInt_sub]
  exact m_i h
theorem m_mul_eq {a b : Int} (h : -2147483648 ≤ a * b ∧ a * b < 2147483648) : m_mul a b = a * b := by
  unfold m_mul
  rw [← Int32.ofInt_mul]
  exact m_i h
theorem up_f {S : Sg} {F I K f i k : Nat} {a : Int} (h : ¬ f = F) : up S F I K a f i k = S f i k := if_neg (fun z => h z.1)
theorem up_i {S : Sg} {F I K i k : Nat} {a : Int} (h : ¬ i = I) : up S F I K a F i k = S F i k := if_neg (fun z => h z.2.1)
theorem up_k {S : Sg} {F I K i k : Nat} {a : Int} (h : ¬ k = K) : up S F I K a F i k = S F i k := if_neg (fun z => h z.2.2)
theorem up_s {S : Sg} {F I K : Nat} {a : Int} : up S F I K a F I K = a := if_pos ⟨rfl, rfl, rfl⟩
theorem up_e {S : Sg} {F I K i k : Nat} {a : Int} (h : i = I) (h2 : k = K) : up S F I K a F i k = a := if_pos ⟨rfl, h, h2⟩
theorem bz {c : Prop} [Decidable c] : (if c then (1 : Int) else 0) = 0 ↔ ¬ c := by split <;> simp_all
/-! ===== short methods ===== -/
section V
variable {xs : Nat → Int32} {L : Nat} {S : Sg} {e : Nat}
theorem s_1 {a b c : Int} (ha : 0 ≤ a ∧ a < 10) (hb : 0 ≤ b ∧ b < 6) (hc : 0 ≤ c ∧ c < 3) (Q : MOut → MHp → Prop) : m_do xs L 1 [vI a, vI b, vI c] (mk S e) Q ↔ Q (.inl (some (vI ((a * 6 + b) * 3 + c)))) (mk (S) (e)) := by
  refine m_do_eq ?_ Q
  repeat' first
    | (simp (disch := omega) only [up_f, up_s, up_i, up_k, up_e, V_iconst, V_bipush, V_sipush, V_conti, V_contn, V_goto, Option.some.injEq, exists_eq_left', true_and, and_true, m_fit, Option.isSome_some, List.map_nil, List.map_cons, List.sum_nil, List.sum_cons, List.all_nil, List.all_cons, m_cat, decide_true, Bool.and_true, Bool.true_and, Nat.zero_le, Int.toNat_natCast, Int.reduceAdd, Int.reduceSub, Int.reduceMul, Int.reduceNeg, Int.reduceLE, Int.reduceLT, Nat.reduceAdd, Nat.reduceLeDiff, Int.reduceToNat, Int.reduceEq, decide_eq_true_eq, true_or, or_true, exists_and_left, and_self, Nat.reduceMul, Nat.reduceSub, Nat.reduceLT, m_oa, Nat.reduceEqDiff, or_false, false_or, Sum.inl.injEq, Sum.inr.injEq, ↓reduceIte, exists_eq_left, D_1, R_1, X_1, V_iloadn0, V_imul, m_mul_eq, V_iloadn1, V_iadd, m_add_eq, V_iloadn2, b_1_0])
theorem s_13 {i : Nat} (hi : i < 10) (hp : 0 ≤ S 1109 i 0 ∧ S 1109 i 0 ≤ 3) (Q : MOut → MHp → Prop) : m_do xs L 13 [vR (co i)] (mk S e) Q ↔ Q (.inl (some (vI (if 0 < S 1109 i 0 then S 22 i (S 1109 i 0 - 1).toNat else S 1101 i 0)))) (mk (S) (e)) := by
  refine m_do_eq ?_ Q
  repeat' first
    | (refine V_if_le.mpr ?_; first | rw [if_pos (by omega)] | rw [if_neg (by omega)] | split)
    | (simp (disch := omega) only [up_f, up_s, up_i, up_k, up_e, V_iconst, V_bipush, V_sipush, V_conti, V_contn, V_goto, Option.some.injEq, exists_eq_left', true_and, and_true, m_fit, Option.isSome_some, List.map_nil, List.map_cons, List.sum_nil, List.sum_cons, List.all_nil, List.all_cons, m_cat, decide_true, Bool.and_true, Bool.true_and, Nat.zero_le, Int.toNat_natCast, Int.reduceAdd, Int.reduceSub, Int.reduceMul, Int.reduceNeg, Int.reduceLE, Int.reduceLT, Nat.reduceAdd, Nat.reduceLeDiff, Int.reduceToNat, Int.reduceEq, decide_eq_true_eq, true_or, or_true, exists_and_left, and_self, Nat.reduceMul, Nat.reduceSub, Nat.reduceLT, m_oa, Nat.reduceEqDiff, or_false, false_or, Sum.inl.injEq, Sum.inr.injEq, ↓reduceIte, exists_eq_left, D_13, R_13, X_13, F_13_15, J_13_4, F_13_26, J_13_18, F_13_32, V_aloadn0, G_1_9, G_1_12, A_coA2, T_acoA2, B_coA2, V_isub, m_sub_eq, U_iaload, G_1_1, b_13_0, b_13_21, b_13_25])
  all_goals (try simp_all)
  all_goals (intros; omega)
theorem s_15 {i a b : Nat} (hi : i < 10) (ha : a < 10) (hb : b < 10) (Q : MOut → MHp → Prop) : m_do xs L 15 [vR (co i), vR (st a), vR (st b)] (mk S e) Q ↔ Q (.inl (some (vI (if m_and (m_shr (S 1106 i 0) (S 1600 b 0)) 1 = 1 ∧ (S 1601 a 0 = S 1601 b 0 ∨ ¬ S 1107 i 0 = 0) then 1 else 0)))) (mk (S) (e)) := by
  refine m_do_eq ?_ Q
  repeat' first
    | (refine V_icmp_eq.mpr ?_; first | rw [if_pos (by omega)] | rw [if_neg (by omega)] | split)
    | (refine V_icmp_ne.mpr ?_; first | rw [if_pos (by omega)] | rw [if_neg (by omega)] | split)
    | (refine V_if_eq.mpr ?_; first | rw [if_pos (by omega)] | rw [if_neg (by omega)] | split)
    | (simp (disch := omega) only [up_f, up_s, up_i, up_k, up_e, V_iconst, V_bipush, V_sipush, V_conti, V_contn, V_goto, Option.some.injEq, exists_eq_left', true_and, and_true, m_fit, Option.isSome_some, List.map_nil, List.map_cons, List.sum_nil, List.sum_cons, List.all_nil, List.all_cons, m_cat, decide_true, Bool.and_true, Bool.true_and, Nat.zero_le, Int.toNat_natCast, Int.reduceAdd, Int.reduceSub, Int.reduceMul, Int.reduceNeg, Int.reduceLE, Int.reduceLT, Nat.reduceAdd, Nat.reduceLeDiff, Int.reduceToNat, Int.reduceEq, decide_eq_true_eq, true_or, or_true, exists_and_left, and_self, Nat.reduceMul, Nat.reduceSub, Nat.reduceLT, m_oa, Nat.reduceEqDiff, or_false, false_or, Sum.inl.injEq, Sum.inr.injEq, ↓reduceIte, exists_eq_left, D_15, R_15, X_15, F_15_35, F_15_38, J_15_12, F_15_43, J_15_23, F_15_46, J_15_30, J_15_34, V_aloadn0, G_1_6, V_aloadn2, G_6_0, V_ishr, V_iand, V_aloadn1, G_6_1, G_1_7, b_15_0, b_15_33, b_15_37, b_15_38])
  all_goals (try simp_all)
  all_goals (intros; omega)
theorem s_16 {i j : Nat} (hi : i < 10) (hj : j < 10) (Q : MOut → MHp → Prop) : m_do xs L 16 [vR (co i), vR (co j)] (mk S e) Q ↔ Q (.inl (some (vI (if S 1108 i 0 = 0 ∧ S 1103 j 0 ≤ S 1103 i 0 ∧ 0 < S 1109 i 0 ∧ 0 < S 1109 j 0 ∧ S 20 i 0 = S 20 j 0 ∧ S 21 i 0 = S 21 j 0 then 1 else 0)))) (mk (S) (e)) := by
  refine m_do_eq ?_ Q
  repeat' first
    | (refine V_icmp_lt.mpr ?_; first | rw [if_pos (by omega)] | rw [if_neg (by omega)] | split)
    | (refine V_icmp_ne.mpr ?_; first | rw [if_pos (by omega)] | rw [if_neg (by omega)] | split)
    | (refine V_if_le.mpr ?_; first | rw [if_pos (by omega)] | rw [if_neg (by omega)] | split)
    | (refine V_if_ne.mpr ?_; first | rw [if_pos (by omega)] | rw [if_neg (by omega)] | split)
    | (simp (disch := omega) only [up_f, up_s, up_i, up_k, up_e, V_iconst, V_bipush, V_sipush, V_conti, V_contn, V_goto, Option.some.injEq, exists_eq_left', true_and, and_true, m_fit, Option.isSome_some, List.map_nil, List.map_cons, List.sum_nil, List.sum_cons, List.all_nil, List.all_cons, m_cat, decide_true, Bool.and_true, Bool.true_and, Nat.zero_le, Int.toNat_natCast, Int.reduceAdd, Int.reduceSub, Int.reduceMul, Int.reduceNeg, Int.reduceLE, Int.reduceLT, Nat.reduceAdd, Nat.reduceLeDiff, Int.reduceToNat, Int.reduceEq, decide_eq_true_eq, true_or, or_true, exists_and_left, and_self, Nat.reduceMul, Nat.reduceSub, Nat.reduceLT, m_oa, Nat.reduceEqDiff, or_false, false_or, Sum.inl.injEq, Sum.inr.injEq, ↓reduceIte, exists_eq_left, D_16, R_16, X_16, F_16_9, J_16_4, F_16_49, J_16_15, F_16_15, J_16_22, J_16_29, F_16_19, J_16_44, F_16_23, J_16_59, J_16_63, V_aloadn0, G_1_8, G_1_3, V_aloadn1, G_1_9, G_1_10, A_coA0, T_acoA0, B_coA0, U_iaload, G_1_11, A_coA1, T_acoA1, B_coA1, b_16_0, b_16_66, b_16_67])
  all_goals (try simp_all)
  all_goals (intros; omega)
theorem s_44 {n i : Nat} (hn : n < 3) (hi : i < 6) (hs : 0 ≤ S 1503 (6 * n + i) 0 ∧ S 1503 (6 * n + i) 0 < 6) (Q : MOut → MHp → Prop) : m_do xs L 44 [vR (ru n i)] (mk S e) Q ↔ Q (.inl (some (vI (if S 1700 i 0 ≤ S 1503 (6 * n + i) 0 + 1 then 1 else 0)))) (mk (S) (e)) := by
  refine m_do_eq ?_ Q
  repeat' first
    | (refine V_icmp_lt.mpr ?_; first | rw [if_pos (by omega)] | rw [if_neg (by omega)] | split)
    | (simp (disch := omega) only [up_f, up_s, up_i, up_k, up_e, V_iconst, V_bipush, V_sipush, V_conti, V_contn, V_goto, Option.some.injEq, exists_eq_left', true_and, and_true, m_fit, Option.isSome_some, List.map_nil, List.map_cons, List.sum_nil, List.sum_cons, List.all_nil, List.all_cons, m_cat, decide_true, Bool.and_true, Bool.true_and, Nat.zero_le, Int.toNat_natCast, Int.reduceAdd, Int.reduceSub, Int.reduceMul, Int.reduceNeg, Int.reduceLE, Int.reduceLT, Nat.reduceAdd, Nat.reduceLeDiff, Int.reduceToNat, Int.reduceEq, decide_eq_true_eq, true_or, or_true, exists_and_left, and_self, Nat.reduceMul, Nat.reduceSub, Nat.reduceLT, m_oa, Nat.reduceEqDiff, or_false, false_or, Sum.inl.injEq, Sum.inr.injEq, ↓reduceIte, exists_eq_left, D_44, R_44, X_44, F_44_42, F_44_32, F_44_71, J_44_13, J_44_17, V_aloadn0, G_5_3, V_iadd, m_add_eq, G_5_1, G_7_0, b_44_0, b_44_20, b_44_21])
  all_goals (try simp_all)
  all_goals (intros; omega)
theorem s_45 {n i : Nat} (hn : n < 3) (hi : i < 6) (hs : 0 ≤ S 1503 (6 * n + i) 0 ∧ S 1503 (6 * n + i) 0 < 6) (hd : 0 ≤ S 11 i (S 1503 (6 * n + i) 0).toNat ∧ S 11 i (S 1503 (6 * n + i) 0).toNat ≤ 100000) (hp : 0 ≤ S 1502 (6 * n + i) 0 ∧ S 1502 (6 * n + i) 0 ≤ 180) (Q : MOut → MHp → Prop) : m_do xs L 45 [vR (ru n i)] (mk S e) Q ↔ Q (.inl (some (vI (S 11 i (S 1503 (6 * n + i) 0).toNat + S 1502 (6 * n + i) 0)))) (mk (S) (e)) := by
  refine m_do_eq ?_ Q
  repeat' first
    | (simp (disch := omega) only [up_f, up_s, up_i, up_k, up_e, V_iconst, V_bipush, V_sipush, V_conti, V_contn, V_goto, Option.some.injEq, exists_eq_left', true_and, and_true, m_fit, Option.isSome_some, List.map_nil, List.map_cons, List.sum_nil, List.sum_cons, List.all_nil, List.all_cons, m_cat, decide_true, Bool.and_true, Bool.true_and, Nat.zero_le, Int.toNat_natCast, Int.reduceAdd, Int.reduceSub, Int.reduceMul, Int.reduceNeg, Int.reduceLE, Int.reduceLT, Nat.reduceAdd, Nat.reduceLeDiff, Int.reduceToNat, Int.reduceEq, decide_eq_true_eq, true_or, or_true, exists_and_left, and_self, Nat.reduceMul, Nat.reduceSub, Nat.reduceLT, m_oa, Nat.reduceEqDiff, or_false, false_or, Sum.inl.injEq, Sum.inr.injEq, ↓reduceIte, exists_eq_left, D_45, R_45, X_45, F_45_32, F_45_53, F_45_42, F_45_41, V_aloadn0, G_5_1, G_7_4, A_trA1, T_atrA1, B_trA1, G_5_3, U_iaload, G_5_2, V_iadd, m_add_eq, b_45_0])
theorem s_57 {n i : Nat} (hn : n < 3) (hi : i < 10) (Q : MOut → MHp → Prop) : m_do xs L 57 [vR (wg n i)] (mk S e) Q ↔ Q (.inl (some (vI (if S 1108 i 0 = 0 ∧ S 1803 (10 * n + i) 0 < S 1109 i 0 then 1 else 0)))) (mk (S) (e)) := by
  refine m_do_eq ?_ Q
  repeat' first
    | (refine V_icmp_ge.mpr ?_; first | rw [if_pos (by omega)] | rw [if_neg (by omega)] | split)
    | (refine V_if_ne.mpr ?_; first | rw [if_pos (by omega)] | rw [if_neg (by omega)] | split)
    | (simp (disch := omega) only [up_f, up_s, up_i, up_k, up_e, V_iconst, V_bipush, V_sipush, V_conti, V_contn, V_goto, Option.some.injEq, exists_eq_left', true_and, and_true, m_fit, Option.isSome_some, List.map_nil, List.map_cons, List.sum_nil, List.sum_cons, List.all_nil, List.all_cons, m_cat, decide_true, Bool.and_true, Bool.true_and, Nat.zero_le, Int.toNat_natCast, Int.reduceAdd, Int.reduceSub, Int.reduceMul, Int.reduceNeg, Int.reduceLE, Int.reduceLT, Nat.reduceAdd, Nat.reduceLeDiff, Int.reduceToNat, Int.reduceEq, decide_eq_true_eq, true_or, or_true, exists_and_left, and_self, Nat.reduceMul, Nat.reduceSub, Nat.reduceLT, m_oa, Nat.reduceEqDiff, or_false, false_or, Sum.inl.injEq, Sum.inr.injEq, ↓reduceIte, exists_eq_left, D_57, R_57, X_57, F_57_9, F_57_31, J_57_7, F_57_25, F_57_35, J_57_21, J_57_25, V_aloadn0, G_8_0, G_1_8, G_8_3, G_1_9, b_57_0, b_57_28, b_57_29])
  all_goals (try simp_all)
  all_goals (intros; omega)
theorem s_58 {n i : Nat} (hn : n < 3) (hi : i < 10) (Q : MOut → MHp → Prop) : m_do xs L 58 [vR (wg n i)] (mk S e) Q ↔ Q (.inl (some (vI (if 0 < S 1109 i 0 ∧ S 1109 i 0 ≤ S 1803 (10 * n + i) 0 then 1 else 0)))) (mk (S) (e)) := by
  refine m_do_eq ?_ Q
  repeat' first
    | (refine V_icmp_lt.mpr ?_; first | rw [if_pos (by omega)] | rw [if_neg (by omega)] | split)
    | (refine V_if_le.mpr ?_; first | rw [if_pos (by omega)] | rw [if_neg (by omega)] | split)
    | (simp (disch := omega) only [up_f, up_s, up_i, up_k, up_e, V_iconst, V_bipush, V_sipush, V_conti, V_contn, V_goto, Option.some.injEq, exists_eq_left', true_and, and_true, m_fit, Option.isSome_some, List.map_nil, List.map_cons, List.sum_nil, List.sum_cons, List.all_nil, List.all_cons, m_cat, decide_true, Bool.and_true, Bool.true_and, Nat.zero_le, Int.toNat_natCast, Int.reduceAdd, Int.reduceSub, Int.reduceMul, Int.reduceNeg, Int.reduceLE, Int.reduceLT, Nat.reduceAdd, Nat.reduceLeDiff, Int.reduceToNat, Int.reduceEq, decide_eq_true_eq, true_or, or_true, exists_and_left, and_self, Nat.reduceMul, Nat.reduceSub, Nat.reduceLT, m_oa, Nat.reduceEqDiff, or_false, false_or, Sum.inl.injEq, Sum.inr.injEq, ↓reduceIte, exists_eq_left, D_58, R_58, X_58, F_58_9, F_58_35, J_58_7, F_58_25, J_58_21, J_58_25, V_aloadn0, G_8_0, G_1_9, G_8_3, b_58_0, b_58_28, b_58_29])
  all_goals (try simp_all)
  all_goals (intros; omega)
theorem s_59 {n i : Nat} {a m : Int} (hn : n < 3) (hi : i < 10) (Q : MOut → MHp → Prop) : m_do xs L 59 [vR (wg n i), vI a, vI m] (mk S e) Q ↔ Q (.inl (some (vI (if S 1801 (10 * n + i) 0 = a ∧ S 1802 (10 * n + i) 0 ≤ m then 1 else 0)))) (mk (S) (e)) := by
  refine m_do_eq ?_ Q
  repeat' first
    | (refine V_icmp_gt.mpr ?_; first | rw [if_pos (by omega)] | rw [if_neg (by omega)] | split)
    | (refine V_icmp_ne.mpr ?_; first | rw [if_pos (by omega)] | rw [if_neg (by omega)] | split)
    | (simp (disch := omega) only [up_f, up_s, up_i, up_k, up_e, V_iconst, V_bipush, V_sipush, V_conti, V_contn, V_goto, Option.some.injEq, exists_eq_left', true_and, and_true, m_fit, Option.isSome_some, List.map_nil, List.map_cons, List.sum_nil, List.sum_cons, List.all_nil, List.all_cons, m_cat, decide_true, Bool.and_true, Bool.true_and, Nat.zero_le, Int.toNat_natCast, Int.reduceAdd, Int.reduceSub, Int.reduceMul, Int.reduceNeg, Int.reduceLE, Int.reduceLT, Nat.reduceAdd, Nat.reduceLeDiff, Int.reduceToNat, Int.reduceEq, decide_eq_true_eq, true_or, or_true, exists_and_left, and_self, Nat.reduceMul, Nat.reduceSub, Nat.reduceLT, m_oa, Nat.reduceEqDiff, or_false, false_or, Sum.inl.injEq, Sum.inr.injEq, ↓reduceIte, exists_eq_left, D_59, R_59, X_59, F_59_21, J_59_5, F_59_22, J_59_13, J_59_17, V_aloadn0, G_8_1, V_iloadn1, G_8_2, V_iloadn2, b_59_0, b_59_20, b_59_21])
  all_goals (try simp_all)
  all_goals (intros; omega)
theorem s_61 {n i : Nat} {a m : Int} (hn : n < 3) (hi : i < 10) (hm : 0 ≤ m ∧ m < 2000) (Q : MOut → MHp → Prop) : m_do xs L 61 [vR (wg n i), vI a, vI m] (mk S e) Q ↔ Q (.inl none) (mk (up (up S 1801 (10 * n + i) 0 a) 1802 (10 * n + i) 0 (m + 10)) (e)) := by
  refine m_do_eq ?_ Q
  repeat' first
    | (simp (disch := omega) only [up_f, up_s, up_i, up_k, up_e, V_iconst, V_bipush, V_sipush, V_conti, V_contn, V_goto, Option.some.injEq, exists_eq_left', true_and, and_true, m_fit, Option.isSome_some, List.map_nil, List.map_cons, List.sum_nil, List.sum_cons, List.all_nil, List.all_cons, m_cat, decide_true, Bool.and_true, Bool.true_and, Nat.zero_le, Int.toNat_natCast, Int.reduceAdd, Int.reduceSub, Int.reduceMul, Int.reduceNeg, Int.reduceLE, Int.reduceLT, Nat.reduceAdd, Nat.reduceLeDiff, Int.reduceToNat, Int.reduceEq, decide_eq_true_eq, true_or, or_true, exists_and_left, and_self, Nat.reduceMul, Nat.reduceSub, Nat.reduceLT, m_oa, Nat.reduceEqDiff, or_false, false_or, Sum.inl.injEq, Sum.inr.injEq, ↓reduceIte, exists_eq_left, D_61, R_61, X_61, W_61_21, W_61_22, V_aloadn0, V_iloadn1, G_8_1, P_8_1, V_iloadn2, V_iadd, m_add_eq, G_8_2, P_8_2, b_61_0])
theorem s_62 {n i : Nat} (hn : n < 3) (hi : i < 10) (Q : MOut → MHp → Prop) : m_do xs L 62 [vR (wg n i)] (mk S e) Q ↔ Q (.inl none) (mk (up (up S 1801 (10 * n + i) 0 (-1)) 1802 (10 * n + i) 0 (-1)) (e)) := by
  refine m_do_eq ?_ Q
  repeat' first
    | (simp (disch := omega) only [up_f, up_s, up_i, up_k, up_e, V_iconst, V_bipush, V_sipush, V_conti, V_contn, V_goto, Option.some.injEq, exists_eq_left', true_and, and_true, m_fit, Option.isSome_some, List.map_nil, List.map_cons, List.sum_nil, List.sum_cons, List.all_nil, List.all_cons, m_cat, decide_true, Bool.and_true, Bool.true_and, Nat.zero_le, Int.toNat_natCast, Int.reduceAdd, Int.reduceSub, Int.reduceMul, Int.reduceNeg, Int.reduceLE, Int.reduceLT, Nat.reduceAdd, Nat.reduceLeDiff, Int.reduceToNat, Int.reduceEq, decide_eq_true_eq, true_or, or_true, exists_and_left, and_self, Nat.reduceMul, Nat.reduceSub, Nat.reduceLT, m_oa, Nat.reduceEqDiff, or_false, false_or, Sum.inl.injEq, Sum.inr.injEq, ↓reduceIte, exists_eq_left, D_62, R_62, X_62, W_62_21, W_62_22, V_aloadn0, G_8_1, P_8_1, G_8_2, P_8_2, b_62_0])
theorem s_56 {n i : Nat} (hn : n < 3) (hi : i < 10) (Q : MOut → MHp → Prop) : m_do xs L 56 [vR (wg n i)] (mk S e) Q ↔ Q (.inl none) (mk (up (up (up (up S 1801 (10 * n + i) 0 (S 1101 i 0)) 1802 (10 * n + i) 0 0) 1803 (10 * n + i) 0 0) 1804 (10 * n + i) 0 0) (e)) := by
  refine m_do_eq ?_ Q
  repeat' first
    | (simp (disch := omega) only [up_f, up_s, up_i, up_k, up_e, V_iconst, V_bipush, V_sipush, V_conti, V_contn, V_goto, Option.some.injEq, exists_eq_left', true_and, and_true, m_fit, Option.isSome_some, List.map_nil, List.map_cons, List.sum_nil, List.sum_cons, List.all_nil, List.all_cons, m_cat, decide_true, Bool.and_true, Bool.true_and, Nat.zero_le, Int.toNat_natCast, Int.reduceAdd, Int.reduceSub, Int.reduceMul, Int.reduceNeg, Int.reduceLE, Int.reduceLT, Nat.reduceAdd, Nat.reduceLeDiff, Int.reduceToNat, Int.reduceEq, decide_eq_true_eq, true_or, or_true, exists_and_left, and_self, Nat.reduceMul, Nat.reduceSub, Nat.reduceLT, m_oa, Nat.reduceEqDiff, or_false, false_or, Sum.inl.injEq, Sum.inr.injEq, ↓reduceIte, exists_eq_left, D_56, R_56, X_56, F_56_9, F_56_15, W_56_21, W_56_22, W_56_25, W_56_28, V_aloadn0, G_8_0, G_1_1, G_8_1, P_8_1, G_8_2, P_8_2, G_8_3, P_8_3, G_8_4, P_8_4, b_56_0])
theorem s_25 {a b c : Int} (Q : MOut → MHp → Prop) : m_do xs L 25 [vI a, vI b, vI c] (mk S e) Q ↔ Q (.inl (some (vI (if c < b ∧ b < a then b else a)))) (mk (S) (e)) := by
  refine m_do_eq ?_ Q
  repeat' first
    | (refine V_icmp_ge.mpr ?_; first | rw [if_pos (by omega)] | rw [if_neg (by omega)] | split)
    | (refine V_icmp_le.mpr ?_; first | rw [if_pos (by omega)] | rw [if_neg (by omega)] | split)
    | (simp (disch := omega) only [up_f, up_s, up_i, up_k, up_e, V_iconst, V_bipush, V_sipush, V_conti, V_contn, V_goto, Option.some.injEq, exists_eq_left', true_and, and_true, m_fit, Option.isSome_some, List.map_nil, List.map_cons, List.sum_nil, List.sum_cons, List.all_nil, List.all_cons, m_cat, decide_true, Bool.and_true, Bool.true_and, Nat.zero_le, Int.toNat_natCast, Int.reduceAdd, Int.reduceSub, Int.reduceMul, Int.reduceNeg, Int.reduceLE, Int.reduceLT, Nat.reduceAdd, Nat.reduceLeDiff, Int.reduceToNat, Int.reduceEq, decide_eq_true_eq, true_or, or_true, exists_and_left, and_self, Nat.reduceMul, Nat.reduceSub, Nat.reduceLT, m_oa, Nat.reduceEqDiff, or_false, false_or, Sum.inl.injEq, Sum.inr.injEq, ↓reduceIte, exists_eq_left, D_25, R_25, X_25, J_25_2, J_25_7, J_25_11, V_iloadn1, V_iloadn2, V_iloadn0, b_25_0, b_25_14, b_25_15])
  all_goals (try simp_all)
  all_goals (intros; omega)
theorem s_97  (Q : MOut → MHp → Prop) : m_do xs L 97 [vR 296] (mk S e) Q ↔ Q (.inl (some (vI (S 2000 0 0)))) (mk (S) (e)) := by
  refine m_do_eq ?_ Q
  repeat' first
    | (simp (disch := omega) only [up_f, up_s, up_i, up_k, up_e, V_iconst, V_bipush, V_sipush, V_conti, V_contn, V_goto, Option.some.injEq, exists_eq_left', true_and, and_true, m_fit, Option.isSome_some, List.map_nil, List.map_cons, List.sum_nil, List.sum_cons, List.all_nil, List.all_cons, m_cat, decide_true, Bool.and_true, Bool.true_and, Nat.zero_le, Int.toNat_natCast, Int.reduceAdd, Int.reduceSub, Int.reduceMul, Int.reduceNeg, Int.reduceLE, Int.reduceLT, Nat.reduceAdd, Nat.reduceLeDiff, Int.reduceToNat, Int.reduceEq, decide_eq_true_eq, true_or, or_true, exists_and_left, and_self, Nat.reduceMul, Nat.reduceSub, Nat.reduceLT, m_oa, Nat.reduceEqDiff, or_false, false_or, Sum.inl.injEq, Sum.inr.injEq, ↓reduceIte, exists_eq_left, D_97, R_97, X_97, F_97_143, V_aloadn0, G_10_0, b_97_0])
theorem s_98 {a b c : Int} (Q : MOut → MHp → Prop) : m_do xs L 98 [vI a, vI b, vI c] (mk S e) Q ↔ Q (.inl (some (vI (if b ≤ a ∧ a ≤ c then 1 else 0)))) (mk (S) (e)) := by
  refine m_do_eq ?_ Q
  repeat' first
    | (refine V_icmp_gt.mpr ?_; first | rw [if_pos (by omega)] | rw [if_neg (by omega)] | split)
    | (refine V_icmp_lt.mpr ?_; first | rw [if_pos (by omega)] | rw [if_neg (by omega)] | split)
    | (simp (disch := omega) only [up_f, up_s, up_i, up_k, up_e, V_iconst, V_bipush, V_sipush, V_conti, V_contn, V_goto, Option.some.injEq, exists_eq_left', true_and, and_true, m_fit, Option.isSome_some, List.map_nil, List.map_cons, List.sum_nil, List.sum_cons, List.all_nil, List.all_cons, m_cat, decide_true, Bool.and_true, Bool.true_and, Nat.zero_le, Int.toNat_natCast, Int.reduceAdd, Int.reduceSub, Int.reduceMul, Int.reduceNeg, Int.reduceLE, Int.reduceLT, Nat.reduceAdd, Nat.reduceLeDiff, Int.reduceToNat, Int.reduceEq, decide_eq_true_eq, true_or, or_true, exists_and_left, and_self, Nat.reduceMul, Nat.reduceSub, Nat.reduceLT, m_oa, Nat.reduceEqDiff, or_false, false_or, Sum.inl.injEq, Sum.inr.injEq, ↓reduceIte, exists_eq_left, D_98, R_98, X_98, J_98_2, J_98_7, J_98_11, V_iloadn0, V_iloadn1, V_iloadn2, b_98_0, b_98_14, b_98_15])
  all_goals (try simp_all)
  all_goals (intros; omega)
theorem s_99 {a : Int} (Q : MOut → MHp → Prop) : m_do xs L 99 [vR 296, vI a] (mk S e) Q ↔ Q (.inl (some (vI (if ¬ a = 0 then 1 else 0)))) (mk (up S 2000 0 0 a) (e)) := by
  refine m_do_eq ?_ Q
  repeat' first
    | (refine V_if_eq.mpr ?_; first | rw [if_pos (by omega)] | rw [if_neg (by omega)] | split)
    | (simp (disch := omega) only [up_f, up_s, up_i, up_k, up_e, V_iconst, V_bipush, V_sipush, V_conti, V_contn, V_goto, Option.some.injEq, exists_eq_left', true_and, and_true, m_fit, Option.isSome_some, List.map_nil, List.map_cons, List.sum_nil, List.sum_cons, List.all_nil, List.all_cons, m_cat, decide_true, Bool.and_true, Bool.true_and, Nat.zero_le, Int.toNat_natCast, Int.reduceAdd, Int.reduceSub, Int.reduceMul, Int.reduceNeg, Int.reduceLE, Int.reduceLT, Nat.reduceAdd, Nat.reduceLeDiff, Int.reduceToNat, Int.reduceEq, decide_eq_true_eq, true_or, or_true, exists_and_left, and_self, Nat.reduceMul, Nat.reduceSub, Nat.reduceLT, m_oa, Nat.reduceEqDiff, or_false, false_or, Sum.inl.injEq, Sum.inr.injEq, ↓reduceIte, exists_eq_left, D_99, R_99, X_99, W_99_143, J_99_6, J_99_10, V_aloadn0, V_iloadn1, G_10_0, P_10_0, b_99_0, b_99_13, b_99_14])
  all_goals (try simp_all)
  all_goals (intros; omega)
theorem s_118 {i : Nat} (hi : i < 10) (Q : MOut → MHp → Prop) : m_do xs L 118 [vR 296, vI i] (mk S e) Q ↔ Q (.inl (some (vI (if S 68 0 i = 0 ∧ S 90 0 i < S 69 0 i then 1 else 0)))) (mk (S) (e)) := by
  refine m_do_eq ?_ Q
  repeat' first
    | (refine V_icmp_ge.mpr ?_; first | rw [if_pos (by omega)] | rw [if_neg (by omega)] | split)
    | (refine V_if_ne.mpr ?_; first | rw [if_pos (by omega)] | rw [if_neg (by omega)] | split)
    | (simp (disch := omega) only [up_f, up_s, up_i, up_k, up_e, V_iconst, V_bipush, V_sipush, V_conti, V_contn, V_goto, Option.some.injEq, exists_eq_left', true_and, and_true, m_fit, Option.isSome_some, List.map_nil, List.map_cons, List.sum_nil, List.sum_cons, List.all_nil, List.all_cons, m_cat, decide_true, Bool.and_true, Bool.true_and, Nat.zero_le, Int.toNat_natCast, Int.reduceAdd, Int.reduceSub, Int.reduceMul, Int.reduceNeg, Int.reduceLE, Int.reduceLT, Nat.reduceAdd, Nat.reduceLeDiff, Int.reduceToNat, Int.reduceEq, decide_eq_true_eq, true_or, or_true, exists_and_left, and_self, Nat.reduceMul, Nat.reduceSub, Nat.reduceLT, m_oa, Nat.reduceEqDiff, or_false, false_or, Sum.inl.injEq, Sum.inr.injEq, ↓reduceIte, exists_eq_left, D_118, R_118, X_118, F_118_65, J_118_6, F_118_131, F_118_68, J_118_21, J_118_25, V_aloadn0, G_10_22, A_315, T_a315, B_315, V_iloadn1, U_baload, G_10_46, A_337, T_a337, B_337, U_iaload, G_10_23, A_316, T_a316, B_316, b_118_0, b_118_28, b_118_29])
  all_goals (try simp_all)
  all_goals (intros; omega)
theorem s_119 {i : Nat} {a m : Int} (hi : i < 10) (Q : MOut → MHp → Prop) : m_do xs L 119 [vR 296, vI i, vI a, vI m] (mk S e) Q ↔ Q (.inl (some (vI (if S 88 0 i = a ∧ S 89 0 i ≤ m then 1 else 0)))) (mk (S) (e)) := by
  refine m_do_eq ?_ Q
  repeat' first
    | (refine V_icmp_gt.mpr ?_; first | rw [if_pos (by omega)] | rw [if_neg (by omega)] | split)
    | (refine V_icmp_ne.mpr ?_; first | rw [if_pos (by omega)] | rw [if_neg (by omega)] | split)
    | (simp (disch := omega) only [up_f, up_s, up_i, up_k, up_e, V_iconst, V_bipush, V_sipush, V_conti, V_contn, V_goto, Option.some.injEq, exists_eq_left', true_and, and_true, m_fit, Option.isSome_some, List.map_nil, List.map_cons, List.sum_nil, List.sum_cons, List.all_nil, List.all_cons, m_cat, decide_true, Bool.and_true, Bool.true_and, Nat.zero_le, Int.toNat_natCast, Int.reduceAdd, Int.reduceSub, Int.reduceMul, Int.reduceNeg, Int.reduceLE, Int.reduceLT, Nat.reduceAdd, Nat.reduceLeDiff, Int.reduceToNat, Int.reduceEq, decide_eq_true_eq, true_or, or_true, exists_and_left, and_self, Nat.reduceMul, Nat.reduceSub, Nat.reduceLT, m_oa, Nat.reduceEqDiff, or_false, false_or, Sum.inl.injEq, Sum.inr.injEq, ↓reduceIte, exists_eq_left, D_119, R_119, X_119, F_119_125, J_119_7, F_119_128, J_119_17, J_119_21, V_aloadn0, G_10_44, A_335, T_a335, B_335, V_iloadn1, U_iaload, V_iloadn2, G_10_45, A_336, T_a336, B_336, V_iloadn3, b_119_0, b_119_24, b_119_25])
  all_goals (try simp_all)
  all_goals (intros; omega)
theorem s_121 {i a b : Nat} (hi : i < 10) (ha : a < 10) (hb : b < 10) (Q : MOut → MHp → Prop) : m_do xs L 121 [vR 296, vI i, vI a, vI b] (mk S e) Q ↔ Q (.inl (some (vI (if m_and (m_shr (S 66 0 i) (S 50 0 b)) 1 = 1 ∧ (S 51 0 a = S 51 0 b ∨ ¬ S 67 0 i = 0) then 1 else 0)))) (mk (S) (e)) := by
  refine m_do_eq ?_ Q
  repeat' first
    | (refine V_icmp_eq.mpr ?_; first | rw [if_pos (by omega)] | rw [if_neg (by omega)] | split)
    | (refine V_icmp_ne.mpr ?_; first | rw [if_pos (by omega)] | rw [if_neg (by omega)] | split)
    | (refine V_if_eq.mpr ?_; first | rw [if_pos (by omega)] | rw [if_neg (by omega)] | split)
    | (simp (disch := omega) only [up_f, up_s, up_i, up_k, up_e, V_iconst, V_bipush, V_sipush, V_conti, V_contn, V_goto, Option.some.injEq, exists_eq_left', true_and, and_true, m_fit, Option.isSome_some, List.map_nil, List.map_cons, List.sum_nil, List.sum_cons, List.all_nil, List.all_cons, m_cat, decide_true, Bool.and_true, Bool.true_and, Nat.zero_le, Int.toNat_natCast, Int.reduceAdd, Int.reduceSub, Int.reduceMul, Int.reduceNeg, Int.reduceLE, Int.reduceLT, Nat.reduceAdd, Nat.reduceLeDiff, Int.reduceToNat, Int.reduceEq, decide_eq_true_eq, true_or, or_true, exists_and_left, and_self, Nat.reduceMul, Nat.reduceSub, Nat.reduceLT, m_oa, Nat.reduceEqDiff, or_false, false_or, Sum.inl.injEq, Sum.inr.injEq, ↓reduceIte, exists_eq_left, D_121, R_121, X_121, F_121_58, F_121_7, J_121_16, J_121_20, J_121_28, F_121_13, J_121_43, F_121_61, J_121_52, J_121_56, V_aloadn0, G_10_20, A_313, T_a313, B_313, V_iloadn1, U_iaload, G_10_2, A_297, T_a297, B_297, V_iloadn3, V_ishr, V_iand, V_istore4, V_iload4, G_10_3, A_298, T_a298, B_298, V_iloadn2, G_10_21, A_314, T_a314, B_314, U_baload, b_121_0, b_121_23, b_121_24, b_121_55, b_121_59, b_121_60])
  all_goals (try simp_all)
  all_goals (intros; omega)
theorem s_144 {i : Nat} (hi : i < 10) (Q : MOut → MHp → Prop) : m_do xs L 144 [vR 296, vI i] (mk S e) Q ↔ Q (.inl (some (vI (if S 68 0 i = 0 ∧ 0 < S 69 0 i ∧ S 90 0 i = S 69 0 i then 1 else 0)))) (mk (S) (e)) := by
  refine m_do_eq ?_ Q
  repeat' first
    | (refine V_icmp_ne.mpr ?_; first | rw [if_pos (by omega)] | rw [if_neg (by omega)] | split)
    | (refine V_if_le.mpr ?_; first | rw [if_pos (by omega)] | rw [if_neg (by omega)] | split)
    | (refine V_if_ne.mpr ?_; first | rw [if_pos (by omega)] | rw [if_neg (by omega)] | split)
    | (simp (disch := omega) only [up_f, up_s, up_i, up_k, up_e, V_iconst, V_bipush, V_sipush, V_conti, V_contn, V_goto, Option.some.injEq, exists_eq_left', true_and, and_true, m_fit, Option.isSome_some, List.map_nil, List.map_cons, List.sum_nil, List.sum_cons, List.all_nil, List.all_cons, m_cat, decide_true, Bool.and_true, Bool.true_and, Nat.zero_le, Int.toNat_natCast, Int.reduceAdd, Int.reduceSub, Int.reduceMul, Int.reduceNeg, Int.reduceLE, Int.reduceLT, Nat.reduceAdd, Nat.reduceLeDiff, Int.reduceToNat, Int.reduceEq, decide_eq_true_eq, true_or, or_true, exists_and_left, and_self, Nat.reduceMul, Nat.reduceSub, Nat.reduceLT, m_oa, Nat.reduceEqDiff, or_false, false_or, Sum.inl.injEq, Sum.inr.injEq, ↓reduceIte, exists_eq_left, D_144, R_144, X_144, F_144_65, J_144_6, F_144_68, J_144_15, F_144_131, J_144_30, J_144_34, V_aloadn0, G_10_22, A_315, T_a315, B_315, V_iloadn1, U_baload, G_10_23, A_316, T_a316, B_316, U_iaload, G_10_46, A_337, T_a337, B_337, b_144_0, b_144_37, b_144_38])
  all_goals (try simp_all)
  all_goals (intros; omega)
end V
