/-! ===== arithmetic in range ===== -/
theorem m_add_eq {a b : Int} (h : -2147483648 ≤ a + b ∧ a + b < 2147483648) : m_add a b = a + b := by
  unfold m_add
  rw [← Int32.ofInt_add]
  exact m_i h
theorem m_sub_eq {a b : Int} (h : -2147483648 ≤ a - b ∧ a - b < 2147483648) : m_sub a b = a - b := by
  unfold m_sub
  rw [← Int32.ofInt_sub]
  exact m_i h
theorem m_mul_eq {a b : Int} (h : -2147483648 ≤ a * b ∧ a * b < 2147483648) : m_mul a b = a * b := by
  unfold m_mul
  rw [← Int32.ofInt_mul]
  exact m_i h
section V
variable {xs : Nat → Int32} {L : Nat} {S : Sg} {e : Nat}
theorem s_15 {i a b : Nat} (hi : i < 10) (ha : a < 10) (hb : b < 10) (Q : MOut → MHp → Prop) : m_do xs L 15 [vR (co i), vR (st a), vR (st b)] (mk S e) Q ↔ Q (.inl (some (vI (if m_and (m_shr (S 1106 i 0) (S 1600 b 0)) 1 = 1 ∧ (S 1601 a 0 = S 1601 b 0 ∨ ¬ S 1107 i 0 = 0) then 1 else 0)))) (mk S e) := by
  refine m_do_eq ?_ Q
  repeat' first
    | (refine V_icmp_eq.mpr ?_; split)
    | (refine V_icmp_ne.mpr ?_; split)
    | (refine V_if_eq.mpr ?_; split)
    | (simp (disch := omega) only [V_iconst, V_bipush, V_sipush, V_conti, V_contn, V_goto, Option.some.injEq, exists_eq_left', true_and, and_true, m_fit, Option.isSome_some, List.map_nil, List.map_cons, List.sum_nil, List.sum_cons, List.all_nil, List.all_cons, m_cat, decide_true, Bool.and_true, Bool.true_and, Nat.zero_le, Int.toNat_natCast, Int.reduceAdd, Int.reduceSub, Int.reduceMul, Int.reduceNeg, Int.reduceLE, Int.reduceLT, Nat.reduceAdd, Nat.reduceLeDiff, Int.reduceToNat, Int.reduceEq, decide_eq_true_eq, true_or, or_true, exists_and_left, and_self, Nat.reduceMul, Nat.reduceSub, Nat.reduceLT, m_oa, Nat.reduceEqDiff, or_false, false_or, Sum.inl.injEq, exists_eq_left, D_15, R_15, X_15, F_15_35, F_15_38, J_15_12, F_15_43, J_15_23, F_15_46, J_15_30, J_15_34, V_aloadn0, G_1_6, V_aloadn2, G_6_0, V_ishr, V_iand, V_aloadn1, G_6_1, G_1_7, b_15_0, b_15_33, b_15_37, b_15_38])
  all_goals simp_all
end V
