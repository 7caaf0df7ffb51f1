/-! ===== how many are home ===== -/
def homesC (S : Sg) (n : Nat) : Nat → Int
  | 0 => 0
  | k + 1 => homesC S n k + (if 0 < S 1109 k 0 ∧ S 1109 k 0 ≤ S 1803 (10 * n + k) 0 then 1 else 0)
theorem homesC_ran {S : Sg} {n : Nat} : ∀ k, 0 ≤ homesC S n k ∧ homesC S n k ≤ k
  | 0 => by simp [homesC]
  | k + 1 => by
    have h1 := homesC_ran (S := S) (n := n) k
    simp only [homesC]
    split <;> omega
section V
variable {xs : Nat → Int32} {L : Nat} {S : Sg} {e : Nat}
theorem l_21 {n c k : Nat} {kk : Int} {Q : MOut → MHp → Prop} (hn : n < 3) (hc : S 1405 0 0 = c) (hc10 : c ≤ 10) (hk : k < c) (hkk : kk = k)
    (K : m_ok xs L 21 b_21_4 [vR (nt n), vI (homesC S n (k + 1)), vI (kk + 1)] [] (mk S e) Q) : m_ok xs L 21 b_21_4 [vR (nt n), vI (homesC S n k), vI kk] [] (mk S e) Q := by
  subst hkk
  have h1 := homesC_ran (S := S) (n := n) k
  unfold b_21_4
  repeat' first
    | (refine V_icmp_ge.mpr ?_; first | rw [if_pos (by omega)] | rw [if_neg (by omega)] | split)
    | (refine V_if_eq.mpr ?_; first | rw [if_pos (by omega)] | rw [if_neg (by omega)] | split)
    | (simp (disch := (first | omega | (simp (disch := omega) only [up_f, up_s, up_i, up_k, up_e]; omega))) only [up_f, up_s, up_i, up_k, up_e, V_iconst, V_bipush, V_sipush, V_conti, V_contn, V_goto, Option.some.injEq, exists_eq_left', true_and, and_true, m_fit, Option.isSome_some, List.map_nil, List.map_cons, List.sum_nil, List.sum_cons, List.all_nil, List.all_cons, m_cat, decide_true, Bool.and_true, Bool.true_and, Nat.zero_le, Int.toNat_natCast, Int.reduceAdd, Int.reduceSub, Int.reduceMul, Int.reduceNeg, Int.reduceLE, Int.reduceLT, Nat.reduceAdd, Nat.reduceLeDiff, Int.reduceToNat, Int.reduceEq, decide_eq_true_eq, true_or, or_true, exists_and_left, and_self, Nat.reduceMul, Nat.reduceSub, Nat.reduceLT, m_oa, Nat.reduceEqDiff, or_false, false_or, Sum.inl.injEq, Sum.inr.injEq, ↓reduceIte, exists_eq_left, D_21, R_21, X_21, F_21_31, F_21_72, J_21_12, F_21_19, I_21_75, J_21_24, J_21_33, V_istoren1, V_istoren2, V_iloadn2, V_aloadn0, G_2_0, G_4_5, G_2_2, A_ntW, T_antW, U_aaload, T_8, V_iinc1, m_add_eq, V_iinc2, V_iloadn1, b_21_0, b_21_30, b_21_36, hc, s_58, bz])
  all_goals first | (rw [homesC, if_pos (by omega)] at K; exact K) | (rw [homesC, if_neg (by omega), Int.add_zero] at K; exact K)
theorem k_21 {n c : Nat} {Q : MOut → MHp → Prop} (hn : n < 3) (hc : S 1405 0 0 = c) (hc10 : c ≤ 10) (K : Q (.inl (some (vI (homesC S n c)))) (mk S e)) : ∀ z k : Nat, ∀ kk : Int, k + z = c → kk = k → m_ok xs L 21 b_21_4 [vR (nt n), vI (homesC S n k), vI kk] [] (mk S e) Q
  | 0, k, kk, hz, hkk => by
    have hk : k = c := by omega
    subst hk
    subst hkk
    unfold b_21_4
    repeat' first
      | (refine V_icmp_ge.mpr ?_; first | rw [if_pos (by omega)] | rw [if_neg (by omega)] | split)
      | (refine V_if_eq.mpr ?_; first | rw [if_pos (by omega)] | rw [if_neg (by omega)] | split)
      | (simp (disch := (first | omega | (simp (disch := omega) only [up_f, up_s, up_i, up_k, up_e]; omega))) only [up_f, up_s, up_i, up_k, up_e, V_iconst, V_bipush, V_sipush, V_conti, V_contn, V_goto, Option.some.injEq, exists_eq_left', true_and, and_true, m_fit, Option.isSome_some, List.map_nil, List.map_cons, List.sum_nil, List.sum_cons, List.all_nil, List.all_cons, m_cat, decide_true, Bool.and_true, Bool.true_and, Nat.zero_le, Int.toNat_natCast, Int.reduceAdd, Int.reduceSub, Int.reduceMul, Int.reduceNeg, Int.reduceLE, Int.reduceLT, Nat.reduceAdd, Nat.reduceLeDiff, Int.reduceToNat, Int.reduceEq, decide_eq_true_eq, true_or, or_true, exists_and_left, and_self, Nat.reduceMul, Nat.reduceSub, Nat.reduceLT, m_oa, Nat.reduceEqDiff, or_false, false_or, Sum.inl.injEq, Sum.inr.injEq, ↓reduceIte, exists_eq_left, D_21, R_21, X_21, F_21_31, F_21_72, J_21_12, F_21_19, I_21_75, J_21_24, J_21_33, V_istoren1, V_istoren2, V_iloadn2, V_aloadn0, G_2_0, G_4_5, G_2_2, A_ntW, T_antW, U_aaload, T_8, V_iinc1, m_add_eq, V_iinc2, V_iloadn1, b_21_0, b_21_30, b_21_36, hc])
    all_goals (first | exact K | omega)
  | z + 1, k, kk, hz, hkk => l_21 hn hc hc10 (by omega) hkk (k_21 hn hc hc10 K z (k + 1) (kk + 1) (by omega) (by omega))
theorem s_21 {n c : Nat} (hn : n < 3) (hc : S 1405 0 0 = c) (hc10 : c ≤ 10) (Q : MOut → MHp → Prop) : m_do xs L 21 [vR (nt n)] (mk S e) Q ↔ Q (.inl (some (vI (homesC S n c)))) (mk S e) := by
  refine m_do_eq ?_ Q
  repeat' first
    | (refine V_icmp_ge.mpr ?_; first | rw [if_pos (by omega)] | rw [if_neg (by omega)] | split)
    | (refine V_if_eq.mpr ?_; first | rw [if_pos (by omega)] | rw [if_neg (by omega)] | split)
    | (simp (disch := (first | omega | (simp (disch := omega) only [up_f, up_s, up_i, up_k, up_e]; omega))) only [up_f, up_s, up_i, up_k, up_e, V_iconst, V_bipush, V_sipush, V_conti, V_contn, V_goto, Option.some.injEq, exists_eq_left', true_and, and_true, m_fit, Option.isSome_some, List.map_nil, List.map_cons, List.sum_nil, List.sum_cons, List.all_nil, List.all_cons, m_cat, decide_true, Bool.and_true, Bool.true_and, Nat.zero_le, Int.toNat_natCast, Int.reduceAdd, Int.reduceSub, Int.reduceMul, Int.reduceNeg, Int.reduceLE, Int.reduceLT, Nat.reduceAdd, Nat.reduceLeDiff, Int.reduceToNat, Int.reduceEq, decide_eq_true_eq, true_or, or_true, exists_and_left, and_self, Nat.reduceMul, Nat.reduceSub, Nat.reduceLT, m_oa, Nat.reduceEqDiff, or_false, false_or, Sum.inl.injEq, Sum.inr.injEq, ↓reduceIte, exists_eq_left, D_21, R_21, X_21, F_21_31, F_21_72, J_21_12, F_21_19, I_21_75, J_21_24, J_21_33, V_istoren1, V_istoren2, V_iloadn2, V_aloadn0, G_2_0, G_4_5, G_2_2, A_ntW, T_antW, U_aaload, T_8, V_iinc1, m_add_eq, V_iinc2, V_iloadn1, b_21_0, b_21_30, b_21_36, hc])
  exact k_21 hn hc hc10 ⟨rfl, rfl⟩ c 0 0 (by omega) rfl
end V
