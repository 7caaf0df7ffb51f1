/-! ===== a coach that a train waits for ===== -/
def misP (S : Sg) (n j d : Nat) (t w m : Int) (k : Nat) : Prop := S 20 j k = t ∧ S 21 j k = w ∧ (¬ k = d ∨ ¬ (S 1801 (10 * n + j) 0 = w ∧ S 1802 (10 * n + j) 0 ≤ m))
section V
variable {xs : Nat → Int32} {L : Nat} {S : Sg} {e : Nat}
theorem l_60 {n j d p k : Nat} {t w m kk : Int} {Q : MOut → MHp → Prop} (hn : n < 3) (hj : j < 10) (hp : p ≤ 3) (hd : S 1803 (10 * n + j) 0 = d) (hq : S 1109 j 0 = p) (hk : k < p) (hkk : kk = k) (K1 : misP S n j d t w m k → Q (.inl (some (vI 1))) (mk S e))
    (K0 : ¬ misP S n j d t w m k → m_ok xs L 60 b_60_18 [vR (wg n j), vI t, vI w, vI m, vI (kk + 1)] [] (mk S e) Q) : m_ok xs L 60 b_60_18 [vR (wg n j), vI t, vI w, vI m, vI kk] [] (mk S e) Q := by
  subst hkk
  unfold b_60_18
  repeat' first
    | (refine V_icmp_ge.mpr ?_; first | rw [if_pos (by omega)] | rw [if_neg (by omega)] | split)
    | (refine V_icmp_ne.mpr ?_; first | rw [if_pos (by omega)] | rw [if_neg (by omega)] | split)
    | (refine V_if_eq.mpr ?_; first | rw [if_pos (by omega)] | rw [if_neg (by omega)] | split)
    | (refine V_if_ne.mpr ?_; first | rw [if_pos (by omega)] | rw [if_neg (by omega)] | split)
    | (simp (disch := (first | omega | (simp (disch := omega) only [up_f, up_s, up_i, up_k, up_e]; omega))) only [up_f, up_s, up_i, up_k, up_e, V_iconst, V_bipush, V_sipush, V_conti, V_contn, V_goto, Option.some.injEq, exists_eq_left', true_and, and_true, m_fit, Option.isSome_some, List.map_nil, List.map_cons, List.sum_nil, List.sum_cons, List.all_nil, List.all_cons, m_cat, decide_true, Bool.and_true, Bool.true_and, Nat.zero_le, Int.toNat_natCast, Int.reduceAdd, Int.reduceSub, Int.reduceMul, Int.reduceNeg, Int.reduceLE, Int.reduceLT, Nat.reduceAdd, Nat.reduceLeDiff, Int.reduceToNat, Int.reduceEq, decide_eq_true_eq, true_or, or_true, exists_and_left, and_self, Nat.reduceMul, Nat.reduceSub, Nat.reduceLT, m_oa, Nat.reduceEqDiff, or_false, false_or, Sum.inl.injEq, Sum.inr.injEq, ↓reduceIte, exists_eq_left, D_60, R_60, X_60, F_60_9, F_60_31, J_60_7, F_60_25, F_60_35, J_60_27, F_60_38, J_60_41, F_60_42, J_60_55, J_60_64, I_60_45, J_60_73, J_60_81, V_aloadn0, G_8_0, G_1_8, G_8_3, V_istore4, V_iload4, G_1_9, G_1_10, A_coA0, T_acoA0, B_coA0, U_iaload, V_iloadn1, G_1_11, A_coA1, T_acoA1, B_coA1, V_iloadn2, V_iloadn3, T_8, V_iinc4, m_add_eq, b_60_0, b_60_12, b_60_76, b_60_78, b_60_84, s_59, hd, hq, Int.natCast_inj, Int.ofNat_lt, Int.ofNat_le, bz])
  all_goals first | exact K1 (by simp_all [misP, Int.natCast_inj, Int.ofNat_inj]) | exact K0 (by simp_all [misP, Int.natCast_inj, Int.ofNat_inj]) | exact K1 ⟨by assumption, by assumption, by omega⟩ | exact K0 (fun h => by unfold misP at h; omega)
theorem k_60 {n j d p : Nat} {t w m : Int} {Q : MOut → MHp → Prop} (hn : n < 3) (hj : j < 10) (hp : p ≤ 3) (hd : S 1803 (10 * n + j) 0 = d) (hq : S 1109 j 0 = p) : ∀ z k : Nat, ∀ kk : Int, k + z = p → kk = k → ((∃ i, k ≤ i ∧ i < p ∧ misP S n j d t w m i) → Q (.inl (some (vI 1))) (mk S e)) → ((¬ ∃ i, k ≤ i ∧ i < p ∧ misP S n j d t w m i) → Q (.inl (some (vI 0))) (mk S e)) → m_ok xs L 60 b_60_18 [vR (wg n j), vI t, vI w, vI m, vI kk] [] (mk S e) Q
  | 0, k, kk, hz, hkk, K1, K0 => by
    have hk : k = p := by omega
    subst hkk
    have h0 := K0 (fun ⟨i, h1, h2, _⟩ => by omega)
    unfold b_60_18
    repeat' first
      | (refine V_icmp_ge.mpr ?_; first | rw [if_pos (by omega)] | rw [if_neg (by omega)] | split)
      | (refine V_icmp_ne.mpr ?_; first | rw [if_pos (by omega)] | rw [if_neg (by omega)] | split)
      | (refine V_if_eq.mpr ?_; first | rw [if_pos (by omega)] | rw [if_neg (by omega)] | split)
      | (refine V_if_ne.mpr ?_; first | rw [if_pos (by omega)] | rw [if_neg (by omega)] | split)
      | (simp (disch := (first | omega | (simp (disch := omega) only [up_f, up_s, up_i, up_k, up_e]; omega))) only [up_f, up_s, up_i, up_k, up_e, V_iconst, V_bipush, V_sipush, V_conti, V_contn, V_goto, Option.some.injEq, exists_eq_left', true_and, and_true, m_fit, Option.isSome_some, List.map_nil, List.map_cons, List.sum_nil, List.sum_cons, List.all_nil, List.all_cons, m_cat, decide_true, Bool.and_true, Bool.true_and, Nat.zero_le, Int.toNat_natCast, Int.reduceAdd, Int.reduceSub, Int.reduceMul, Int.reduceNeg, Int.reduceLE, Int.reduceLT, Nat.reduceAdd, Nat.reduceLeDiff, Int.reduceToNat, Int.reduceEq, decide_eq_true_eq, true_or, or_true, exists_and_left, and_self, Nat.reduceMul, Nat.reduceSub, Nat.reduceLT, m_oa, Nat.reduceEqDiff, or_false, false_or, Sum.inl.injEq, Sum.inr.injEq, ↓reduceIte, exists_eq_left, D_60, R_60, X_60, F_60_9, F_60_31, J_60_7, F_60_25, F_60_35, J_60_27, F_60_38, J_60_41, F_60_42, J_60_55, J_60_64, I_60_45, J_60_73, J_60_81, V_aloadn0, G_8_0, G_1_8, G_8_3, V_istore4, V_iload4, G_1_9, G_1_10, A_coA0, T_acoA0, B_coA0, U_iaload, V_iloadn1, G_1_11, A_coA1, T_acoA1, B_coA1, V_iloadn2, V_iloadn3, T_8, V_iinc4, m_add_eq, b_60_0, b_60_12, b_60_76, b_60_78, b_60_84, hd, hq])
    all_goals (first | exact h0 | omega)
  | z + 1, k, kk, hz, hkk, K1, K0 => l_60 hn hj hp hd hq (by omega) hkk (fun h => K1 ⟨k, by omega, by omega, h⟩) (fun h => k_60 hn hj hp hd hq z (k + 1) (kk + 1) (by omega) (by omega) (fun ⟨i, h1, h2, h3⟩ => K1 ⟨i, by omega, h2, h3⟩) (fun hno => K0 (fun ⟨i, h1, h2, h3⟩ => by
      by_cases hik : i = k
      · subst hik; exact h h3
      · exact hno ⟨i, by omega, h2, h3⟩)))
noncomputable def misI (S : Sg) (n j d p : Nat) (t w m : Int) : Int := @ite _ (S 1108 j 0 = 0 ∧ ∃ i, d ≤ i ∧ i < p ∧ misP S n j d t w m i) (Classical.propDecidable _) 1 0
theorem s_60 {n j d p : Nat} {t w m : Int} (hn : n < 3) (hj : j < 10) (hp : p ≤ 3) (hd : S 1803 (10 * n + j) 0 = d) (hq : S 1109 j 0 = p) (hdp : d ≤ p) (Q : MOut → MHp → Prop) : m_do xs L 60 [vR (wg n j), vI t, vI w, vI m] (mk S e) Q ↔ Q (.inl (some (vI (misI S n j d p t w m)))) (mk S e) := by
  refine m_do_eq ?_ Q
  repeat' first
    | (refine V_icmp_ge.mpr ?_; first | rw [if_pos (by omega)] | rw [if_neg (by omega)] | split)
    | (refine V_icmp_ne.mpr ?_; first | rw [if_pos (by omega)] | rw [if_neg (by omega)] | split)
    | (refine V_if_eq.mpr ?_; first | rw [if_pos (by omega)] | rw [if_neg (by omega)] | split)
    | (refine V_if_ne.mpr ?_; first | rw [if_pos (by omega)] | rw [if_neg (by omega)] | split)
    | (simp (disch := (first | omega | (simp (disch := omega) only [up_f, up_s, up_i, up_k, up_e]; omega))) only [up_f, up_s, up_i, up_k, up_e, V_iconst, V_bipush, V_sipush, V_conti, V_contn, V_goto, Option.some.injEq, exists_eq_left', true_and, and_true, m_fit, Option.isSome_some, List.map_nil, List.map_cons, List.sum_nil, List.sum_cons, List.all_nil, List.all_cons, m_cat, decide_true, Bool.and_true, Bool.true_and, Nat.zero_le, Int.toNat_natCast, Int.reduceAdd, Int.reduceSub, Int.reduceMul, Int.reduceNeg, Int.reduceLE, Int.reduceLT, Nat.reduceAdd, Nat.reduceLeDiff, Int.reduceToNat, Int.reduceEq, decide_eq_true_eq, true_or, or_true, exists_and_left, and_self, Nat.reduceMul, Nat.reduceSub, Nat.reduceLT, m_oa, Nat.reduceEqDiff, or_false, false_or, Sum.inl.injEq, Sum.inr.injEq, ↓reduceIte, exists_eq_left, D_60, R_60, X_60, F_60_9, F_60_31, J_60_7, F_60_25, F_60_35, J_60_27, F_60_38, J_60_41, F_60_42, J_60_55, J_60_64, I_60_45, J_60_73, J_60_81, V_aloadn0, G_8_0, G_1_8, G_8_3, V_istore4, V_iload4, G_1_9, G_1_10, A_coA0, T_acoA0, B_coA0, U_iaload, V_iloadn1, G_1_11, A_coA1, T_acoA1, B_coA1, V_iloadn2, V_iloadn3, T_8, V_iinc4, m_add_eq, b_60_0, b_60_12, b_60_76, b_60_78, b_60_84, hd, hq])
  · refine k_60 hn hj hp hd hq (p - d) d d (by omega) rfl (fun h => ?_) (fun h => ?_)
    · simp_all [misI]
    · simp_all [misI]
  · simp_all [misI]
end V
