/-! ===== the model's small questions ===== -/
/-- the stop of a train at a station, of the first k -/
def stopF (S : Sg) (t : Nat) (a : Int) : Nat → Int
  | 0 => -1
  | k + 1 => if S 55 0 (6 * t + k) = a then (k : Int) else stopF S t a k
section V
variable {xs : Nat → Int32} {L : Nat} {S : Sg} {e : Nat}
def sumF (S : Sg) (W t : Nat) : Nat → Int
  | 0 => 0
  | k + 1 => sumF S W t k + S W 0 (S 83 0 (10 * t + k)).toNat
theorem sumF_ran {S : Sg} {W t n : Nat} (hb : ∀ k, k < n → 0 ≤ S 83 0 (10 * t + k) ∧ S 83 0 (10 * t + k) < 10) (hw : ∀ i, i < 10 → 0 ≤ S W 0 i ∧ S W 0 i ≤ 80) : ∀ k, k ≤ n → 0 ≤ sumF S W t k ∧ sumF S W t k ≤ 80 * k
  | 0, _ => by simp [sumF]
  | k + 1, hk => by
    have h1 := sumF_ran hb hw k (by omega)
    have h2 := hb k (by omega)
    have h3 := hw (S 83 0 (10 * t + k)).toNat (by omega)
    simp only [sumF]
    omega
theorem s_100 {a : Int} (h : 0 ≤ S 2001 0 0 ∧ S 2001 0 0 ≤ 100) (Q : MOut → MHp → Prop) : m_do xs L 100 [vR 296, vI a] (mk S e) Q ↔ Q (.inl (some (vI (if 0 ≤ a ∧ a < S 2001 0 0 then 1 else 0)))) (mk (S) (e)) := by
  refine m_do_eq ?_ Q
  repeat' first
    | (simp (disch := omega) only [up_f, up_s, up_i, up_k, up_e, V_iconst, V_bipush, V_sipush, V_conti, V_contn, V_goto, Option.some.injEq, exists_eq_left', true_and, and_true, m_fit, Option.isSome_some, List.map_nil, List.map_cons, List.sum_nil, List.sum_cons, List.all_nil, List.all_cons, m_cat, decide_true, Bool.and_true, Bool.true_and, Nat.zero_le, Int.toNat_natCast, Int.reduceAdd, Int.reduceSub, Int.reduceMul, Int.reduceNeg, Int.reduceLE, Int.reduceLT, Nat.reduceAdd, Nat.reduceLeDiff, Int.reduceToNat, Int.reduceEq, decide_eq_true_eq, true_or, or_true, exists_and_left, and_self, Nat.reduceMul, Nat.reduceSub, Nat.reduceLT, m_oa, Nat.reduceEqDiff, or_false, false_or, Sum.inl.injEq, Sum.inr.injEq, ↓reduceIte, exists_eq_left, D_100, R_100, X_100, F_100_147, I_100_150, V_iloadn1, V_aloadn0, G_10_1, V_isub, m_sub_eq, b_100_0, s_98])
  all_goals (try (split <;> split <;> simp <;> omega))
theorem s_101 {a : Int} (h : 0 ≤ S 2004 0 0 ∧ S 2004 0 0 ≤ 100) (Q : MOut → MHp → Prop) : m_do xs L 101 [vR 296, vI a] (mk S e) Q ↔ Q (.inl (some (vI (if 0 ≤ a ∧ a < S 2004 0 0 then 1 else 0)))) (mk (S) (e)) := by
  refine m_do_eq ?_ Q
  repeat' first
    | (simp (disch := omega) only [up_f, up_s, up_i, up_k, up_e, V_iconst, V_bipush, V_sipush, V_conti, V_contn, V_goto, Option.some.injEq, exists_eq_left', true_and, and_true, m_fit, Option.isSome_some, List.map_nil, List.map_cons, List.sum_nil, List.sum_cons, List.all_nil, List.all_cons, m_cat, decide_true, Bool.and_true, Bool.true_and, Nat.zero_le, Int.toNat_natCast, Int.reduceAdd, Int.reduceSub, Int.reduceMul, Int.reduceNeg, Int.reduceLE, Int.reduceLT, Nat.reduceAdd, Nat.reduceLeDiff, Int.reduceToNat, Int.reduceEq, decide_eq_true_eq, true_or, or_true, exists_and_left, and_self, Nat.reduceMul, Nat.reduceSub, Nat.reduceLT, m_oa, Nat.reduceEqDiff, or_false, false_or, Sum.inl.injEq, Sum.inr.injEq, ↓reduceIte, exists_eq_left, D_101, R_101, X_101, F_101_154, I_101_150, V_iloadn1, V_aloadn0, G_10_4, V_isub, m_sub_eq, b_101_0, s_98])
  all_goals (try (split <;> split <;> simp <;> omega))
theorem s_103 {a : Int} (h : 0 ≤ S 2014 0 0 ∧ S 2014 0 0 ≤ 100) (Q : MOut → MHp → Prop) : m_do xs L 103 [vR 296, vI a] (mk S e) Q ↔ Q (.inl (some (vI (if 0 ≤ a ∧ a < S 2014 0 0 then 1 else 0)))) (mk (S) (e)) := by
  refine m_do_eq ?_ Q
  repeat' first
    | (simp (disch := omega) only [up_f, up_s, up_i, up_k, up_e, V_iconst, V_bipush, V_sipush, V_conti, V_contn, V_goto, Option.some.injEq, exists_eq_left', true_and, and_true, m_fit, Option.isSome_some, List.map_nil, List.map_cons, List.sum_nil, List.sum_cons, List.all_nil, List.all_cons, m_cat, decide_true, Bool.and_true, Bool.true_and, Nat.zero_le, Int.toNat_natCast, Int.reduceAdd, Int.reduceSub, Int.reduceMul, Int.reduceNeg, Int.reduceLE, Int.reduceLT, Nat.reduceAdd, Nat.reduceLeDiff, Int.reduceToNat, Int.reduceEq, decide_eq_true_eq, true_or, or_true, exists_and_left, and_self, Nat.reduceMul, Nat.reduceSub, Nat.reduceLT, m_oa, Nat.reduceEqDiff, or_false, false_or, Sum.inl.injEq, Sum.inr.injEq, ↓reduceIte, exists_eq_left, D_103, R_103, X_103, F_103_161, I_103_150, V_iloadn1, V_aloadn0, G_10_14, V_isub, m_sub_eq, b_103_0, s_98])
  all_goals (try (split <;> split <;> simp <;> omega))
theorem s_104 {a : Int} (h : 0 ≤ S 2026 0 0 ∧ S 2026 0 0 ≤ 100) (Q : MOut → MHp → Prop) : m_do xs L 104 [vR 296, vI a] (mk S e) Q ↔ Q (.inl (some (vI (if 0 ≤ a ∧ a < S 2026 0 0 then 1 else 0)))) (mk (S) (e)) := by
  refine m_do_eq ?_ Q
  repeat' first
    | (simp (disch := omega) only [up_f, up_s, up_i, up_k, up_e, V_iconst, V_bipush, V_sipush, V_conti, V_contn, V_goto, Option.some.injEq, exists_eq_left', true_and, and_true, m_fit, Option.isSome_some, List.map_nil, List.map_cons, List.sum_nil, List.sum_cons, List.all_nil, List.all_cons, m_cat, decide_true, Bool.and_true, Bool.true_and, Nat.zero_le, Int.toNat_natCast, Int.reduceAdd, Int.reduceSub, Int.reduceMul, Int.reduceNeg, Int.reduceLE, Int.reduceLT, Nat.reduceAdd, Nat.reduceLeDiff, Int.reduceToNat, Int.reduceEq, decide_eq_true_eq, true_or, or_true, exists_and_left, and_self, Nat.reduceMul, Nat.reduceSub, Nat.reduceLT, m_oa, Nat.reduceEqDiff, or_false, false_or, Sum.inl.injEq, Sum.inr.injEq, ↓reduceIte, exists_eq_left, D_104, R_104, X_104, F_104_164, I_104_150, V_iloadn1, V_aloadn0, G_10_26, V_isub, m_sub_eq, b_104_0, s_98])
  all_goals (try (split <;> split <;> simp <;> omega))
theorem l_105 {t : Nat} {a : Int} {Q : MOut → MHp → Prop} (ht : t < 6) {n : Nat} (hn : n ≤ 6) (hs : S 54 0 t = n) {j : Nat} {jj : Int} (hj : j < n) (hjj : jj = j)
    (K : m_ok xs L 105 b_105_5 [vR 296, vI t, vI a, vI (stopF S t a (j + 1)), vI (jj + 1)] [] (mk S e) Q) : m_ok xs L 105 b_105_5 [vR 296, vI t, vI a, vI (stopF S t a j), vI jj] [] (mk S e) Q := by
  subst hjj
  have hx : (6 * (t : Int) + (j : Int)).toNat = 6 * t + j := by omega
  unfold b_105_5
  repeat' first
    | (refine V_icmp_ge.mpr ?_; first | rw [if_pos (by omega)] | rw [if_neg (by omega)] | split)
    | (refine V_icmp_ne.mpr ?_; first | rw [if_pos (by omega)] | rw [if_neg (by omega)] | split)
    | (simp (disch := omega) only [up_f, up_s, up_i, up_k, up_e, V_iconst, V_bipush, V_sipush, V_conti, V_contn, V_goto, Option.some.injEq, exists_eq_left', true_and, and_true, m_fit, Option.isSome_some, List.map_nil, List.map_cons, List.sum_nil, List.sum_cons, List.all_nil, List.all_cons, m_cat, decide_true, Bool.and_true, Bool.true_and, Nat.zero_le, Int.toNat_natCast, Int.reduceAdd, Int.reduceSub, Int.reduceMul, Int.reduceNeg, Int.reduceLE, Int.reduceLT, Nat.reduceAdd, Nat.reduceLeDiff, Int.reduceToNat, Int.reduceEq, decide_eq_true_eq, true_or, or_true, exists_and_left, and_self, Nat.reduceMul, Nat.reduceSub, Nat.reduceLT, m_oa, Nat.reduceEqDiff, or_false, false_or, Sum.inl.injEq, Sum.inr.injEq, ↓reduceIte, exists_eq_left, D_105, R_105, X_105, F_105_22, J_105_13, F_105_25, J_105_29, J_105_34, J_105_42, V_istoren3, V_istore4, V_iload4, V_aloadn0, G_10_7, A_301, T_a301, B_301, V_iloadn1, U_iaload, G_10_8, A_302, T_a302, B_302, V_imul, m_mul_eq, V_iadd, m_add_eq, V_iloadn2, V_iloadn3, V_iinc4, b_105_0, b_105_37, b_105_38, b_105_45, hs, hx])
  all_goals (refine cast ?_ K; simp_all [stopF])
theorem k_105 {t : Nat} {a : Int} {Q : MOut → MHp → Prop} (ht : t < 6) {n : Nat} (hn : n ≤ 6) (hs : S 54 0 t = n) (K : Q (.inl (some (vI (stopF S t a n)))) (mk S e)) : ∀ d j : Nat, ∀ jj : Int, j + d = n → jj = j → m_ok xs L 105 b_105_5 [vR 296, vI t, vI a, vI (stopF S t a j), vI jj] [] (mk S e) Q
  | 0, j, jj, hd, hjj => by
    have hj : j = n := by omega
    subst hj
    subst hjj
    unfold b_105_5
    repeat' first
      | (refine V_icmp_ge.mpr ?_; first | rw [if_pos (by omega)] | rw [if_neg (by omega)] | split)
      | (refine V_icmp_ne.mpr ?_; first | rw [if_pos (by omega)] | rw [if_neg (by omega)] | split)
      | (simp (disch := omega) only [up_f, up_s, up_i, up_k, up_e, V_iconst, V_bipush, V_sipush, V_conti, V_contn, V_goto, Option.some.injEq, exists_eq_left', true_and, and_true, m_fit, Option.isSome_some, List.map_nil, List.map_cons, List.sum_nil, List.sum_cons, List.all_nil, List.all_cons, m_cat, decide_true, Bool.and_true, Bool.true_and, Nat.zero_le, Int.toNat_natCast, Int.reduceAdd, Int.reduceSub, Int.reduceMul, Int.reduceNeg, Int.reduceLE, Int.reduceLT, Nat.reduceAdd, Nat.reduceLeDiff, Int.reduceToNat, Int.reduceEq, decide_eq_true_eq, true_or, or_true, exists_and_left, and_self, Nat.reduceMul, Nat.reduceSub, Nat.reduceLT, m_oa, Nat.reduceEqDiff, or_false, false_or, Sum.inl.injEq, Sum.inr.injEq, ↓reduceIte, exists_eq_left, D_105, R_105, X_105, F_105_22, J_105_13, F_105_25, J_105_29, J_105_34, J_105_42, V_istoren3, V_istore4, V_iload4, V_aloadn0, G_10_7, A_301, T_a301, B_301, V_iloadn1, U_iaload, G_10_8, A_302, T_a302, B_302, V_imul, m_mul_eq, V_iadd, m_add_eq, V_iloadn2, V_iloadn3, V_iinc4, b_105_0, b_105_37, b_105_38, b_105_45, hs])
    all_goals (first | exact K | omega)
  | d + 1, j, jj, hd, hjj => l_105 ht hn hs (by omega) hjj (k_105 ht hn hs K d (j + 1) (jj + 1) (by omega) (by omega))
theorem s_105 {t n : Nat} {a : Int} (ht : t < 6) (hn : n ≤ 6) (hs : S 54 0 t = n) (Q : MOut → MHp → Prop) : m_do xs L 105 [vR 296, vI t, vI a] (mk S e) Q ↔ Q (.inl (some (vI (stopF S t a n)))) (mk S e) := by
  refine m_do_eq ?_ Q
  repeat' first
    | (refine V_icmp_ge.mpr ?_; first | rw [if_pos (by omega)] | rw [if_neg (by omega)] | split)
    | (refine V_icmp_ne.mpr ?_; first | rw [if_pos (by omega)] | rw [if_neg (by omega)] | split)
    | (simp (disch := omega) only [up_f, up_s, up_i, up_k, up_e, V_iconst, V_bipush, V_sipush, V_conti, V_contn, V_goto, Option.some.injEq, exists_eq_left', true_and, and_true, m_fit, Option.isSome_some, List.map_nil, List.map_cons, List.sum_nil, List.sum_cons, List.all_nil, List.all_cons, m_cat, decide_true, Bool.and_true, Bool.true_and, Nat.zero_le, Int.toNat_natCast, Int.reduceAdd, Int.reduceSub, Int.reduceMul, Int.reduceNeg, Int.reduceLE, Int.reduceLT, Nat.reduceAdd, Nat.reduceLeDiff, Int.reduceToNat, Int.reduceEq, decide_eq_true_eq, true_or, or_true, exists_and_left, and_self, Nat.reduceMul, Nat.reduceSub, Nat.reduceLT, m_oa, Nat.reduceEqDiff, or_false, false_or, Sum.inl.injEq, Sum.inr.injEq, ↓reduceIte, exists_eq_left, D_105, R_105, X_105, F_105_22, J_105_13, F_105_25, J_105_29, J_105_34, J_105_42, V_istoren3, V_istore4, V_iload4, V_aloadn0, G_10_7, A_301, T_a301, B_301, V_iloadn1, U_iaload, G_10_8, A_302, T_a302, B_302, V_imul, m_mul_eq, V_iadd, m_add_eq, V_iloadn2, V_iloadn3, V_iinc4, b_105_0, b_105_37, b_105_38, b_105_45])
  exact k_105 ht hn hs ⟨rfl, rfl⟩ n 0 0 (by omega) rfl
theorem s_112 {c p : Nat} (hc : c < 10) (hp : p < 4) (Q : MOut → MHp → Prop) : m_do xs L 112 [vR 296, vI c, vI p] (mk S e) Q ↔ Q (.inl (some (vI (if p = 0 then S 61 0 c else S 71 0 (3 * c + p - 1))))) (mk (S) (e)) := by
  have hx : (3 * (c : Int) + (p : Int) - 1).toNat = 3 * c + p - 1 := by omega
  refine m_do_eq ?_ Q
  repeat' first
    | (refine V_if_ne.mpr ?_; first | rw [if_pos (by omega)] | rw [if_neg (by omega)] | split)
    | (simp (disch := omega) only [up_f, up_s, up_i, up_k, up_e, V_iconst, V_bipush, V_sipush, V_conti, V_contn, V_goto, Option.some.injEq, exists_eq_left', true_and, and_true, m_fit, Option.isSome_some, List.map_nil, List.map_cons, List.sum_nil, List.sum_cons, List.all_nil, List.all_cons, m_cat, decide_true, Bool.and_true, Bool.true_and, Nat.zero_le, Int.toNat_natCast, Int.reduceAdd, Int.reduceSub, Int.reduceMul, Int.reduceNeg, Int.reduceLE, Int.reduceLT, Nat.reduceAdd, Nat.reduceLeDiff, Int.reduceToNat, Int.reduceEq, decide_eq_true_eq, true_or, or_true, exists_and_left, and_self, Nat.reduceMul, Nat.reduceSub, Nat.reduceLT, m_oa, Nat.reduceEqDiff, or_false, false_or, Sum.inl.injEq, Sum.inr.injEq, ↓reduceIte, exists_eq_left, D_112, R_112, X_112, J_112_1, F_112_43, J_112_10, F_112_74, V_iloadn2, V_aloadn0, G_10_15, A_308, T_a308, B_308, V_iloadn1, U_iaload, G_10_25, A_318, T_a318, B_318, V_imul, m_mul_eq, V_iadd, m_add_eq, V_isub, m_sub_eq, b_112_0, b_112_13, b_112_25, hx])
  all_goals (try simp_all)
  all_goals (try omega)
theorem l_123 {t n j : Nat} {jj : Int} {Q : MOut → MHp → Prop} (ht : t < 6) (hn : n ≤ 10) (hs : S 84 0 t = n) (hb : ∀ k, k < n → 0 ≤ S 83 0 (10 * t + k) ∧ S 83 0 (10 * t + k) < 10) (hw : ∀ i, i < 10 → 0 ≤ S 64 0 i ∧ S 64 0 i ≤ 80) (hj : j < n) (hjj : jj = j)
    (K : m_ok xs L 123 b_123_4 [vR 296, vI t, vI (sumF S 64 t (j + 1)), vI (jj + 1)] [] (mk S e) Q) : m_ok xs L 123 b_123_4 [vR 296, vI t, vI (sumF S 64 t j), vI jj] [] (mk S e) Q := by
  subst hjj
  have hx : (10 * (t : Int) + (j : Int)).toNat = 10 * t + j := by omega
  have h1 := sumF_ran hb hw j (by omega)
  have h2 := hb j hj
  have h3 := hw (S 83 0 (10 * t + j)).toNat (by omega)
  unfold b_123_4
  repeat' first
    | (refine V_icmp_ge.mpr ?_; first | rw [if_pos (by omega)] | rw [if_neg (by omega)] | split)
    | (simp (disch := omega) only [up_f, up_s, up_i, up_k, up_e, V_iconst, V_bipush, V_sipush, V_conti, V_contn, V_goto, Option.some.injEq, exists_eq_left', true_and, and_true, m_fit, Option.isSome_some, List.map_nil, List.map_cons, List.sum_nil, List.sum_cons, List.all_nil, List.all_cons, m_cat, decide_true, Bool.and_true, Bool.true_and, Nat.zero_le, Int.toNat_natCast, Int.reduceAdd, Int.reduceSub, Int.reduceMul, Int.reduceNeg, Int.reduceLE, Int.reduceLT, Nat.reduceAdd, Nat.reduceLeDiff, Int.reduceToNat, Int.reduceEq, decide_eq_true_eq, true_or, or_true, exists_and_left, and_self, Nat.reduceMul, Nat.reduceSub, Nat.reduceLT, m_oa, Nat.reduceEqDiff, or_false, false_or, Sum.inl.injEq, Sum.inr.injEq, ↓reduceIte, exists_eq_left, D_123, R_123, X_123, F_123_113, J_123_11, F_123_52, F_123_110, J_123_36, V_istoren2, V_istoren3, V_iloadn3, V_aloadn0, G_10_40, A_331, T_a331, B_331, V_iloadn1, U_iaload, V_iloadn2, G_10_18, A_311, T_a311, B_311, G_10_39, A_330, T_a330, B_330, V_imul, m_mul_eq, V_iadd, m_add_eq, V_iinc3, b_123_0, b_123_39, hs, hx])
  all_goals (refine cast ?_ K; simp_all [sumF])
theorem k_123 {t n : Nat} {Q : MOut → MHp → Prop} (ht : t < 6) (hn : n ≤ 10) (hs : S 84 0 t = n) (hb : ∀ k, k < n → 0 ≤ S 83 0 (10 * t + k) ∧ S 83 0 (10 * t + k) < 10) (hw : ∀ i, i < 10 → 0 ≤ S 64 0 i ∧ S 64 0 i ≤ 80) (K : Q (.inl (some (vI (sumF S 64 t n)))) (mk S e)) : ∀ d j : Nat, ∀ jj : Int, j + d = n → jj = j → m_ok xs L 123 b_123_4 [vR 296, vI t, vI (sumF S 64 t j), vI jj] [] (mk S e) Q
  | 0, j, jj, hd, hjj => by
    have hj : j = n := by omega
    subst hj
    subst hjj
    unfold b_123_4
    repeat' first
      | (refine V_icmp_ge.mpr ?_; first | rw [if_pos (by omega)] | rw [if_neg (by omega)] | split)
      | (simp (disch := omega) only [up_f, up_s, up_i, up_k, up_e, V_iconst, V_bipush, V_sipush, V_conti, V_contn, V_goto, Option.some.injEq, exists_eq_left', true_and, and_true, m_fit, Option.isSome_some, List.map_nil, List.map_cons, List.sum_nil, List.sum_cons, List.all_nil, List.all_cons, m_cat, decide_true, Bool.and_true, Bool.true_and, Nat.zero_le, Int.toNat_natCast, Int.reduceAdd, Int.reduceSub, Int.reduceMul, Int.reduceNeg, Int.reduceLE, Int.reduceLT, Nat.reduceAdd, Nat.reduceLeDiff, Int.reduceToNat, Int.reduceEq, decide_eq_true_eq, true_or, or_true, exists_and_left, and_self, Nat.reduceMul, Nat.reduceSub, Nat.reduceLT, m_oa, Nat.reduceEqDiff, or_false, false_or, Sum.inl.injEq, Sum.inr.injEq, ↓reduceIte, exists_eq_left, D_123, R_123, X_123, F_123_113, J_123_11, F_123_52, F_123_110, J_123_36, V_istoren2, V_istoren3, V_iloadn3, V_aloadn0, G_10_40, A_331, T_a331, B_331, V_iloadn1, U_iaload, V_iloadn2, G_10_18, A_311, T_a311, B_311, G_10_39, A_330, T_a330, B_330, V_imul, m_mul_eq, V_iadd, m_add_eq, V_iinc3, b_123_0, b_123_39, hs])
    all_goals (first | exact K | omega)
  | d + 1, j, jj, hd, hjj => l_123 ht hn hs hb hw (by omega) hjj (k_123 ht hn hs hb hw K d (j + 1) (jj + 1) (by omega) (by omega))
theorem s_123 {t n : Nat} (ht : t < 6) (hn : n ≤ 10) (hs : S 84 0 t = n) (hb : ∀ k, k < n → 0 ≤ S 83 0 (10 * t + k) ∧ S 83 0 (10 * t + k) < 10) (hw : ∀ i, i < 10 → 0 ≤ S 64 0 i ∧ S 64 0 i ≤ 80) (Q : MOut → MHp → Prop) : m_do xs L 123 [vR 296, vI t] (mk S e) Q ↔ Q (.inl (some (vI (sumF S 64 t n)))) (mk S e) := by
  refine m_do_eq ?_ Q
  repeat' first
    | (refine V_icmp_ge.mpr ?_; first | rw [if_pos (by omega)] | rw [if_neg (by omega)] | split)
    | (simp (disch := omega) only [up_f, up_s, up_i, up_k, up_e, V_iconst, V_bipush, V_sipush, V_conti, V_contn, V_goto, Option.some.injEq, exists_eq_left', true_and, and_true, m_fit, Option.isSome_some, List.map_nil, List.map_cons, List.sum_nil, List.sum_cons, List.all_nil, List.all_cons, m_cat, decide_true, Bool.and_true, Bool.true_and, Nat.zero_le, Int.toNat_natCast, Int.reduceAdd, Int.reduceSub, Int.reduceMul, Int.reduceNeg, Int.reduceLE, Int.reduceLT, Nat.reduceAdd, Nat.reduceLeDiff, Int.reduceToNat, Int.reduceEq, decide_eq_true_eq, true_or, or_true, exists_and_left, and_self, Nat.reduceMul, Nat.reduceSub, Nat.reduceLT, m_oa, Nat.reduceEqDiff, or_false, false_or, Sum.inl.injEq, Sum.inr.injEq, ↓reduceIte, exists_eq_left, D_123, R_123, X_123, F_123_113, J_123_11, F_123_52, F_123_110, J_123_36, V_istoren2, V_istoren3, V_iloadn3, V_aloadn0, G_10_40, A_331, T_a331, B_331, V_iloadn1, U_iaload, V_iloadn2, G_10_18, A_311, T_a311, B_311, G_10_39, A_330, T_a330, B_330, V_imul, m_mul_eq, V_iadd, m_add_eq, V_iinc3, b_123_0, b_123_39])
  exact k_123 ht hn hs hb hw ⟨rfl, rfl⟩ n 0 0 (by omega) rfl
theorem l_124 {t n j : Nat} {jj : Int} {Q : MOut → MHp → Prop} (ht : t < 6) (hn : n ≤ 10) (hs : S 84 0 t = n) (hb : ∀ k, k < n → 0 ≤ S 83 0 (10 * t + k) ∧ S 83 0 (10 * t + k) < 10) (hw : ∀ i, i < 10 → 0 ≤ S 65 0 i ∧ S 65 0 i ≤ 80) (hj : j < n) (hjj : jj = j)
    (K : m_ok xs L 124 b_124_4 [vR 296, vI t, vI (sumF S 65 t (j + 1)), vI (jj + 1)] [] (mk S e) Q) : m_ok xs L 124 b_124_4 [vR 296, vI t, vI (sumF S 65 t j), vI jj] [] (mk S e) Q := by
  subst hjj
  have hx : (10 * (t : Int) + (j : Int)).toNat = 10 * t + j := by omega
  have h1 := sumF_ran hb hw j (by omega)
  have h2 := hb j hj
  have h3 := hw (S 83 0 (10 * t + j)).toNat (by omega)
  unfold b_124_4
  repeat' first
    | (refine V_icmp_ge.mpr ?_; first | rw [if_pos (by omega)] | rw [if_neg (by omega)] | split)
    | (simp (disch := omega) only [up_f, up_s, up_i, up_k, up_e, V_iconst, V_bipush, V_sipush, V_conti, V_contn, V_goto, Option.some.injEq, exists_eq_left', true_and, and_true, m_fit, Option.isSome_some, List.map_nil, List.map_cons, List.sum_nil, List.sum_cons, List.all_nil, List.all_cons, m_cat, decide_true, Bool.and_true, Bool.true_and, Nat.zero_le, Int.toNat_natCast, Int.reduceAdd, Int.reduceSub, Int.reduceMul, Int.reduceNeg, Int.reduceLE, Int.reduceLT, Nat.reduceAdd, Nat.reduceLeDiff, Int.reduceToNat, Int.reduceEq, decide_eq_true_eq, true_or, or_true, exists_and_left, and_self, Nat.reduceMul, Nat.reduceSub, Nat.reduceLT, m_oa, Nat.reduceEqDiff, or_false, false_or, Sum.inl.injEq, Sum.inr.injEq, ↓reduceIte, exists_eq_left, D_124, R_124, X_124, F_124_113, J_124_11, F_124_55, F_124_110, J_124_36, V_istoren2, V_istoren3, V_iloadn3, V_aloadn0, G_10_40, A_331, T_a331, B_331, V_iloadn1, U_iaload, V_iloadn2, G_10_19, A_312, T_a312, B_312, G_10_39, A_330, T_a330, B_330, V_imul, m_mul_eq, V_iadd, m_add_eq, V_iinc3, b_124_0, b_124_39, hs, hx])
  all_goals (refine cast ?_ K; simp_all [sumF])
theorem k_124 {t n : Nat} {Q : MOut → MHp → Prop} (ht : t < 6) (hn : n ≤ 10) (hs : S 84 0 t = n) (hb : ∀ k, k < n → 0 ≤ S 83 0 (10 * t + k) ∧ S 83 0 (10 * t + k) < 10) (hw : ∀ i, i < 10 → 0 ≤ S 65 0 i ∧ S 65 0 i ≤ 80) (K : Q (.inl (some (vI (sumF S 65 t n)))) (mk S e)) : ∀ d j : Nat, ∀ jj : Int, j + d = n → jj = j → m_ok xs L 124 b_124_4 [vR 296, vI t, vI (sumF S 65 t j), vI jj] [] (mk S e) Q
  | 0, j, jj, hd, hjj => by
    have hj : j = n := by omega
    subst hj
    subst hjj
    unfold b_124_4
    repeat' first
      | (refine V_icmp_ge.mpr ?_; first | rw [if_pos (by omega)] | rw [if_neg (by omega)] | split)
      | (simp (disch := omega) only [up_f, up_s, up_i, up_k, up_e, V_iconst, V_bipush, V_sipush, V_conti, V_contn, V_goto, Option.some.injEq, exists_eq_left', true_and, and_true, m_fit, Option.isSome_some, List.map_nil, List.map_cons, List.sum_nil, List.sum_cons, List.all_nil, List.all_cons, m_cat, decide_true, Bool.and_true, Bool.true_and, Nat.zero_le, Int.toNat_natCast, Int.reduceAdd, Int.reduceSub, Int.reduceMul, Int.reduceNeg, Int.reduceLE, Int.reduceLT, Nat.reduceAdd, Nat.reduceLeDiff, Int.reduceToNat, Int.reduceEq, decide_eq_true_eq, true_or, or_true, exists_and_left, and_self, Nat.reduceMul, Nat.reduceSub, Nat.reduceLT, m_oa, Nat.reduceEqDiff, or_false, false_or, Sum.inl.injEq, Sum.inr.injEq, ↓reduceIte, exists_eq_left, D_124, R_124, X_124, F_124_113, J_124_11, F_124_55, F_124_110, J_124_36, V_istoren2, V_istoren3, V_iloadn3, V_aloadn0, G_10_40, A_331, T_a331, B_331, V_iloadn1, U_iaload, V_iloadn2, G_10_19, A_312, T_a312, B_312, G_10_39, A_330, T_a330, B_330, V_imul, m_mul_eq, V_iadd, m_add_eq, V_iinc3, b_124_0, b_124_39, hs])
    all_goals (first | exact K | omega)
  | d + 1, j, jj, hd, hjj => l_124 ht hn hs hb hw (by omega) hjj (k_124 ht hn hs hb hw K d (j + 1) (jj + 1) (by omega) (by omega))
theorem s_124 {t n : Nat} (ht : t < 6) (hn : n ≤ 10) (hs : S 84 0 t = n) (hb : ∀ k, k < n → 0 ≤ S 83 0 (10 * t + k) ∧ S 83 0 (10 * t + k) < 10) (hw : ∀ i, i < 10 → 0 ≤ S 65 0 i ∧ S 65 0 i ≤ 80) (Q : MOut → MHp → Prop) : m_do xs L 124 [vR 296, vI t] (mk S e) Q ↔ Q (.inl (some (vI (sumF S 65 t n)))) (mk S e) := by
  refine m_do_eq ?_ Q
  repeat' first
    | (refine V_icmp_ge.mpr ?_; first | rw [if_pos (by omega)] | rw [if_neg (by omega)] | split)
    | (simp (disch := omega) only [up_f, up_s, up_i, up_k, up_e, V_iconst, V_bipush, V_sipush, V_conti, V_contn, V_goto, Option.some.injEq, exists_eq_left', true_and, and_true, m_fit, Option.isSome_some, List.map_nil, List.map_cons, List.sum_nil, List.sum_cons, List.all_nil, List.all_cons, m_cat, decide_true, Bool.and_true, Bool.true_and, Nat.zero_le, Int.toNat_natCast, Int.reduceAdd, Int.reduceSub, Int.reduceMul, Int.reduceNeg, Int.reduceLE, Int.reduceLT, Nat.reduceAdd, Nat.reduceLeDiff, Int.reduceToNat, Int.reduceEq, decide_eq_true_eq, true_or, or_true, exists_and_left, and_self, Nat.reduceMul, Nat.reduceSub, Nat.reduceLT, m_oa, Nat.reduceEqDiff, or_false, false_or, Sum.inl.injEq, Sum.inr.injEq, ↓reduceIte, exists_eq_left, D_124, R_124, X_124, F_124_113, J_124_11, F_124_55, F_124_110, J_124_36, V_istoren2, V_istoren3, V_iloadn3, V_aloadn0, G_10_40, A_331, T_a331, B_331, V_iloadn1, U_iaload, V_iloadn2, G_10_19, A_312, T_a312, B_312, G_10_39, A_330, T_a330, B_330, V_imul, m_mul_eq, V_iadd, m_add_eq, V_iinc3, b_124_0, b_124_39])
  exact k_124 ht hn hs hb hw ⟨rfl, rfl⟩ n 0 0 (by omega) rfl
end V
