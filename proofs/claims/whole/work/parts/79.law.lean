/-! ===== the law's cases ===== -/
section V
variable {xs : Nat → Int32} {L : Nat} {S : Sg} {e j : Nat}
theorem V_sal {mi pc : Nat} {r : MCode} {ls st : List MV} {h : MHp} {Q : MOut → MHp → Prop} {i : Int} (hi : 0 ≤ i ∧ i + 1 < (L : Int)) : m_ok xs L mi ((pc, .iaload) :: r) ls (vI i :: vS :: st) h Q ↔ m_ok xs L mi r ls (vI (xs i.toNat).toInt :: st) h Q := V_saload.trans (and_iff_right hi)
theorem V_aloadS {mi pc : Nat} {r : MCode} {ls st : List MV} {h : MHp} {Q : MOut → MHp → Prop} : m_ok xs L mi ((pc, .aload_n 0) :: r) (vS :: ls) st h Q ↔ m_ok xs L mi r (vS :: ls) (vS :: st) h Q := m_ok_step
theorem V_fload7 {mi pc : Nat} {r : MCode} {ls st : List MV} {h : MHp} {Q : MOut → MHp → Prop} {v0 v1 v2 v3 v4 v5 v6 : MV} {a : UInt32} : m_ok xs L mi ((pc, .fload 7) :: r) (v0 :: v1 :: v2 :: v3 :: v4 :: v5 :: v6 :: vF a :: ls) st h Q ↔ m_ok xs L mi r (v0 :: v1 :: v2 :: v3 :: v4 :: v5 :: v6 :: vF a :: ls) (vF a :: st) h Q := m_ok_step
theorem V_fstore7 {mi pc : Nat} {r : MCode} {ls st : List MV} {h : MHp} {Q : MOut → MHp → Prop} {v0 v1 v2 v3 v4 v5 v6 : MV} {v : MV} {a : UInt32} : m_ok xs L mi ((pc, .fstore 7) :: r) (v0 :: v1 :: v2 :: v3 :: v4 :: v5 :: v6 :: v :: ls) (vF a :: st) h Q ↔ m_ok xs L mi r (v0 :: v1 :: v2 :: v3 :: v4 :: v5 :: v6 :: vF a :: ls) st h Q := m_ok_step.trans (iff_of_eq (congrArg (m_go xs L mi Q) (m_fstore_eq (k := 7) (r := r) (ls := (v0 :: v1 :: v2 :: v3 :: v4 :: v5 :: v6 :: v :: ls)) (a := a) (st := st) (h := h) (by simp only [List.length_cons]; omega))))
theorem lg_self (a : Int64) : (lg_cmp a a).toInt = 0 := by
  unfold lg_cmp
  simp
set_option maxRecDepth 20000 in
theorem case_0 {A T C P : Nat} {i : Int} {v6 v7 : MV} {Q : MOut → MHp → Prop} (hi : 0 ≤ i ∧ i + 8 < (L : Int)) (hL : (L : Int) ≤ 5000) (h : II S A T C P j e) (hj : j < 10000) (K : ∀ (S2 : Sg) (A T C P e2 : Nat) (v6 v7 : MV), II S2 A T C P (j + 1) e2 → m_ok xs L 177 b_177_1895 [vS, vR 0, vR 296, vR 341, vR 342, vI i, v6, v7] [] (mk S2 e2) Q) : m_ok xs L 177 b_177_156 [vS, vR 0, vR 296, vR 341, vR 342, vI i, v6, v7] [] (mk S e) Q := by
  obtain ⟨k, b, S1, e1, S2, A2, T2, C2, P2, hw, hm, hk, hb, ii⟩ := call_0 (xs := xs) (L := L) (a := (xs (i + 1).toNat).toInt) (b := (xs (i + 2).toNat).toInt) h hj
  have hK := fun v6 v7 => K S2 A2 T2 C2 P2 e1 v6 v7 ii
  by_cases hk0 : k = 0
  · have hA : m_age (mk S2 e1) 341 23 0 = some (vL (Int32.ofInt b).toInt64) := by rw [A_341, hb hk0, Int64.ofInt_toInt]
    have hg := lg_self (Int32.ofInt b).toInt64
    repeat' first
      | (refine V_icmp_eq.mpr ?_; first | rw [if_pos (by omega)] | rw [if_neg (by omega)] | split)
      | (refine V_if_eq.mpr ?_; first | rw [if_pos (by omega)] | rw [if_neg (by omega)] | split)
      | (refine V_if_ne.mpr ?_; first | rw [if_pos (by omega)] | rw [if_neg (by omega)] | split)
      | (simp (disch := (first | omega | (simp (disch := omega) only [up_f, up_s, up_i, up_k, up_e]; omega))) only [up_f, up_s, up_i, up_k, up_e, V_iconst, V_bipush, V_sipush, V_conti, V_contn, V_goto, Option.some.injEq, exists_eq_left', true_and, and_true, m_fit, Option.isSome_some, List.map_nil, List.map_cons, List.sum_nil, List.sum_cons, List.all_nil, List.all_cons, m_cat, decide_true, Bool.and_true, Bool.true_and, Nat.zero_le, Int.toNat_natCast, Int.reduceAdd, Int.reduceSub, Int.reduceMul, Int.reduceNeg, Int.reduceLE, Int.reduceLT, Nat.reduceAdd, Nat.reduceLeDiff, Int.reduceToNat, Int.reduceEq, decide_eq_true_eq, true_or, or_true, exists_and_left, and_self, Nat.reduceMul, Nat.reduceSub, Nat.reduceLT, m_oa, Nat.reduceEqDiff, or_false, false_or, Sum.inl.injEq, Sum.inr.injEq, ↓reduceIte, ne_eq, not_false_eq_true, Int.reduceNe, exists_eq_left, D_177, R_177, X_177, I_177_94, I_177_99, I_177_100, J_177_199, J_177_206, J_177_216, J_177_221, V_aloadn1, V_aloadn0, V_iload5, V_iadd, m_add_eq, V_sal, V_aloadn3, V_istore6, V_aloadn2, V_istore7, V_iload6, U_laload, V_iload7, V_i2l, V_lcmp, T_9, T_10, s_97, V_aloadS, b_177_156, b_177_204, b_177_221, hw, hm, hA, hg])
    all_goals exact hK _ _
  ·
    repeat' first
      | (refine V_icmp_eq.mpr ?_; first | rw [if_pos (by omega)] | rw [if_neg (by omega)] | split)
      | (refine V_if_eq.mpr ?_; first | rw [if_pos (by omega)] | rw [if_neg (by omega)] | split)
      | (refine V_if_ne.mpr ?_; first | rw [if_pos (by omega)] | rw [if_neg (by omega)] | split)
      | (simp (disch := (first | omega | (simp (disch := omega) only [up_f, up_s, up_i, up_k, up_e]; omega))) only [up_f, up_s, up_i, up_k, up_e, V_iconst, V_bipush, V_sipush, V_conti, V_contn, V_goto, Option.some.injEq, exists_eq_left', true_and, and_true, m_fit, Option.isSome_some, List.map_nil, List.map_cons, List.sum_nil, List.sum_cons, List.all_nil, List.all_cons, m_cat, decide_true, Bool.and_true, Bool.true_and, Nat.zero_le, Int.toNat_natCast, Int.reduceAdd, Int.reduceSub, Int.reduceMul, Int.reduceNeg, Int.reduceLE, Int.reduceLT, Nat.reduceAdd, Nat.reduceLeDiff, Int.reduceToNat, Int.reduceEq, decide_eq_true_eq, true_or, or_true, exists_and_left, and_self, Nat.reduceMul, Nat.reduceSub, Nat.reduceLT, m_oa, Nat.reduceEqDiff, or_false, false_or, Sum.inl.injEq, Sum.inr.injEq, ↓reduceIte, ne_eq, not_false_eq_true, Int.reduceNe, exists_eq_left, D_177, R_177, X_177, I_177_94, I_177_99, I_177_100, J_177_199, J_177_206, J_177_216, J_177_221, V_aloadn1, V_aloadn0, V_iload5, V_iadd, m_add_eq, V_sal, V_aloadn3, V_istore6, V_aloadn2, V_istore7, V_iload6, U_laload, V_iload7, V_i2l, V_lcmp, T_9, T_10, s_97, V_aloadS, b_177_156, b_177_204, b_177_221, hw, hm])
    all_goals exact hK _ _
set_option maxRecDepth 20000 in
theorem case_1 {A T C P : Nat} {i : Int} {v6 v7 : MV} {Q : MOut → MHp → Prop} (hi : 0 ≤ i ∧ i + 8 < (L : Int)) (hL : (L : Int) ≤ 5000) (h : II S A T C P j e) (hj : j < 10000) (K : ∀ (S2 : Sg) (A T C P e2 : Nat) (v6 v7 : MV), II S2 A T C P (j + 1) e2 → m_ok xs L 177 b_177_1895 [vS, vR 0, vR 296, vR 341, vR 342, vI i, v6, v7] [] (mk S2 e2) Q) : m_ok xs L 177 b_177_224 [vS, vR 0, vR 296, vR 341, vR 342, vI i, v6, v7] [] (mk S e) Q := by
  obtain ⟨k, b, S1, e1, S2, A2, T2, C2, P2, hw, hm, hk, hb, ii⟩ := call_1 (xs := xs) (L := L) (a := (xs (i + 1).toNat).toInt) (d := (xs (i + 2).toNat).toInt) (q := (xs (i + 3).toNat).toInt) h hj
  have hK := fun v6 v7 => K S2 A2 T2 C2 P2 e1 v6 v7 ii
  by_cases hk0 : k = 0
  · have hA : m_age (mk S2 e1) 341 23 0 = some (vL (Int32.ofInt b).toInt64) := by rw [A_341, hb hk0, Int64.ofInt_toInt]
    have hg := lg_self (Int32.ofInt b).toInt64
    repeat' first
      | (refine V_icmp_eq.mpr ?_; first | rw [if_pos (by omega)] | rw [if_neg (by omega)] | split)
      | (refine V_if_eq.mpr ?_; first | rw [if_pos (by omega)] | rw [if_neg (by omega)] | split)
      | (refine V_if_ne.mpr ?_; first | rw [if_pos (by omega)] | rw [if_neg (by omega)] | split)
      | (simp (disch := (first | omega | (simp (disch := omega) only [up_f, up_s, up_i, up_k, up_e]; omega))) only [up_f, up_s, up_i, up_k, up_e, V_iconst, V_bipush, V_sipush, V_conti, V_contn, V_goto, Option.some.injEq, exists_eq_left', true_and, and_true, m_fit, Option.isSome_some, List.map_nil, List.map_cons, List.sum_nil, List.sum_cons, List.all_nil, List.all_cons, m_cat, decide_true, Bool.and_true, Bool.true_and, Nat.zero_le, Int.toNat_natCast, Int.reduceAdd, Int.reduceSub, Int.reduceMul, Int.reduceNeg, Int.reduceLE, Int.reduceLT, Nat.reduceAdd, Nat.reduceLeDiff, Int.reduceToNat, Int.reduceEq, decide_eq_true_eq, true_or, or_true, exists_and_left, and_self, Nat.reduceMul, Nat.reduceSub, Nat.reduceLT, m_oa, Nat.reduceEqDiff, or_false, false_or, Sum.inl.injEq, Sum.inr.injEq, ↓reduceIte, ne_eq, not_false_eq_true, Int.reduceNe, exists_eq_left, D_177, R_177, X_177, I_177_100, I_177_104, I_177_107, J_177_279, J_177_286, J_177_296, J_177_301, V_aloadn1, V_aloadn0, V_iload5, V_iadd, m_add_eq, V_sal, V_aloadn3, V_istore6, V_aloadn2, V_istore7, V_iload6, U_laload, V_iload7, V_i2l, V_lcmp, T_9, T_10, s_97, V_aloadS, b_177_224, b_177_284, b_177_301, hw, hm, hA, hg])
    all_goals exact hK _ _
  ·
    repeat' first
      | (refine V_icmp_eq.mpr ?_; first | rw [if_pos (by omega)] | rw [if_neg (by omega)] | split)
      | (refine V_if_eq.mpr ?_; first | rw [if_pos (by omega)] | rw [if_neg (by omega)] | split)
      | (refine V_if_ne.mpr ?_; first | rw [if_pos (by omega)] | rw [if_neg (by omega)] | split)
      | (simp (disch := (first | omega | (simp (disch := omega) only [up_f, up_s, up_i, up_k, up_e]; omega))) only [up_f, up_s, up_i, up_k, up_e, V_iconst, V_bipush, V_sipush, V_conti, V_contn, V_goto, Option.some.injEq, exists_eq_left', true_and, and_true, m_fit, Option.isSome_some, List.map_nil, List.map_cons, List.sum_nil, List.sum_cons, List.all_nil, List.all_cons, m_cat, decide_true, Bool.and_true, Bool.true_and, Nat.zero_le, Int.toNat_natCast, Int.reduceAdd, Int.reduceSub, Int.reduceMul, Int.reduceNeg, Int.reduceLE, Int.reduceLT, Nat.reduceAdd, Nat.reduceLeDiff, Int.reduceToNat, Int.reduceEq, decide_eq_true_eq, true_or, or_true, exists_and_left, and_self, Nat.reduceMul, Nat.reduceSub, Nat.reduceLT, m_oa, Nat.reduceEqDiff, or_false, false_or, Sum.inl.injEq, Sum.inr.injEq, ↓reduceIte, ne_eq, not_false_eq_true, Int.reduceNe, exists_eq_left, D_177, R_177, X_177, I_177_100, I_177_104, I_177_107, J_177_279, J_177_286, J_177_296, J_177_301, V_aloadn1, V_aloadn0, V_iload5, V_iadd, m_add_eq, V_sal, V_aloadn3, V_istore6, V_aloadn2, V_istore7, V_iload6, U_laload, V_iload7, V_i2l, V_lcmp, T_9, T_10, s_97, V_aloadS, b_177_224, b_177_284, b_177_301, hw, hm])
    all_goals exact hK _ _
set_option maxRecDepth 20000 in
theorem case_2 {A T C P : Nat} {i : Int} {v6 v7 : MV} {Q : MOut → MHp → Prop} (hi : 0 ≤ i ∧ i + 8 < (L : Int)) (hL : (L : Int) ≤ 5000) (h : II S A T C P j e) (hj : j < 10000) (K : ∀ (S2 : Sg) (A T C P e2 : Nat) (v6 v7 : MV), II S2 A T C P (j + 1) e2 → m_ok xs L 177 b_177_1895 [vS, vR 0, vR 296, vR 341, vR 342, vI i, v6, v7] [] (mk S2 e2) Q) : m_ok xs L 177 b_177_304 [vS, vR 0, vR 296, vR 341, vR 342, vI i, v6, v7] [] (mk S e) Q := by
  obtain ⟨k, b, S1, e1, S2, A2, T2, C2, P2, hw, hm, hk, hb, ii⟩ := call_2 (xs := xs) (L := L) (t := (xs (i + 1).toNat).toInt) (a := (xs (i + 2).toNat).toInt) (r := (xs (i + 3).toNat).toInt) (q := (xs (i + 4).toNat).toInt) (y := (xs (i + 5).toNat).toInt) h hj
  have hK := fun v6 v7 => K S2 A2 T2 C2 P2 e1 v6 v7 ii
  by_cases hk0 : k = 0
  · have hA : m_age (mk S2 e1) 341 23 0 = some (vL (Int32.ofInt b).toInt64) := by rw [A_341, hb hk0, Int64.ofInt_toInt]
    have hg := lg_self (Int32.ofInt b).toInt64
    repeat' first
      | (refine V_icmp_eq.mpr ?_; first | rw [if_pos (by omega)] | rw [if_neg (by omega)] | split)
      | (refine V_if_eq.mpr ?_; first | rw [if_pos (by omega)] | rw [if_neg (by omega)] | split)
      | (refine V_if_ne.mpr ?_; first | rw [if_pos (by omega)] | rw [if_neg (by omega)] | split)
      | (simp (disch := (first | omega | (simp (disch := omega) only [up_f, up_s, up_i, up_k, up_e]; omega))) only [up_f, up_s, up_i, up_k, up_e, V_iconst, V_bipush, V_sipush, V_conti, V_contn, V_goto, Option.some.injEq, exists_eq_left', true_and, and_true, m_fit, Option.isSome_some, List.map_nil, List.map_cons, List.sum_nil, List.sum_cons, List.all_nil, List.all_cons, m_cat, decide_true, Bool.and_true, Bool.true_and, Nat.zero_le, Int.toNat_natCast, Int.reduceAdd, Int.reduceSub, Int.reduceMul, Int.reduceNeg, Int.reduceLE, Int.reduceLT, Nat.reduceAdd, Nat.reduceLeDiff, Int.reduceToNat, Int.reduceEq, decide_eq_true_eq, true_or, or_true, exists_and_left, and_self, Nat.reduceMul, Nat.reduceSub, Nat.reduceLT, m_oa, Nat.reduceEqDiff, or_false, false_or, Sum.inl.injEq, Sum.inr.injEq, ↓reduceIte, ne_eq, not_false_eq_true, Int.reduceNe, exists_eq_left, D_177, R_177, X_177, I_177_100, I_177_108, I_177_111, J_177_383, J_177_390, J_177_400, J_177_405, V_aloadn1, V_aloadn0, V_iload5, V_iadd, m_add_eq, V_sal, V_aloadn3, V_istore6, V_aloadn2, V_istore7, V_iload6, U_laload, V_iload7, V_i2l, V_lcmp, T_9, T_10, s_97, V_aloadS, b_177_304, b_177_388, b_177_405, hw, hm, hA, hg])
    all_goals exact hK _ _
  ·
    repeat' first
      | (refine V_icmp_eq.mpr ?_; first | rw [if_pos (by omega)] | rw [if_neg (by omega)] | split)
      | (refine V_if_eq.mpr ?_; first | rw [if_pos (by omega)] | rw [if_neg (by omega)] | split)
      | (refine V_if_ne.mpr ?_; first | rw [if_pos (by omega)] | rw [if_neg (by omega)] | split)
      | (simp (disch := (first | omega | (simp (disch := omega) only [up_f, up_s, up_i, up_k, up_e]; omega))) only [up_f, up_s, up_i, up_k, up_e, V_iconst, V_bipush, V_sipush, V_conti, V_contn, V_goto, Option.some.injEq, exists_eq_left', true_and, and_true, m_fit, Option.isSome_some, List.map_nil, List.map_cons, List.sum_nil, List.sum_cons, List.all_nil, List.all_cons, m_cat, decide_true, Bool.and_true, Bool.true_and, Nat.zero_le, Int.toNat_natCast, Int.reduceAdd, Int.reduceSub, Int.reduceMul, Int.reduceNeg, Int.reduceLE, Int.reduceLT, Nat.reduceAdd, Nat.reduceLeDiff, Int.reduceToNat, Int.reduceEq, decide_eq_true_eq, true_or, or_true, exists_and_left, and_self, Nat.reduceMul, Nat.reduceSub, Nat.reduceLT, m_oa, Nat.reduceEqDiff, or_false, false_or, Sum.inl.injEq, Sum.inr.injEq, ↓reduceIte, ne_eq, not_false_eq_true, Int.reduceNe, exists_eq_left, D_177, R_177, X_177, I_177_100, I_177_108, I_177_111, J_177_383, J_177_390, J_177_400, J_177_405, V_aloadn1, V_aloadn0, V_iload5, V_iadd, m_add_eq, V_sal, V_aloadn3, V_istore6, V_aloadn2, V_istore7, V_iload6, U_laload, V_iload7, V_i2l, V_lcmp, T_9, T_10, s_97, V_aloadS, b_177_304, b_177_388, b_177_405, hw, hm])
    all_goals exact hK _ _
set_option maxRecDepth 20000 in
theorem case_3 {A T C P : Nat} {i : Int} {v6 v7 : MV} {Q : MOut → MHp → Prop} (hi : 0 ≤ i ∧ i + 8 < (L : Int)) (hL : (L : Int) ≤ 5000) (h : II S A T C P j e) (hj : j < 10000) (K : ∀ (S2 : Sg) (A T C P e2 : Nat) (v6 v7 : MV), II S2 A T C P (j + 1) e2 → m_ok xs L 177 b_177_1895 [vS, vR 0, vR 296, vR 341, vR 342, vI i, v6, v7] [] (mk S2 e2) Q) : m_ok xs L 177 b_177_408 [vS, vR 0, vR 296, vR 341, vR 342, vI i, v6, v7] [] (mk S e) Q := by
  obtain ⟨k, b, S1, e1, S2, A2, T2, C2, P2, hw, hm, hk, hb, ii⟩ := call_3 (xs := xs) (L := L) (t := (xs (i + 1).toNat).toInt) (v := (xs (i + 2).toNat).toInt) h hj
  have hK := fun v6 v7 => K S2 A2 T2 C2 P2 e1 v6 v7 ii
  by_cases hk0 : k = 0
  · have hA : m_age (mk S2 e1) 341 23 0 = some (vL (Int32.ofInt b).toInt64) := by rw [A_341, hb hk0, Int64.ofInt_toInt]
    have hg := lg_self (Int32.ofInt b).toInt64
    repeat' first
      | (refine V_icmp_eq.mpr ?_; first | rw [if_pos (by omega)] | rw [if_neg (by omega)] | split)
      | (refine V_if_eq.mpr ?_; first | rw [if_pos (by omega)] | rw [if_neg (by omega)] | split)
      | (refine V_if_ne.mpr ?_; first | rw [if_pos (by omega)] | rw [if_neg (by omega)] | split)
      | (simp (disch := (first | omega | (simp (disch := omega) only [up_f, up_s, up_i, up_k, up_e]; omega))) only [up_f, up_s, up_i, up_k, up_e, V_iconst, V_bipush, V_sipush, V_conti, V_contn, V_goto, Option.some.injEq, exists_eq_left', true_and, and_true, m_fit, Option.isSome_some, List.map_nil, List.map_cons, List.sum_nil, List.sum_cons, List.all_nil, List.all_cons, m_cat, decide_true, Bool.and_true, Bool.true_and, Nat.zero_le, Int.toNat_natCast, Int.reduceAdd, Int.reduceSub, Int.reduceMul, Int.reduceNeg, Int.reduceLE, Int.reduceLT, Nat.reduceAdd, Nat.reduceLeDiff, Int.reduceToNat, Int.reduceEq, decide_eq_true_eq, true_or, or_true, exists_and_left, and_self, Nat.reduceMul, Nat.reduceSub, Nat.reduceLT, m_oa, Nat.reduceEqDiff, or_false, false_or, Sum.inl.injEq, Sum.inr.injEq, ↓reduceIte, ne_eq, not_false_eq_true, Int.reduceNe, exists_eq_left, D_177, R_177, X_177, I_177_100, I_177_112, I_177_114, J_177_451, J_177_458, J_177_468, J_177_473, V_aloadn1, V_aloadn0, V_iload5, V_iadd, m_add_eq, V_sal, V_aloadn3, V_istore6, V_aloadn2, V_istore7, V_iload6, U_laload, V_iload7, V_i2l, V_lcmp, T_9, T_10, s_97, V_aloadS, b_177_408, b_177_456, b_177_473, hw, hm, hA, hg])
    all_goals exact hK _ _
  ·
    repeat' first
      | (refine V_icmp_eq.mpr ?_; first | rw [if_pos (by omega)] | rw [if_neg (by omega)] | split)
      | (refine V_if_eq.mpr ?_; first | rw [if_pos (by omega)] | rw [if_neg (by omega)] | split)
      | (refine V_if_ne.mpr ?_; first | rw [if_pos (by omega)] | rw [if_neg (by omega)] | split)
      | (simp (disch := (first | omega | (simp (disch := omega) only [up_f, up_s, up_i, up_k, up_e]; omega))) only [up_f, up_s, up_i, up_k, up_e, V_iconst, V_bipush, V_sipush, V_conti, V_contn, V_goto, Option.some.injEq, exists_eq_left', true_and, and_true, m_fit, Option.isSome_some, List.map_nil, List.map_cons, List.sum_nil, List.sum_cons, List.all_nil, List.all_cons, m_cat, decide_true, Bool.and_true, Bool.true_and, Nat.zero_le, Int.toNat_natCast, Int.reduceAdd, Int.reduceSub, Int.reduceMul, Int.reduceNeg, Int.reduceLE, Int.reduceLT, Nat.reduceAdd, Nat.reduceLeDiff, Int.reduceToNat, Int.reduceEq, decide_eq_true_eq, true_or, or_true, exists_and_left, and_self, Nat.reduceMul, Nat.reduceSub, Nat.reduceLT, m_oa, Nat.reduceEqDiff, or_false, false_or, Sum.inl.injEq, Sum.inr.injEq, ↓reduceIte, ne_eq, not_false_eq_true, Int.reduceNe, exists_eq_left, D_177, R_177, X_177, I_177_100, I_177_112, I_177_114, J_177_451, J_177_458, J_177_468, J_177_473, V_aloadn1, V_aloadn0, V_iload5, V_iadd, m_add_eq, V_sal, V_aloadn3, V_istore6, V_aloadn2, V_istore7, V_iload6, U_laload, V_iload7, V_i2l, V_lcmp, T_9, T_10, s_97, V_aloadS, b_177_408, b_177_456, b_177_473, hw, hm])
    all_goals exact hK _ _
set_option maxRecDepth 20000 in
theorem case_4 {A T C P : Nat} {i : Int} {v6 v7 : MV} {Q : MOut → MHp → Prop} (hi : 0 ≤ i ∧ i + 8 < (L : Int)) (hL : (L : Int) ≤ 5000) (h : II S A T C P j e) (hj : j < 10000) (K : ∀ (S2 : Sg) (A T C P e2 : Nat) (v6 v7 : MV), II S2 A T C P (j + 1) e2 → m_ok xs L 177 b_177_1895 [vS, vR 0, vR 296, vR 341, vR 342, vI i, v6, v7] [] (mk S2 e2) Q) : m_ok xs L 177 b_177_476 [vS, vR 0, vR 296, vR 341, vR 342, vI i, v6, v7] [] (mk S e) Q := by
  obtain ⟨k, b, S1, e1, S2, A2, T2, C2, P2, hw, hm, hk, hb, ii⟩ := call_4 (xs := xs) (L := L) (t := (xs (i + 1).toNat).toInt) (k := (xs (i + 2).toNat).toInt) (v := (xs (i + 3).toNat).toInt) h hj
  have hK := fun v6 v7 => K S2 A2 T2 C2 P2 e1 v6 v7 ii
  by_cases hk0 : k = 0
  · have hA : m_age (mk S2 e1) 341 23 0 = some (vL (Int32.ofInt b).toInt64) := by rw [A_341, hb hk0, Int64.ofInt_toInt]
    have hg := lg_self (Int32.ofInt b).toInt64
    repeat' first
      | (refine V_icmp_eq.mpr ?_; first | rw [if_pos (by omega)] | rw [if_neg (by omega)] | split)
      | (refine V_if_eq.mpr ?_; first | rw [if_pos (by omega)] | rw [if_neg (by omega)] | split)
      | (refine V_if_ne.mpr ?_; first | rw [if_pos (by omega)] | rw [if_neg (by omega)] | split)
      | (simp (disch := (first | omega | (simp (disch := omega) only [up_f, up_s, up_i, up_k, up_e]; omega))) only [up_f, up_s, up_i, up_k, up_e, V_iconst, V_bipush, V_sipush, V_conti, V_contn, V_goto, Option.some.injEq, exists_eq_left', true_and, and_true, m_fit, Option.isSome_some, List.map_nil, List.map_cons, List.sum_nil, List.sum_cons, List.all_nil, List.all_cons, m_cat, decide_true, Bool.and_true, Bool.true_and, Nat.zero_le, Int.toNat_natCast, Int.reduceAdd, Int.reduceSub, Int.reduceMul, Int.reduceNeg, Int.reduceLE, Int.reduceLT, Nat.reduceAdd, Nat.reduceLeDiff, Int.reduceToNat, Int.reduceEq, decide_eq_true_eq, true_or, or_true, exists_and_left, and_self, Nat.reduceMul, Nat.reduceSub, Nat.reduceLT, m_oa, Nat.reduceEqDiff, or_false, false_or, Sum.inl.injEq, Sum.inr.injEq, ↓reduceIte, ne_eq, not_false_eq_true, Int.reduceNe, exists_eq_left, D_177, R_177, X_177, I_177_100, I_177_115, I_177_117, J_177_531, J_177_538, J_177_548, J_177_553, V_aloadn1, V_aloadn0, V_iload5, V_iadd, m_add_eq, V_sal, V_aloadn3, V_istore6, V_aloadn2, V_istore7, V_iload6, U_laload, V_iload7, V_i2l, V_lcmp, T_9, T_10, s_97, V_aloadS, b_177_476, b_177_536, b_177_553, hw, hm, hA, hg])
    all_goals exact hK _ _
  ·
    repeat' first
      | (refine V_icmp_eq.mpr ?_; first | rw [if_pos (by omega)] | rw [if_neg (by omega)] | split)
      | (refine V_if_eq.mpr ?_; first | rw [if_pos (by omega)] | rw [if_neg (by omega)] | split)
      | (refine V_if_ne.mpr ?_; first | rw [if_pos (by omega)] | rw [if_neg (by omega)] | split)
      | (simp (disch := (first | omega | (simp (disch := omega) only [up_f, up_s, up_i, up_k, up_e]; omega))) only [up_f, up_s, up_i, up_k, up_e, V_iconst, V_bipush, V_sipush, V_conti, V_contn, V_goto, Option.some.injEq, exists_eq_left', true_and, and_true, m_fit, Option.isSome_some, List.map_nil, List.map_cons, List.sum_nil, List.sum_cons, List.all_nil, List.all_cons, m_cat, decide_true, Bool.and_true, Bool.true_and, Nat.zero_le, Int.toNat_natCast, Int.reduceAdd, Int.reduceSub, Int.reduceMul, Int.reduceNeg, Int.reduceLE, Int.reduceLT, Nat.reduceAdd, Nat.reduceLeDiff, Int.reduceToNat, Int.reduceEq, decide_eq_true_eq, true_or, or_true, exists_and_left, and_self, Nat.reduceMul, Nat.reduceSub, Nat.reduceLT, m_oa, Nat.reduceEqDiff, or_false, false_or, Sum.inl.injEq, Sum.inr.injEq, ↓reduceIte, ne_eq, not_false_eq_true, Int.reduceNe, exists_eq_left, D_177, R_177, X_177, I_177_100, I_177_115, I_177_117, J_177_531, J_177_538, J_177_548, J_177_553, V_aloadn1, V_aloadn0, V_iload5, V_iadd, m_add_eq, V_sal, V_aloadn3, V_istore6, V_aloadn2, V_istore7, V_iload6, U_laload, V_iload7, V_i2l, V_lcmp, T_9, T_10, s_97, V_aloadS, b_177_476, b_177_536, b_177_553, hw, hm])
    all_goals exact hK _ _
set_option maxRecDepth 20000 in
theorem case_6 {A T C P : Nat} {i : Int} {v6 v7 : MV} {Q : MOut → MHp → Prop} (hi : 0 ≤ i ∧ i + 8 < (L : Int)) (hL : (L : Int) ≤ 5000) (h : II S A T C P j e) (hj : j < 10000) (K : ∀ (S2 : Sg) (A T C P e2 : Nat) (v6 v7 : MV), II S2 A T C P (j + 1) e2 → m_ok xs L 177 b_177_1895 [vS, vR 0, vR 296, vR 341, vR 342, vI i, v6, v7] [] (mk S2 e2) Q) : m_ok xs L 177 b_177_704 [vS, vR 0, vR 296, vR 341, vR 342, vI i, v6, v7] [] (mk S e) Q := by
  obtain ⟨k, b, S1, e1, S2, A2, T2, C2, P2, hw, hm, hk, hb, ii⟩ := call_6 (xs := xs) (L := L) (c := (xs (i + 1).toNat).toInt) (t := (xs (i + 2).toNat).toInt) (a := (xs (i + 3).toNat).toInt) h hj
  have hK := fun v6 v7 => K S2 A2 T2 C2 P2 e1 v6 v7 ii
  by_cases hk0 : k = 0
  · have hA : m_age (mk S2 e1) 341 23 0 = some (vL (Int32.ofInt b).toInt64) := by rw [A_341, hb hk0, Int64.ofInt_toInt]
    have hg := lg_self (Int32.ofInt b).toInt64
    repeat' first
      | (refine V_icmp_eq.mpr ?_; first | rw [if_pos (by omega)] | rw [if_neg (by omega)] | split)
      | (refine V_if_eq.mpr ?_; first | rw [if_pos (by omega)] | rw [if_neg (by omega)] | split)
      | (refine V_if_ne.mpr ?_; first | rw [if_pos (by omega)] | rw [if_neg (by omega)] | split)
      | (simp (disch := (first | omega | (simp (disch := omega) only [up_f, up_s, up_i, up_k, up_e]; omega))) only [up_f, up_s, up_i, up_k, up_e, V_iconst, V_bipush, V_sipush, V_conti, V_contn, V_goto, Option.some.injEq, exists_eq_left', true_and, and_true, m_fit, Option.isSome_some, List.map_nil, List.map_cons, List.sum_nil, List.sum_cons, List.all_nil, List.all_cons, m_cat, decide_true, Bool.and_true, Bool.true_and, Nat.zero_le, Int.toNat_natCast, Int.reduceAdd, Int.reduceSub, Int.reduceMul, Int.reduceNeg, Int.reduceLE, Int.reduceLT, Nat.reduceAdd, Nat.reduceLeDiff, Int.reduceToNat, Int.reduceEq, decide_eq_true_eq, true_or, or_true, exists_and_left, and_self, Nat.reduceMul, Nat.reduceSub, Nat.reduceLT, m_oa, Nat.reduceEqDiff, or_false, false_or, Sum.inl.injEq, Sum.inr.injEq, ↓reduceIte, ne_eq, not_false_eq_true, Int.reduceNe, exists_eq_left, D_177, R_177, X_177, I_177_100, I_177_122, I_177_124, J_177_759, J_177_766, J_177_776, J_177_781, V_aloadn1, V_aloadn0, V_iload5, V_iadd, m_add_eq, V_sal, V_aloadn3, V_istore6, V_aloadn2, V_istore7, V_iload6, U_laload, V_iload7, V_i2l, V_lcmp, T_9, T_10, s_97, V_aloadS, b_177_704, b_177_764, b_177_781, hw, hm, hA, hg])
    all_goals exact hK _ _
  ·
    repeat' first
      | (refine V_icmp_eq.mpr ?_; first | rw [if_pos (by omega)] | rw [if_neg (by omega)] | split)
      | (refine V_if_eq.mpr ?_; first | rw [if_pos (by omega)] | rw [if_neg (by omega)] | split)
      | (refine V_if_ne.mpr ?_; first | rw [if_pos (by omega)] | rw [if_neg (by omega)] | split)
      | (simp (disch := (first | omega | (simp (disch := omega) only [up_f, up_s, up_i, up_k, up_e]; omega))) only [up_f, up_s, up_i, up_k, up_e, V_iconst, V_bipush, V_sipush, V_conti, V_contn, V_goto, Option.some.injEq, exists_eq_left', true_and, and_true, m_fit, Option.isSome_some, List.map_nil, List.map_cons, List.sum_nil, List.sum_cons, List.all_nil, List.all_cons, m_cat, decide_true, Bool.and_true, Bool.true_and, Nat.zero_le, Int.toNat_natCast, Int.reduceAdd, Int.reduceSub, Int.reduceMul, Int.reduceNeg, Int.reduceLE, Int.reduceLT, Nat.reduceAdd, Nat.reduceLeDiff, Int.reduceToNat, Int.reduceEq, decide_eq_true_eq, true_or, or_true, exists_and_left, and_self, Nat.reduceMul, Nat.reduceSub, Nat.reduceLT, m_oa, Nat.reduceEqDiff, or_false, false_or, Sum.inl.injEq, Sum.inr.injEq, ↓reduceIte, ne_eq, not_false_eq_true, Int.reduceNe, exists_eq_left, D_177, R_177, X_177, I_177_100, I_177_122, I_177_124, J_177_759, J_177_766, J_177_776, J_177_781, V_aloadn1, V_aloadn0, V_iload5, V_iadd, m_add_eq, V_sal, V_aloadn3, V_istore6, V_aloadn2, V_istore7, V_iload6, U_laload, V_iload7, V_i2l, V_lcmp, T_9, T_10, s_97, V_aloadS, b_177_704, b_177_764, b_177_781, hw, hm])
    all_goals exact hK _ _
set_option maxRecDepth 20000 in
theorem case_7 {A T C P : Nat} {i : Int} {v6 v7 : MV} {Q : MOut → MHp → Prop} (hi : 0 ≤ i ∧ i + 8 < (L : Int)) (hL : (L : Int) ≤ 5000) (h : II S A T C P j e) (hj : j < 10000) (K : ∀ (S2 : Sg) (A T C P e2 : Nat) (v6 v7 : MV), II S2 A T C P (j + 1) e2 → m_ok xs L 177 b_177_1895 [vS, vR 0, vR 296, vR 341, vR 342, vI i, v6, v7] [] (mk S2 e2) Q) : m_ok xs L 177 b_177_784 [vS, vR 0, vR 296, vR 341, vR 342, vI i, v6, v7] [] (mk S e) Q := by
  obtain ⟨k, b, S1, e1, S2, A2, T2, C2, P2, hw, hm, hk, hb, ii⟩ := call_7 (xs := xs) (L := L) (c := (xs (i + 1).toNat).toInt) h hj
  have hK := fun v6 v7 => K S2 A2 T2 C2 P2 e1 v6 v7 ii
  by_cases hk0 : k = 0
  · have hA : m_age (mk S2 e1) 341 23 0 = some (vL (Int32.ofInt b).toInt64) := by rw [A_341, hb hk0, Int64.ofInt_toInt]
    have hg := lg_self (Int32.ofInt b).toInt64
    repeat' first
      | (refine V_icmp_eq.mpr ?_; first | rw [if_pos (by omega)] | rw [if_neg (by omega)] | split)
      | (refine V_if_eq.mpr ?_; first | rw [if_pos (by omega)] | rw [if_neg (by omega)] | split)
      | (refine V_if_ne.mpr ?_; first | rw [if_pos (by omega)] | rw [if_neg (by omega)] | split)
      | (simp (disch := (first | omega | (simp (disch := omega) only [up_f, up_s, up_i, up_k, up_e]; omega))) only [up_f, up_s, up_i, up_k, up_e, V_iconst, V_bipush, V_sipush, V_conti, V_contn, V_goto, Option.some.injEq, exists_eq_left', true_and, and_true, m_fit, Option.isSome_some, List.map_nil, List.map_cons, List.sum_nil, List.sum_cons, List.all_nil, List.all_cons, m_cat, decide_true, Bool.and_true, Bool.true_and, Nat.zero_le, Int.toNat_natCast, Int.reduceAdd, Int.reduceSub, Int.reduceMul, Int.reduceNeg, Int.reduceLE, Int.reduceLT, Nat.reduceAdd, Nat.reduceLeDiff, Int.reduceToNat, Int.reduceEq, decide_eq_true_eq, true_or, or_true, exists_and_left, and_self, Nat.reduceMul, Nat.reduceSub, Nat.reduceLT, m_oa, Nat.reduceEqDiff, or_false, false_or, Sum.inl.injEq, Sum.inr.injEq, ↓reduceIte, ne_eq, not_false_eq_true, Int.reduceNe, exists_eq_left, D_177, R_177, X_177, I_177_100, I_177_125, I_177_128, J_177_815, J_177_822, J_177_832, J_177_837, V_aloadn1, V_aloadn0, V_iload5, V_iadd, m_add_eq, V_sal, V_aloadn3, V_istore6, V_aloadn2, V_istore7, V_iload6, U_laload, V_iload7, V_i2l, V_lcmp, T_9, T_10, s_97, V_aloadS, b_177_784, b_177_820, b_177_837, hw, hm, hA, hg])
    all_goals exact hK _ _
  ·
    repeat' first
      | (refine V_icmp_eq.mpr ?_; first | rw [if_pos (by omega)] | rw [if_neg (by omega)] | split)
      | (refine V_if_eq.mpr ?_; first | rw [if_pos (by omega)] | rw [if_neg (by omega)] | split)
      | (refine V_if_ne.mpr ?_; first | rw [if_pos (by omega)] | rw [if_neg (by omega)] | split)
      | (simp (disch := (first | omega | (simp (disch := omega) only [up_f, up_s, up_i, up_k, up_e]; omega))) only [up_f, up_s, up_i, up_k, up_e, V_iconst, V_bipush, V_sipush, V_conti, V_contn, V_goto, Option.some.injEq, exists_eq_left', true_and, and_true, m_fit, Option.isSome_some, List.map_nil, List.map_cons, List.sum_nil, List.sum_cons, List.all_nil, List.all_cons, m_cat, decide_true, Bool.and_true, Bool.true_and, Nat.zero_le, Int.toNat_natCast, Int.reduceAdd, Int.reduceSub, Int.reduceMul, Int.reduceNeg, Int.reduceLE, Int.reduceLT, Nat.reduceAdd, Nat.reduceLeDiff, Int.reduceToNat, Int.reduceEq, decide_eq_true_eq, true_or, or_true, exists_and_left, and_self, Nat.reduceMul, Nat.reduceSub, Nat.reduceLT, m_oa, Nat.reduceEqDiff, or_false, false_or, Sum.inl.injEq, Sum.inr.injEq, ↓reduceIte, ne_eq, not_false_eq_true, Int.reduceNe, exists_eq_left, D_177, R_177, X_177, I_177_100, I_177_125, I_177_128, J_177_815, J_177_822, J_177_832, J_177_837, V_aloadn1, V_aloadn0, V_iload5, V_iadd, m_add_eq, V_sal, V_aloadn3, V_istore6, V_aloadn2, V_istore7, V_iload6, U_laload, V_iload7, V_i2l, V_lcmp, T_9, T_10, s_97, V_aloadS, b_177_784, b_177_820, b_177_837, hw, hm])
    all_goals exact hK _ _
set_option maxRecDepth 20000 in
theorem case_9 {A T C P : Nat} {i : Int} {v6 v7 : MV} {Q : MOut → MHp → Prop} (hi : 0 ≤ i ∧ i + 8 < (L : Int)) (hL : (L : Int) ≤ 5000) (h : II S A T C P j e) (hj : j < 10000) (K : ∀ (S2 : Sg) (A T C P e2 : Nat) (v6 v7 : MV), II S2 A T C P (j + 1) e2 → m_ok xs L 177 b_177_1895 [vS, vR 0, vR 296, vR 341, vR 342, vI i, v6, v7] [] (mk S2 e2) Q) : m_ok xs L 177 b_177_948 [vS, vR 0, vR 296, vR 341, vR 342, vI i, v6, v7] [] (mk S e) Q := by
  obtain ⟨k, b, S1, e1, S2, A2, T2, C2, P2, hw, hm, hk, hb, ii⟩ := call_9 (xs := xs) (L := L) (i := (xs (i + 1).toNat).toInt) h
  have hK := fun v6 v7 => K S2 A2 T2 C2 P2 e1 v6 v7 ii
  by_cases hk0 : k = 0
  · have hA : m_age (mk S2 e1) 341 23 0 = some (vL (Int32.ofInt b).toInt64) := by rw [A_341, hb hk0, Int64.ofInt_toInt]
    have hg := lg_self (Int32.ofInt b).toInt64
    repeat' first
      | (refine V_icmp_eq.mpr ?_; first | rw [if_pos (by omega)] | rw [if_neg (by omega)] | split)
      | (refine V_if_eq.mpr ?_; first | rw [if_pos (by omega)] | rw [if_neg (by omega)] | split)
      | (refine V_if_ne.mpr ?_; first | rw [if_pos (by omega)] | rw [if_neg (by omega)] | split)
      | (simp (disch := (first | omega | (simp (disch := omega) only [up_f, up_s, up_i, up_k, up_e]; omega))) only [up_f, up_s, up_i, up_k, up_e, V_iconst, V_bipush, V_sipush, V_conti, V_contn, V_goto, Option.some.injEq, exists_eq_left', true_and, and_true, m_fit, Option.isSome_some, List.map_nil, List.map_cons, List.sum_nil, List.sum_cons, List.all_nil, List.all_cons, m_cat, decide_true, Bool.and_true, Bool.true_and, Nat.zero_le, Int.toNat_natCast, Int.reduceAdd, Int.reduceSub, Int.reduceMul, Int.reduceNeg, Int.reduceLE, Int.reduceLT, Nat.reduceAdd, Nat.reduceLeDiff, Int.reduceToNat, Int.reduceEq, decide_eq_true_eq, true_or, or_true, exists_and_left, and_self, Nat.reduceMul, Nat.reduceSub, Nat.reduceLT, m_oa, Nat.reduceEqDiff, or_false, false_or, Sum.inl.injEq, Sum.inr.injEq, ↓reduceIte, ne_eq, not_false_eq_true, Int.reduceNe, exists_eq_left, D_177, R_177, X_177, I_177_100, I_177_133, I_177_135, J_177_979, J_177_986, J_177_996, J_177_1001, V_aloadn1, V_aloadn0, V_iload5, V_iadd, m_add_eq, V_sal, V_aloadn3, V_istore6, V_aloadn2, V_istore7, V_iload6, U_laload, V_iload7, V_i2l, V_lcmp, T_9, T_10, s_97, V_aloadS, b_177_948, b_177_984, b_177_1001, hw, hm, hA, hg])
    all_goals exact hK _ _
  ·
    repeat' first
      | (refine V_icmp_eq.mpr ?_; first | rw [if_pos (by omega)] | rw [if_neg (by omega)] | split)
      | (refine V_if_eq.mpr ?_; first | rw [if_pos (by omega)] | rw [if_neg (by omega)] | split)
      | (refine V_if_ne.mpr ?_; first | rw [if_pos (by omega)] | rw [if_neg (by omega)] | split)
      | (simp (disch := (first | omega | (simp (disch := omega) only [up_f, up_s, up_i, up_k, up_e]; omega))) only [up_f, up_s, up_i, up_k, up_e, V_iconst, V_bipush, V_sipush, V_conti, V_contn, V_goto, Option.some.injEq, exists_eq_left', true_and, and_true, m_fit, Option.isSome_some, List.map_nil, List.map_cons, List.sum_nil, List.sum_cons, List.all_nil, List.all_cons, m_cat, decide_true, Bool.and_true, Bool.true_and, Nat.zero_le, Int.toNat_natCast, Int.reduceAdd, Int.reduceSub, Int.reduceMul, Int.reduceNeg, Int.reduceLE, Int.reduceLT, Nat.reduceAdd, Nat.reduceLeDiff, Int.reduceToNat, Int.reduceEq, decide_eq_true_eq, true_or, or_true, exists_and_left, and_self, Nat.reduceMul, Nat.reduceSub, Nat.reduceLT, m_oa, Nat.reduceEqDiff, or_false, false_or, Sum.inl.injEq, Sum.inr.injEq, ↓reduceIte, ne_eq, not_false_eq_true, Int.reduceNe, exists_eq_left, D_177, R_177, X_177, I_177_100, I_177_133, I_177_135, J_177_979, J_177_986, J_177_996, J_177_1001, V_aloadn1, V_aloadn0, V_iload5, V_iadd, m_add_eq, V_sal, V_aloadn3, V_istore6, V_aloadn2, V_istore7, V_iload6, U_laload, V_iload7, V_i2l, V_lcmp, T_9, T_10, s_97, V_aloadS, b_177_948, b_177_984, b_177_1001, hw, hm])
    all_goals exact hK _ _
set_option maxRecDepth 20000 in
theorem case_11 {A T C P : Nat} {i : Int} {v6 v7 : MV} {Q : MOut → MHp → Prop} (hi : 0 ≤ i ∧ i + 8 < (L : Int)) (hL : (L : Int) ≤ 5000) (h : II S A T C P j e) (hj : j < 10000) (K : ∀ (S2 : Sg) (A T C P e2 : Nat) (v6 v7 : MV), II S2 A T C P (j + 1) e2 → m_ok xs L 177 b_177_1895 [vS, vR 0, vR 296, vR 341, vR 342, vI i, v6, v7] [] (mk S2 e2) Q) : m_ok xs L 177 b_177_1052 [vS, vR 0, vR 296, vR 341, vR 342, vI i, v6, v7] [] (mk S e) Q := by
  obtain ⟨k, b, S1, e1, S2, A2, T2, C2, P2, hw, hm, hk, hb, ii⟩ := call_11 (xs := xs) (L := L) (a := (xs (i + 1).toNat).toInt) (b := (xs (i + 2).toNat).toInt) h
  have hK := fun v6 v7 => K S2 A2 T2 C2 P2 e1 v6 v7 ii
  by_cases hk0 : k = 0
  · have hA : m_age (mk S2 e1) 341 23 0 = some (vL (Int32.ofInt b).toInt64) := by rw [A_341, hb hk0, Int64.ofInt_toInt]
    have hg := lg_self (Int32.ofInt b).toInt64
    repeat' first
      | (refine V_icmp_eq.mpr ?_; first | rw [if_pos (by omega)] | rw [if_neg (by omega)] | split)
      | (refine V_if_eq.mpr ?_; first | rw [if_pos (by omega)] | rw [if_neg (by omega)] | split)
      | (refine V_if_ne.mpr ?_; first | rw [if_pos (by omega)] | rw [if_neg (by omega)] | split)
      | (simp (disch := (first | omega | (simp (disch := omega) only [up_f, up_s, up_i, up_k, up_e]; omega))) only [up_f, up_s, up_i, up_k, up_e, V_iconst, V_bipush, V_sipush, V_conti, V_contn, V_goto, Option.some.injEq, exists_eq_left', true_and, and_true, m_fit, Option.isSome_some, List.map_nil, List.map_cons, List.sum_nil, List.sum_cons, List.all_nil, List.all_cons, m_cat, decide_true, Bool.and_true, Bool.true_and, Nat.zero_le, Int.toNat_natCast, Int.reduceAdd, Int.reduceSub, Int.reduceMul, Int.reduceNeg, Int.reduceLE, Int.reduceLT, Nat.reduceAdd, Nat.reduceLeDiff, Int.reduceToNat, Int.reduceEq, decide_eq_true_eq, true_or, or_true, exists_and_left, and_self, Nat.reduceMul, Nat.reduceSub, Nat.reduceLT, m_oa, Nat.reduceEqDiff, or_false, false_or, Sum.inl.injEq, Sum.inr.injEq, ↓reduceIte, ne_eq, not_false_eq_true, Int.reduceNe, exists_eq_left, D_177, R_177, X_177, I_177_100, I_177_140, I_177_142, J_177_1095, J_177_1102, J_177_1112, J_177_1117, V_aloadn1, V_aloadn0, V_iload5, V_iadd, m_add_eq, V_sal, V_aloadn3, V_istore6, V_aloadn2, V_istore7, V_iload6, U_laload, V_iload7, V_i2l, V_lcmp, T_9, T_10, s_97, V_aloadS, b_177_1052, b_177_1100, b_177_1117, hw, hm, hA, hg])
    all_goals exact hK _ _
  ·
    repeat' first
      | (refine V_icmp_eq.mpr ?_; first | rw [if_pos (by omega)] | rw [if_neg (by omega)] | split)
      | (refine V_if_eq.mpr ?_; first | rw [if_pos (by omega)] | rw [if_neg (by omega)] | split)
      | (refine V_if_ne.mpr ?_; first | rw [if_pos (by omega)] | rw [if_neg (by omega)] | split)
      | (simp (disch := (first | omega | (simp (disch := omega) only [up_f, up_s, up_i, up_k, up_e]; omega))) only [up_f, up_s, up_i, up_k, up_e, V_iconst, V_bipush, V_sipush, V_conti, V_contn, V_goto, Option.some.injEq, exists_eq_left', true_and, and_true, m_fit, Option.isSome_some, List.map_nil, List.map_cons, List.sum_nil, List.sum_cons, List.all_nil, List.all_cons, m_cat, decide_true, Bool.and_true, Bool.true_and, Nat.zero_le, Int.toNat_natCast, Int.reduceAdd, Int.reduceSub, Int.reduceMul, Int.reduceNeg, Int.reduceLE, Int.reduceLT, Nat.reduceAdd, Nat.reduceLeDiff, Int.reduceToNat, Int.reduceEq, decide_eq_true_eq, true_or, or_true, exists_and_left, and_self, Nat.reduceMul, Nat.reduceSub, Nat.reduceLT, m_oa, Nat.reduceEqDiff, or_false, false_or, Sum.inl.injEq, Sum.inr.injEq, ↓reduceIte, ne_eq, not_false_eq_true, Int.reduceNe, exists_eq_left, D_177, R_177, X_177, I_177_100, I_177_140, I_177_142, J_177_1095, J_177_1102, J_177_1112, J_177_1117, V_aloadn1, V_aloadn0, V_iload5, V_iadd, m_add_eq, V_sal, V_aloadn3, V_istore6, V_aloadn2, V_istore7, V_iload6, U_laload, V_iload7, V_i2l, V_lcmp, T_9, T_10, s_97, V_aloadS, b_177_1052, b_177_1100, b_177_1117, hw, hm])
    all_goals exact hK _ _
set_option maxRecDepth 20000 in
theorem case_12 {A T C P : Nat} {i : Int} {v6 v7 : MV} {Q : MOut → MHp → Prop} (hi : 0 ≤ i ∧ i + 8 < (L : Int)) (hL : (L : Int) ≤ 5000) (h : II S A T C P j e) (hj : j < 10000) (K : ∀ (S2 : Sg) (A T C P e2 : Nat) (v6 v7 : MV), II S2 A T C P (j + 1) e2 → m_ok xs L 177 b_177_1895 [vS, vR 0, vR 296, vR 341, vR 342, vI i, v6, v7] [] (mk S2 e2) Q) : m_ok xs L 177 b_177_1120 [vS, vR 0, vR 296, vR 341, vR 342, vI i, v6, v7] [] (mk S e) Q := by
  obtain ⟨k, b, S1, e1, S2, A2, T2, C2, P2, hw, hm, hk, hb, ii⟩ := call_12 (xs := xs) (L := L) (a := (xs (i + 1).toNat).toInt) (b := (xs (i + 2).toNat).toInt) h
  have hK := fun v6 v7 => K S2 A2 T2 C2 P2 e1 v6 v7 ii
  by_cases hk0 : k = 0
  · have hA : m_age (mk S2 e1) 341 23 0 = some (vL (Int32.ofInt b).toInt64) := by rw [A_341, hb hk0, Int64.ofInt_toInt]
    have hg := lg_self (Int32.ofInt b).toInt64
    repeat' first
      | (refine V_icmp_eq.mpr ?_; first | rw [if_pos (by omega)] | rw [if_neg (by omega)] | split)
      | (refine V_if_eq.mpr ?_; first | rw [if_pos (by omega)] | rw [if_neg (by omega)] | split)
      | (refine V_if_ne.mpr ?_; first | rw [if_pos (by omega)] | rw [if_neg (by omega)] | split)
      | (simp (disch := (first | omega | (simp (disch := omega) only [up_f, up_s, up_i, up_k, up_e]; omega))) only [up_f, up_s, up_i, up_k, up_e, V_iconst, V_bipush, V_sipush, V_conti, V_contn, V_goto, Option.some.injEq, exists_eq_left', true_and, and_true, m_fit, Option.isSome_some, List.map_nil, List.map_cons, List.sum_nil, List.sum_cons, List.all_nil, List.all_cons, m_cat, decide_true, Bool.and_true, Bool.true_and, Nat.zero_le, Int.toNat_natCast, Int.reduceAdd, Int.reduceSub, Int.reduceMul, Int.reduceNeg, Int.reduceLE, Int.reduceLT, Nat.reduceAdd, Nat.reduceLeDiff, Int.reduceToNat, Int.reduceEq, decide_eq_true_eq, true_or, or_true, exists_and_left, and_self, Nat.reduceMul, Nat.reduceSub, Nat.reduceLT, m_oa, Nat.reduceEqDiff, or_false, false_or, Sum.inl.injEq, Sum.inr.injEq, ↓reduceIte, ne_eq, not_false_eq_true, Int.reduceNe, exists_eq_left, D_177, R_177, X_177, I_177_100, I_177_143, I_177_145, J_177_1163, J_177_1170, J_177_1180, J_177_1185, V_aloadn1, V_aloadn0, V_iload5, V_iadd, m_add_eq, V_sal, V_aloadn3, V_istore6, V_aloadn2, V_istore7, V_iload6, U_laload, V_iload7, V_i2l, V_lcmp, T_9, T_10, s_97, V_aloadS, b_177_1120, b_177_1168, b_177_1185, hw, hm, hA, hg])
    all_goals exact hK _ _
  ·
    repeat' first
      | (refine V_icmp_eq.mpr ?_; first | rw [if_pos (by omega)] | rw [if_neg (by omega)] | split)
      | (refine V_if_eq.mpr ?_; first | rw [if_pos (by omega)] | rw [if_neg (by omega)] | split)
      | (refine V_if_ne.mpr ?_; first | rw [if_pos (by omega)] | rw [if_neg (by omega)] | split)
      | (simp (disch := (first | omega | (simp (disch := omega) only [up_f, up_s, up_i, up_k, up_e]; omega))) only [up_f, up_s, up_i, up_k, up_e, V_iconst, V_bipush, V_sipush, V_conti, V_contn, V_goto, Option.some.injEq, exists_eq_left', true_and, and_true, m_fit, Option.isSome_some, List.map_nil, List.map_cons, List.sum_nil, List.sum_cons, List.all_nil, List.all_cons, m_cat, decide_true, Bool.and_true, Bool.true_and, Nat.zero_le, Int.toNat_natCast, Int.reduceAdd, Int.reduceSub, Int.reduceMul, Int.reduceNeg, Int.reduceLE, Int.reduceLT, Nat.reduceAdd, Nat.reduceLeDiff, Int.reduceToNat, Int.reduceEq, decide_eq_true_eq, true_or, or_true, exists_and_left, and_self, Nat.reduceMul, Nat.reduceSub, Nat.reduceLT, m_oa, Nat.reduceEqDiff, or_false, false_or, Sum.inl.injEq, Sum.inr.injEq, ↓reduceIte, ne_eq, not_false_eq_true, Int.reduceNe, exists_eq_left, D_177, R_177, X_177, I_177_100, I_177_143, I_177_145, J_177_1163, J_177_1170, J_177_1180, J_177_1185, V_aloadn1, V_aloadn0, V_iload5, V_iadd, m_add_eq, V_sal, V_aloadn3, V_istore6, V_aloadn2, V_istore7, V_iload6, U_laload, V_iload7, V_i2l, V_lcmp, T_9, T_10, s_97, V_aloadS, b_177_1120, b_177_1168, b_177_1185, hw, hm])
    all_goals exact hK _ _
set_option maxRecDepth 20000 in
theorem case_13 {A T C P : Nat} {i : Int} {v6 v7 : MV} {Q : MOut → MHp → Prop} (hi : 0 ≤ i ∧ i + 8 < (L : Int)) (hL : (L : Int) ≤ 5000) (h : II S A T C P j e) (hj : j < 10000) (K : ∀ (S2 : Sg) (A T C P e2 : Nat) (v6 v7 : MV), II S2 A T C P (j + 1) e2 → m_ok xs L 177 b_177_1895 [vS, vR 0, vR 296, vR 341, vR 342, vI i, v6, v7] [] (mk S2 e2) Q) : m_ok xs L 177 b_177_1188 [vS, vR 0, vR 296, vR 341, vR 342, vI i, v6, v7] [] (mk S e) Q := by
  obtain ⟨k, b, S1, e1, S2, A2, T2, C2, P2, hw, hm, hk, hb, ii⟩ := call_13 (xs := xs) (L := L) (a := (xs (i + 1).toNat).toInt) (b := (xs (i + 2).toNat).toInt) h
  have hK := fun v6 v7 => K S2 A2 T2 C2 P2 e1 v6 v7 ii
  by_cases hk0 : k = 0
  · have hA : m_age (mk S2 e1) 341 23 0 = some (vL (Int32.ofInt b).toInt64) := by rw [A_341, hb hk0, Int64.ofInt_toInt]
    have hg := lg_self (Int32.ofInt b).toInt64
    repeat' first
      | (refine V_icmp_eq.mpr ?_; first | rw [if_pos (by omega)] | rw [if_neg (by omega)] | split)
      | (refine V_if_eq.mpr ?_; first | rw [if_pos (by omega)] | rw [if_neg (by omega)] | split)
      | (refine V_if_ne.mpr ?_; first | rw [if_pos (by omega)] | rw [if_neg (by omega)] | split)
      | (simp (disch := (first | omega | (simp (disch := omega) only [up_f, up_s, up_i, up_k, up_e]; omega))) only [up_f, up_s, up_i, up_k, up_e, V_iconst, V_bipush, V_sipush, V_conti, V_contn, V_goto, Option.some.injEq, exists_eq_left', true_and, and_true, m_fit, Option.isSome_some, List.map_nil, List.map_cons, List.sum_nil, List.sum_cons, List.all_nil, List.all_cons, m_cat, decide_true, Bool.and_true, Bool.true_and, Nat.zero_le, Int.toNat_natCast, Int.reduceAdd, Int.reduceSub, Int.reduceMul, Int.reduceNeg, Int.reduceLE, Int.reduceLT, Nat.reduceAdd, Nat.reduceLeDiff, Int.reduceToNat, Int.reduceEq, decide_eq_true_eq, true_or, or_true, exists_and_left, and_self, Nat.reduceMul, Nat.reduceSub, Nat.reduceLT, m_oa, Nat.reduceEqDiff, or_false, false_or, Sum.inl.injEq, Sum.inr.injEq, ↓reduceIte, ne_eq, not_false_eq_true, Int.reduceNe, exists_eq_left, D_177, R_177, X_177, I_177_100, I_177_146, I_177_148, J_177_1231, J_177_1238, J_177_1248, J_177_1253, V_aloadn1, V_aloadn0, V_iload5, V_iadd, m_add_eq, V_sal, V_aloadn3, V_istore6, V_aloadn2, V_istore7, V_iload6, U_laload, V_iload7, V_i2l, V_lcmp, T_9, T_10, s_97, V_aloadS, b_177_1188, b_177_1236, b_177_1253, hw, hm, hA, hg])
    all_goals exact hK _ _
  ·
    repeat' first
      | (refine V_icmp_eq.mpr ?_; first | rw [if_pos (by omega)] | rw [if_neg (by omega)] | split)
      | (refine V_if_eq.mpr ?_; first | rw [if_pos (by omega)] | rw [if_neg (by omega)] | split)
      | (refine V_if_ne.mpr ?_; first | rw [if_pos (by omega)] | rw [if_neg (by omega)] | split)
      | (simp (disch := (first | omega | (simp (disch := omega) only [up_f, up_s, up_i, up_k, up_e]; omega))) only [up_f, up_s, up_i, up_k, up_e, V_iconst, V_bipush, V_sipush, V_conti, V_contn, V_goto, Option.some.injEq, exists_eq_left', true_and, and_true, m_fit, Option.isSome_some, List.map_nil, List.map_cons, List.sum_nil, List.sum_cons, List.all_nil, List.all_cons, m_cat, decide_true, Bool.and_true, Bool.true_and, Nat.zero_le, Int.toNat_natCast, Int.reduceAdd, Int.reduceSub, Int.reduceMul, Int.reduceNeg, Int.reduceLE, Int.reduceLT, Nat.reduceAdd, Nat.reduceLeDiff, Int.reduceToNat, Int.reduceEq, decide_eq_true_eq, true_or, or_true, exists_and_left, and_self, Nat.reduceMul, Nat.reduceSub, Nat.reduceLT, m_oa, Nat.reduceEqDiff, or_false, false_or, Sum.inl.injEq, Sum.inr.injEq, ↓reduceIte, ne_eq, not_false_eq_true, Int.reduceNe, exists_eq_left, D_177, R_177, X_177, I_177_100, I_177_146, I_177_148, J_177_1231, J_177_1238, J_177_1248, J_177_1253, V_aloadn1, V_aloadn0, V_iload5, V_iadd, m_add_eq, V_sal, V_aloadn3, V_istore6, V_aloadn2, V_istore7, V_iload6, U_laload, V_iload7, V_i2l, V_lcmp, T_9, T_10, s_97, V_aloadS, b_177_1188, b_177_1236, b_177_1253, hw, hm])
    all_goals exact hK _ _
set_option maxRecDepth 20000 in
theorem case_14 {A T C P : Nat} {i : Int} {v6 v7 : MV} {Q : MOut → MHp → Prop} (hi : 0 ≤ i ∧ i + 8 < (L : Int)) (hL : (L : Int) ≤ 5000) (h : II S A T C P j e) (hj : j < 10000) (K : ∀ (S2 : Sg) (A T C P e2 : Nat) (v6 v7 : MV), II S2 A T C P (j + 1) e2 → m_ok xs L 177 b_177_1895 [vS, vR 0, vR 296, vR 341, vR 342, vI i, v6, v7] [] (mk S2 e2) Q) : m_ok xs L 177 b_177_1256 [vS, vR 0, vR 296, vR 341, vR 342, vI i, v6, v7] [] (mk S e) Q := by
  obtain ⟨k, b, S1, e1, S2, A2, T2, C2, P2, hw, hm, hk, hb, ii⟩ := call_14 (xs := xs) (L := L) (a := (xs (i + 1).toNat).toInt) (b := (xs (i + 2).toNat).toInt) (p := (xs (i + 3).toNat).toInt) h
  have hK := fun v6 v7 => K S2 A2 T2 C2 P2 e1 v6 v7 ii
  by_cases hk0 : k = 0
  · have hA : m_age (mk S2 e1) 341 23 0 = some (vL (Int32.ofInt b).toInt64) := by rw [A_341, hb hk0, Int64.ofInt_toInt]
    have hg := lg_self (Int32.ofInt b).toInt64
    repeat' first
      | (refine V_icmp_eq.mpr ?_; first | rw [if_pos (by omega)] | rw [if_neg (by omega)] | split)
      | (refine V_if_eq.mpr ?_; first | rw [if_pos (by omega)] | rw [if_neg (by omega)] | split)
      | (refine V_if_ne.mpr ?_; first | rw [if_pos (by omega)] | rw [if_neg (by omega)] | split)
      | (simp (disch := (first | omega | (simp (disch := omega) only [up_f, up_s, up_i, up_k, up_e]; omega))) only [up_f, up_s, up_i, up_k, up_e, V_iconst, V_bipush, V_sipush, V_conti, V_contn, V_goto, Option.some.injEq, exists_eq_left', true_and, and_true, m_fit, Option.isSome_some, List.map_nil, List.map_cons, List.sum_nil, List.sum_cons, List.all_nil, List.all_cons, m_cat, decide_true, Bool.and_true, Bool.true_and, Nat.zero_le, Int.toNat_natCast, Int.reduceAdd, Int.reduceSub, Int.reduceMul, Int.reduceNeg, Int.reduceLE, Int.reduceLT, Nat.reduceAdd, Nat.reduceLeDiff, Int.reduceToNat, Int.reduceEq, decide_eq_true_eq, true_or, or_true, exists_and_left, and_self, Nat.reduceMul, Nat.reduceSub, Nat.reduceLT, m_oa, Nat.reduceEqDiff, or_false, false_or, Sum.inl.injEq, Sum.inr.injEq, ↓reduceIte, ne_eq, not_false_eq_true, Int.reduceNe, exists_eq_left, D_177, R_177, X_177, I_177_100, I_177_149, I_177_151, J_177_1311, J_177_1318, J_177_1328, J_177_1333, V_aloadn1, V_aloadn0, V_iload5, V_iadd, m_add_eq, V_sal, V_aloadn3, V_istore6, V_aloadn2, V_istore7, V_iload6, U_laload, V_iload7, V_i2l, V_lcmp, T_9, T_10, s_97, V_aloadS, b_177_1256, b_177_1316, b_177_1333, hw, hm, hA, hg])
    all_goals exact hK _ _
  ·
    repeat' first
      | (refine V_icmp_eq.mpr ?_; first | rw [if_pos (by omega)] | rw [if_neg (by omega)] | split)
      | (refine V_if_eq.mpr ?_; first | rw [if_pos (by omega)] | rw [if_neg (by omega)] | split)
      | (refine V_if_ne.mpr ?_; first | rw [if_pos (by omega)] | rw [if_neg (by omega)] | split)
      | (simp (disch := (first | omega | (simp (disch := omega) only [up_f, up_s, up_i, up_k, up_e]; omega))) only [up_f, up_s, up_i, up_k, up_e, V_iconst, V_bipush, V_sipush, V_conti, V_contn, V_goto, Option.some.injEq, exists_eq_left', true_and, and_true, m_fit, Option.isSome_some, List.map_nil, List.map_cons, List.sum_nil, List.sum_cons, List.all_nil, List.all_cons, m_cat, decide_true, Bool.and_true, Bool.true_and, Nat.zero_le, Int.toNat_natCast, Int.reduceAdd, Int.reduceSub, Int.reduceMul, Int.reduceNeg, Int.reduceLE, Int.reduceLT, Nat.reduceAdd, Nat.reduceLeDiff, Int.reduceToNat, Int.reduceEq, decide_eq_true_eq, true_or, or_true, exists_and_left, and_self, Nat.reduceMul, Nat.reduceSub, Nat.reduceLT, m_oa, Nat.reduceEqDiff, or_false, false_or, Sum.inl.injEq, Sum.inr.injEq, ↓reduceIte, ne_eq, not_false_eq_true, Int.reduceNe, exists_eq_left, D_177, R_177, X_177, I_177_100, I_177_149, I_177_151, J_177_1311, J_177_1318, J_177_1328, J_177_1333, V_aloadn1, V_aloadn0, V_iload5, V_iadd, m_add_eq, V_sal, V_aloadn3, V_istore6, V_aloadn2, V_istore7, V_iload6, U_laload, V_iload7, V_i2l, V_lcmp, T_9, T_10, s_97, V_aloadS, b_177_1256, b_177_1316, b_177_1333, hw, hm])
    all_goals exact hK _ _
set_option maxRecDepth 20000 in
theorem case_16 {A T C P : Nat} {i : Int} {v6 v7 : MV} {Q : MOut → MHp → Prop} (hi : 0 ≤ i ∧ i + 8 < (L : Int)) (hL : (L : Int) ≤ 5000) (h : II S A T C P j e) (hj : j < 10000) (K : ∀ (S2 : Sg) (A T C P e2 : Nat) (v6 v7 : MV), II S2 A T C P (j + 1) e2 → m_ok xs L 177 b_177_1895 [vS, vR 0, vR 296, vR 341, vR 342, vI i, v6, v7] [] (mk S2 e2) Q) : m_ok xs L 177 b_177_1426 [vS, vR 0, vR 296, vR 341, vR 342, vI i, v6, v7] [] (mk S e) Q := by
  obtain ⟨k, b, S1, e1, S2, A2, T2, C2, P2, hw, hm, hk, hb, ii⟩ := call_16 (xs := xs) (L := L) (a := (xs (i + 1).toNat).toInt) (b := (xs (i + 2).toNat).toInt) h
  have hK := fun v6 v7 => K S2 A2 T2 C2 P2 e1 v6 v7 ii
  by_cases hk0 : k = 0
  · have hA : m_age (mk S2 e1) 341 23 0 = some (vL (Int32.ofInt b).toInt64) := by rw [A_341, hb hk0, Int64.ofInt_toInt]
    have hg := lg_self (Int32.ofInt b).toInt64
    repeat' first
      | (refine V_icmp_eq.mpr ?_; first | rw [if_pos (by omega)] | rw [if_neg (by omega)] | split)
      | (refine V_if_eq.mpr ?_; first | rw [if_pos (by omega)] | rw [if_neg (by omega)] | split)
      | (refine V_if_ne.mpr ?_; first | rw [if_pos (by omega)] | rw [if_neg (by omega)] | split)
      | (simp (disch := (first | omega | (simp (disch := omega) only [up_f, up_s, up_i, up_k, up_e]; omega))) only [up_f, up_s, up_i, up_k, up_e, V_iconst, V_bipush, V_sipush, V_conti, V_contn, V_goto, Option.some.injEq, exists_eq_left', true_and, and_true, m_fit, Option.isSome_some, List.map_nil, List.map_cons, List.sum_nil, List.sum_cons, List.all_nil, List.all_cons, m_cat, decide_true, Bool.and_true, Bool.true_and, Nat.zero_le, Int.toNat_natCast, Int.reduceAdd, Int.reduceSub, Int.reduceMul, Int.reduceNeg, Int.reduceLE, Int.reduceLT, Nat.reduceAdd, Nat.reduceLeDiff, Int.reduceToNat, Int.reduceEq, decide_eq_true_eq, true_or, or_true, exists_and_left, and_self, Nat.reduceMul, Nat.reduceSub, Nat.reduceLT, m_oa, Nat.reduceEqDiff, or_false, false_or, Sum.inl.injEq, Sum.inr.injEq, ↓reduceIte, ne_eq, not_false_eq_true, Int.reduceNe, exists_eq_left, D_177, R_177, X_177, I_177_100, I_177_156, I_177_158, J_177_1469, J_177_1476, J_177_1486, J_177_1491, V_aloadn1, V_aloadn0, V_iload5, V_iadd, m_add_eq, V_sal, V_aloadn3, V_istore6, V_aloadn2, V_istore7, V_iload6, U_laload, V_iload7, V_i2l, V_lcmp, T_9, T_10, s_97, V_aloadS, b_177_1426, b_177_1474, b_177_1491, hw, hm, hA, hg])
    all_goals exact hK _ _
  ·
    repeat' first
      | (refine V_icmp_eq.mpr ?_; first | rw [if_pos (by omega)] | rw [if_neg (by omega)] | split)
      | (refine V_if_eq.mpr ?_; first | rw [if_pos (by omega)] | rw [if_neg (by omega)] | split)
      | (refine V_if_ne.mpr ?_; first | rw [if_pos (by omega)] | rw [if_neg (by omega)] | split)
      | (simp (disch := (first | omega | (simp (disch := omega) only [up_f, up_s, up_i, up_k, up_e]; omega))) only [up_f, up_s, up_i, up_k, up_e, V_iconst, V_bipush, V_sipush, V_conti, V_contn, V_goto, Option.some.injEq, exists_eq_left', true_and, and_true, m_fit, Option.isSome_some, List.map_nil, List.map_cons, List.sum_nil, List.sum_cons, List.all_nil, List.all_cons, m_cat, decide_true, Bool.and_true, Bool.true_and, Nat.zero_le, Int.toNat_natCast, Int.reduceAdd, Int.reduceSub, Int.reduceMul, Int.reduceNeg, Int.reduceLE, Int.reduceLT, Nat.reduceAdd, Nat.reduceLeDiff, Int.reduceToNat, Int.reduceEq, decide_eq_true_eq, true_or, or_true, exists_and_left, and_self, Nat.reduceMul, Nat.reduceSub, Nat.reduceLT, m_oa, Nat.reduceEqDiff, or_false, false_or, Sum.inl.injEq, Sum.inr.injEq, ↓reduceIte, ne_eq, not_false_eq_true, Int.reduceNe, exists_eq_left, D_177, R_177, X_177, I_177_100, I_177_156, I_177_158, J_177_1469, J_177_1476, J_177_1486, J_177_1491, V_aloadn1, V_aloadn0, V_iload5, V_iadd, m_add_eq, V_sal, V_aloadn3, V_istore6, V_aloadn2, V_istore7, V_iload6, U_laload, V_iload7, V_i2l, V_lcmp, T_9, T_10, s_97, V_aloadS, b_177_1426, b_177_1474, b_177_1491, hw, hm])
    all_goals exact hK _ _
set_option maxRecDepth 20000 in
theorem case_17 {A T C P : Nat} {i : Int} {v6 v7 : MV} {Q : MOut → MHp → Prop} (hi : 0 ≤ i ∧ i + 8 < (L : Int)) (hL : (L : Int) ≤ 5000) (h : II S A T C P j e) (hj : j < 10000) (K : ∀ (S2 : Sg) (A T C P e2 : Nat) (v6 v7 : MV), II S2 A T C P (j + 1) e2 → m_ok xs L 177 b_177_1895 [vS, vR 0, vR 296, vR 341, vR 342, vI i, v6, v7] [] (mk S2 e2) Q) : m_ok xs L 177 b_177_1494 [vS, vR 0, vR 296, vR 341, vR 342, vI i, v6, v7] [] (mk S e) Q := by
  obtain ⟨k, b, S1, e1, S2, A2, T2, C2, P2, hw, hm, hk, hb, ii⟩ := call_17 (xs := xs) (L := L) (a := (xs (i + 1).toNat).toInt) (b := (xs (i + 2).toNat).toInt) h
  have hK := fun v6 v7 => K S2 A2 T2 C2 P2 e1 v6 v7 ii
  by_cases hk0 : k = 0
  · have hA : m_age (mk S2 e1) 341 23 0 = some (vL (Int32.ofInt b).toInt64) := by rw [A_341, hb hk0, Int64.ofInt_toInt]
    have hg := lg_self (Int32.ofInt b).toInt64
    repeat' first
      | (refine V_icmp_eq.mpr ?_; first | rw [if_pos (by omega)] | rw [if_neg (by omega)] | split)
      | (refine V_if_eq.mpr ?_; first | rw [if_pos (by omega)] | rw [if_neg (by omega)] | split)
      | (refine V_if_ne.mpr ?_; first | rw [if_pos (by omega)] | rw [if_neg (by omega)] | split)
      | (simp (disch := (first | omega | (simp (disch := omega) only [up_f, up_s, up_i, up_k, up_e]; omega))) only [up_f, up_s, up_i, up_k, up_e, V_iconst, V_bipush, V_sipush, V_conti, V_contn, V_goto, Option.some.injEq, exists_eq_left', true_and, and_true, m_fit, Option.isSome_some, List.map_nil, List.map_cons, List.sum_nil, List.sum_cons, List.all_nil, List.all_cons, m_cat, decide_true, Bool.and_true, Bool.true_and, Nat.zero_le, Int.toNat_natCast, Int.reduceAdd, Int.reduceSub, Int.reduceMul, Int.reduceNeg, Int.reduceLE, Int.reduceLT, Nat.reduceAdd, Nat.reduceLeDiff, Int.reduceToNat, Int.reduceEq, decide_eq_true_eq, true_or, or_true, exists_and_left, and_self, Nat.reduceMul, Nat.reduceSub, Nat.reduceLT, m_oa, Nat.reduceEqDiff, or_false, false_or, Sum.inl.injEq, Sum.inr.injEq, ↓reduceIte, ne_eq, not_false_eq_true, Int.reduceNe, exists_eq_left, D_177, R_177, X_177, I_177_100, I_177_159, I_177_161, J_177_1537, J_177_1544, J_177_1554, J_177_1559, V_aloadn1, V_aloadn0, V_iload5, V_iadd, m_add_eq, V_sal, V_aloadn3, V_istore6, V_aloadn2, V_istore7, V_iload6, U_laload, V_iload7, V_i2l, V_lcmp, T_9, T_10, s_97, V_aloadS, b_177_1494, b_177_1542, b_177_1559, hw, hm, hA, hg])
    all_goals exact hK _ _
  ·
    repeat' first
      | (refine V_icmp_eq.mpr ?_; first | rw [if_pos (by omega)] | rw [if_neg (by omega)] | split)
      | (refine V_if_eq.mpr ?_; first | rw [if_pos (by omega)] | rw [if_neg (by omega)] | split)
      | (refine V_if_ne.mpr ?_; first | rw [if_pos (by omega)] | rw [if_neg (by omega)] | split)
      | (simp (disch := (first | omega | (simp (disch := omega) only [up_f, up_s, up_i, up_k, up_e]; omega))) only [up_f, up_s, up_i, up_k, up_e, V_iconst, V_bipush, V_sipush, V_conti, V_contn, V_goto, Option.some.injEq, exists_eq_left', true_and, and_true, m_fit, Option.isSome_some, List.map_nil, List.map_cons, List.sum_nil, List.sum_cons, List.all_nil, List.all_cons, m_cat, decide_true, Bool.and_true, Bool.true_and, Nat.zero_le, Int.toNat_natCast, Int.reduceAdd, Int.reduceSub, Int.reduceMul, Int.reduceNeg, Int.reduceLE, Int.reduceLT, Nat.reduceAdd, Nat.reduceLeDiff, Int.reduceToNat, Int.reduceEq, decide_eq_true_eq, true_or, or_true, exists_and_left, and_self, Nat.reduceMul, Nat.reduceSub, Nat.reduceLT, m_oa, Nat.reduceEqDiff, or_false, false_or, Sum.inl.injEq, Sum.inr.injEq, ↓reduceIte, ne_eq, not_false_eq_true, Int.reduceNe, exists_eq_left, D_177, R_177, X_177, I_177_100, I_177_159, I_177_161, J_177_1537, J_177_1544, J_177_1554, J_177_1559, V_aloadn1, V_aloadn0, V_iload5, V_iadd, m_add_eq, V_sal, V_aloadn3, V_istore6, V_aloadn2, V_istore7, V_iload6, U_laload, V_iload7, V_i2l, V_lcmp, T_9, T_10, s_97, V_aloadS, b_177_1494, b_177_1542, b_177_1559, hw, hm])
    all_goals exact hK _ _
set_option maxRecDepth 20000 in
theorem case_19 {A T C P : Nat} {i : Int} {v6 v7 : MV} {Q : MOut → MHp → Prop} (hi : 0 ≤ i ∧ i + 8 < (L : Int)) (hL : (L : Int) ≤ 5000) (h : II S A T C P j e) (hj : j < 10000) (K : ∀ (S2 : Sg) (A T C P e2 : Nat) (v6 v7 : MV), II S2 A T C P (j + 1) e2 → m_ok xs L 177 b_177_1895 [vS, vR 0, vR 296, vR 341, vR 342, vI i, v6, v7] [] (mk S2 e2) Q) : m_ok xs L 177 b_177_1575 [vS, vR 0, vR 296, vR 341, vR 342, vI i, v6, v7] [] (mk S e) Q := by
  obtain ⟨k, b, S1, e1, S2, A2, T2, C2, P2, hw, hm, hk, hb, ii⟩ := call_19 (xs := xs) (L := L) (a := (xs (i + 1).toNat).toInt) h
  have hK := fun v6 v7 => K S2 A2 T2 C2 P2 e1 v6 v7 ii
  by_cases hk0 : k = 0
  · have hA : m_age (mk S2 e1) 341 23 0 = some (vL (Int32.ofInt b).toInt64) := by rw [A_341, hb hk0, Int64.ofInt_toInt]
    have hg := lg_self (Int32.ofInt b).toInt64
    repeat' first
      | (refine V_icmp_eq.mpr ?_; first | rw [if_pos (by omega)] | rw [if_neg (by omega)] | split)
      | (refine V_if_eq.mpr ?_; first | rw [if_pos (by omega)] | rw [if_neg (by omega)] | split)
      | (refine V_if_ne.mpr ?_; first | rw [if_pos (by omega)] | rw [if_neg (by omega)] | split)
      | (simp (disch := (first | omega | (simp (disch := omega) only [up_f, up_s, up_i, up_k, up_e]; omega))) only [up_f, up_s, up_i, up_k, up_e, V_iconst, V_bipush, V_sipush, V_conti, V_contn, V_goto, Option.some.injEq, exists_eq_left', true_and, and_true, m_fit, Option.isSome_some, List.map_nil, List.map_cons, List.sum_nil, List.sum_cons, List.all_nil, List.all_cons, m_cat, decide_true, Bool.and_true, Bool.true_and, Nat.zero_le, Int.toNat_natCast, Int.reduceAdd, Int.reduceSub, Int.reduceMul, Int.reduceNeg, Int.reduceLE, Int.reduceLT, Nat.reduceAdd, Nat.reduceLeDiff, Int.reduceToNat, Int.reduceEq, decide_eq_true_eq, true_or, or_true, exists_and_left, and_self, Nat.reduceMul, Nat.reduceSub, Nat.reduceLT, m_oa, Nat.reduceEqDiff, or_false, false_or, Sum.inl.injEq, Sum.inr.injEq, ↓reduceIte, ne_eq, not_false_eq_true, Int.reduceNe, exists_eq_left, D_177, R_177, X_177, I_177_100, I_177_166, I_177_168, J_177_1606, J_177_1613, J_177_1623, J_177_1628, V_aloadn1, V_aloadn0, V_iload5, V_iadd, m_add_eq, V_sal, V_aloadn3, V_istore6, V_aloadn2, V_istore7, V_iload6, U_laload, V_iload7, V_i2l, V_lcmp, T_9, T_10, s_97, V_aloadS, b_177_1575, b_177_1611, b_177_1628, hw, hm, hA, hg])
    all_goals exact hK _ _
  ·
    repeat' first
      | (refine V_icmp_eq.mpr ?_; first | rw [if_pos (by omega)] | rw [if_neg (by omega)] | split)
      | (refine V_if_eq.mpr ?_; first | rw [if_pos (by omega)] | rw [if_neg (by omega)] | split)
      | (refine V_if_ne.mpr ?_; first | rw [if_pos (by omega)] | rw [if_neg (by omega)] | split)
      | (simp (disch := (first | omega | (simp (disch := omega) only [up_f, up_s, up_i, up_k, up_e]; omega))) only [up_f, up_s, up_i, up_k, up_e, V_iconst, V_bipush, V_sipush, V_conti, V_contn, V_goto, Option.some.injEq, exists_eq_left', true_and, and_true, m_fit, Option.isSome_some, List.map_nil, List.map_cons, List.sum_nil, List.sum_cons, List.all_nil, List.all_cons, m_cat, decide_true, Bool.and_true, Bool.true_and, Nat.zero_le, Int.toNat_natCast, Int.reduceAdd, Int.reduceSub, Int.reduceMul, Int.reduceNeg, Int.reduceLE, Int.reduceLT, Nat.reduceAdd, Nat.reduceLeDiff, Int.reduceToNat, Int.reduceEq, decide_eq_true_eq, true_or, or_true, exists_and_left, and_self, Nat.reduceMul, Nat.reduceSub, Nat.reduceLT, m_oa, Nat.reduceEqDiff, or_false, false_or, Sum.inl.injEq, Sum.inr.injEq, ↓reduceIte, ne_eq, not_false_eq_true, Int.reduceNe, exists_eq_left, D_177, R_177, X_177, I_177_100, I_177_166, I_177_168, J_177_1606, J_177_1613, J_177_1623, J_177_1628, V_aloadn1, V_aloadn0, V_iload5, V_iadd, m_add_eq, V_sal, V_aloadn3, V_istore6, V_aloadn2, V_istore7, V_iload6, U_laload, V_iload7, V_i2l, V_lcmp, T_9, T_10, s_97, V_aloadS, b_177_1575, b_177_1611, b_177_1628, hw, hm])
    all_goals exact hK _ _
set_option maxRecDepth 20000 in
theorem case_20 {A T C P : Nat} {i : Int} {v6 v7 : MV} {Q : MOut → MHp → Prop} (hi : 0 ≤ i ∧ i + 8 < (L : Int)) (hL : (L : Int) ≤ 5000) (h : II S A T C P j e) (hj : j < 10000) (K : ∀ (S2 : Sg) (A T C P e2 : Nat) (v6 v7 : MV), II S2 A T C P (j + 1) e2 → m_ok xs L 177 b_177_1895 [vS, vR 0, vR 296, vR 341, vR 342, vI i, v6, v7] [] (mk S2 e2) Q) : m_ok xs L 177 b_177_1631 [vS, vR 0, vR 296, vR 341, vR 342, vI i, v6, v7] [] (mk S e) Q := by
  obtain ⟨k, b, S1, e1, S2, A2, T2, C2, P2, hw, hm, hk, hb, ii⟩ := call_22 (xs := xs) (L := L) (i := (xs (i + 1).toNat).toInt) (w := (xs (i + 2).toNat).toInt) h
  have hK := fun v6 v7 => K S2 A2 T2 C2 P2 e1 v6 v7 ii
  by_cases hk0 : k = 0
  · have hA : m_age (mk S2 e1) 341 23 0 = some (vL (Int32.ofInt b).toInt64) := by rw [A_341, hb hk0, Int64.ofInt_toInt]
    have hg := lg_self (Int32.ofInt b).toInt64
    repeat' first
      | (refine V_icmp_eq.mpr ?_; first | rw [if_pos (by omega)] | rw [if_neg (by omega)] | split)
      | (refine V_if_eq.mpr ?_; first | rw [if_pos (by omega)] | rw [if_neg (by omega)] | split)
      | (refine V_if_ne.mpr ?_; first | rw [if_pos (by omega)] | rw [if_neg (by omega)] | split)
      | (simp (disch := (first | omega | (simp (disch := omega) only [up_f, up_s, up_i, up_k, up_e]; omega))) only [up_f, up_s, up_i, up_k, up_e, V_iconst, V_bipush, V_sipush, V_conti, V_contn, V_goto, Option.some.injEq, exists_eq_left', true_and, and_true, m_fit, Option.isSome_some, List.map_nil, List.map_cons, List.sum_nil, List.sum_cons, List.all_nil, List.all_cons, m_cat, decide_true, Bool.and_true, Bool.true_and, Nat.zero_le, Int.toNat_natCast, Int.reduceAdd, Int.reduceSub, Int.reduceMul, Int.reduceNeg, Int.reduceLE, Int.reduceLT, Nat.reduceAdd, Nat.reduceLeDiff, Int.reduceToNat, Int.reduceEq, decide_eq_true_eq, true_or, or_true, exists_and_left, and_self, Nat.reduceMul, Nat.reduceSub, Nat.reduceLT, m_oa, Nat.reduceEqDiff, or_false, false_or, Sum.inl.injEq, Sum.inr.injEq, ↓reduceIte, ne_eq, not_false_eq_true, Int.reduceNe, exists_eq_left, D_177, R_177, X_177, I_177_100, I_177_169, I_177_171, J_177_1674, J_177_1681, J_177_1691, J_177_1696, V_aloadn1, V_aloadn0, V_iload5, V_iadd, m_add_eq, V_sal, V_aloadn3, V_istore6, V_aloadn2, V_istore7, V_iload6, U_laload, V_iload7, V_i2l, V_lcmp, T_9, T_10, s_97, V_aloadS, b_177_1631, b_177_1679, b_177_1696, hw, hm, hA, hg])
    all_goals exact hK _ _
  ·
    repeat' first
      | (refine V_icmp_eq.mpr ?_; first | rw [if_pos (by omega)] | rw [if_neg (by omega)] | split)
      | (refine V_if_eq.mpr ?_; first | rw [if_pos (by omega)] | rw [if_neg (by omega)] | split)
      | (refine V_if_ne.mpr ?_; first | rw [if_pos (by omega)] | rw [if_neg (by omega)] | split)
      | (simp (disch := (first | omega | (simp (disch := omega) only [up_f, up_s, up_i, up_k, up_e]; omega))) only [up_f, up_s, up_i, up_k, up_e, V_iconst, V_bipush, V_sipush, V_conti, V_contn, V_goto, Option.some.injEq, exists_eq_left', true_and, and_true, m_fit, Option.isSome_some, List.map_nil, List.map_cons, List.sum_nil, List.sum_cons, List.all_nil, List.all_cons, m_cat, decide_true, Bool.and_true, Bool.true_and, Nat.zero_le, Int.toNat_natCast, Int.reduceAdd, Int.reduceSub, Int.reduceMul, Int.reduceNeg, Int.reduceLE, Int.reduceLT, Nat.reduceAdd, Nat.reduceLeDiff, Int.reduceToNat, Int.reduceEq, decide_eq_true_eq, true_or, or_true, exists_and_left, and_self, Nat.reduceMul, Nat.reduceSub, Nat.reduceLT, m_oa, Nat.reduceEqDiff, or_false, false_or, Sum.inl.injEq, Sum.inr.injEq, ↓reduceIte, ne_eq, not_false_eq_true, Int.reduceNe, exists_eq_left, D_177, R_177, X_177, I_177_100, I_177_169, I_177_171, J_177_1674, J_177_1681, J_177_1691, J_177_1696, V_aloadn1, V_aloadn0, V_iload5, V_iadd, m_add_eq, V_sal, V_aloadn3, V_istore6, V_aloadn2, V_istore7, V_iload6, U_laload, V_iload7, V_i2l, V_lcmp, T_9, T_10, s_97, V_aloadS, b_177_1631, b_177_1679, b_177_1696, hw, hm])
    all_goals exact hK _ _
set_option maxRecDepth 20000 in
theorem case_21 {A T C P : Nat} {i : Int} {v6 v7 : MV} {Q : MOut → MHp → Prop} (hi : 0 ≤ i ∧ i + 8 < (L : Int)) (hL : (L : Int) ≤ 5000) (h : II S A T C P j e) (hj : j < 10000) (K : ∀ (S2 : Sg) (A T C P e2 : Nat) (v6 v7 : MV), II S2 A T C P (j + 1) e2 → m_ok xs L 177 b_177_1895 [vS, vR 0, vR 296, vR 341, vR 342, vI i, v6, v7] [] (mk S2 e2) Q) : m_ok xs L 177 b_177_1699 [vS, vR 0, vR 296, vR 341, vR 342, vI i, v6, v7] [] (mk S e) Q := by
  obtain ⟨k, b, S1, e1, S2, A2, T2, C2, P2, hw, hm, hk, hb, ii⟩ := call_23 (xs := xs) (L := L) (c := (xs (i + 1).toNat).toInt) (r := (xs (i + 2).toNat).toInt) (b := (xs (i + 3).toNat).toInt) h
  have hK := fun v6 v7 => K S2 A2 T2 C2 P2 e1 v6 v7 ii
  by_cases hk0 : k = 0
  · have hA : m_age (mk S2 e1) 341 23 0 = some (vL (Int32.ofInt b).toInt64) := by rw [A_341, hb hk0, Int64.ofInt_toInt]
    have hg := lg_self (Int32.ofInt b).toInt64
    repeat' first
      | (refine V_icmp_eq.mpr ?_; first | rw [if_pos (by omega)] | rw [if_neg (by omega)] | split)
      | (refine V_if_eq.mpr ?_; first | rw [if_pos (by omega)] | rw [if_neg (by omega)] | split)
      | (refine V_if_ne.mpr ?_; first | rw [if_pos (by omega)] | rw [if_neg (by omega)] | split)
      | (simp (disch := (first | omega | (simp (disch := omega) only [up_f, up_s, up_i, up_k, up_e]; omega))) only [up_f, up_s, up_i, up_k, up_e, V_iconst, V_bipush, V_sipush, V_conti, V_contn, V_goto, Option.some.injEq, exists_eq_left', true_and, and_true, m_fit, Option.isSome_some, List.map_nil, List.map_cons, List.sum_nil, List.sum_cons, List.all_nil, List.all_cons, m_cat, decide_true, Bool.and_true, Bool.true_and, Nat.zero_le, Int.toNat_natCast, Int.reduceAdd, Int.reduceSub, Int.reduceMul, Int.reduceNeg, Int.reduceLE, Int.reduceLT, Nat.reduceAdd, Nat.reduceLeDiff, Int.reduceToNat, Int.reduceEq, decide_eq_true_eq, true_or, or_true, exists_and_left, and_self, Nat.reduceMul, Nat.reduceSub, Nat.reduceLT, m_oa, Nat.reduceEqDiff, or_false, false_or, Sum.inl.injEq, Sum.inr.injEq, ↓reduceIte, ne_eq, not_false_eq_true, Int.reduceNe, exists_eq_left, D_177, R_177, X_177, I_177_100, I_177_172, I_177_174, J_177_1754, J_177_1761, J_177_1771, J_177_1776, V_aloadn1, V_aloadn0, V_iload5, V_iadd, m_add_eq, V_sal, V_aloadn3, V_istore6, V_aloadn2, V_istore7, V_iload6, U_laload, V_iload7, V_i2l, V_lcmp, T_9, T_10, s_97, V_aloadS, b_177_1699, b_177_1759, b_177_1776, hw, hm, hA, hg])
    all_goals exact hK _ _
  ·
    repeat' first
      | (refine V_icmp_eq.mpr ?_; first | rw [if_pos (by omega)] | rw [if_neg (by omega)] | split)
      | (refine V_if_eq.mpr ?_; first | rw [if_pos (by omega)] | rw [if_neg (by omega)] | split)
      | (refine V_if_ne.mpr ?_; first | rw [if_pos (by omega)] | rw [if_neg (by omega)] | split)
      | (simp (disch := (first | omega | (simp (disch := omega) only [up_f, up_s, up_i, up_k, up_e]; omega))) only [up_f, up_s, up_i, up_k, up_e, V_iconst, V_bipush, V_sipush, V_conti, V_contn, V_goto, Option.some.injEq, exists_eq_left', true_and, and_true, m_fit, Option.isSome_some, List.map_nil, List.map_cons, List.sum_nil, List.sum_cons, List.all_nil, List.all_cons, m_cat, decide_true, Bool.and_true, Bool.true_and, Nat.zero_le, Int.toNat_natCast, Int.reduceAdd, Int.reduceSub, Int.reduceMul, Int.reduceNeg, Int.reduceLE, Int.reduceLT, Nat.reduceAdd, Nat.reduceLeDiff, Int.reduceToNat, Int.reduceEq, decide_eq_true_eq, true_or, or_true, exists_and_left, and_self, Nat.reduceMul, Nat.reduceSub, Nat.reduceLT, m_oa, Nat.reduceEqDiff, or_false, false_or, Sum.inl.injEq, Sum.inr.injEq, ↓reduceIte, ne_eq, not_false_eq_true, Int.reduceNe, exists_eq_left, D_177, R_177, X_177, I_177_100, I_177_172, I_177_174, J_177_1754, J_177_1761, J_177_1771, J_177_1776, V_aloadn1, V_aloadn0, V_iload5, V_iadd, m_add_eq, V_sal, V_aloadn3, V_istore6, V_aloadn2, V_istore7, V_iload6, U_laload, V_iload7, V_i2l, V_lcmp, T_9, T_10, s_97, V_aloadS, b_177_1699, b_177_1759, b_177_1776, hw, hm])
    all_goals exact hK _ _
set_option maxRecDepth 20000 in
theorem case_5 {A T C P : Nat} {i : Int} {v6 v7 : MV} {Q : MOut → MHp → Prop} (hi : 0 ≤ i ∧ i + 8 < (L : Int)) (hL : (L : Int) ≤ 5000) (h : II S A T C P j e) (hj : j < 10000) (K : ∀ (S2 : Sg) (A T C P e2 : Nat) (v6 v7 : MV), II S2 A T C P (j + 1) e2 → m_ok xs L 177 b_177_1895 [vS, vR 0, vR 296, vR 341, vR 342, vI i, v6, v7] [] (mk S2 e2) Q) : m_ok xs L 177 b_177_556 [vS, vR 0, vR 296, vR 341, vR 342, vI i, v6, v7] [] (mk S e) Q := by
  by_cases hz : (xs (i + 7).toNat).toInt = 0
  ·
    obtain ⟨k, b, S1, e1, S2, A2, T2, C2, P2, hw, hm, hk, hb, ii⟩ := call_5 (xs := xs) (L := L) (a := (xs (i + 1).toNat).toInt) (l := (xs (i + 2).toNat).toInt) (kd := (xs (i + 3).toNat).toInt) (w := (xs (i + 4).toNat).toInt) (b := (xs (i + 5).toNat).toInt) (ls := (xs (i + 6).toNat).toInt) (sl := 0) h hj (Or.inl rfl)
    have hK := fun v6 v7 => K S2 A2 T2 C2 P2 e1 v6 v7 ii
    by_cases hk0 : k = 0
    · have hA : m_age (mk S2 e1) 341 23 0 = some (vL (Int32.ofInt b).toInt64) := by rw [A_341, hb hk0, Int64.ofInt_toInt]
      have hg := lg_self (Int32.ofInt b).toInt64
      repeat' first
        | (refine V_icmp_eq.mpr ?_; first | rw [if_pos (by omega)] | rw [if_neg (by omega)] | split)
        | (refine V_if_eq.mpr ?_; first | rw [if_pos (by omega)] | rw [if_neg (by omega)] | split)
        | (refine V_if_ne.mpr ?_; first | rw [if_pos (by omega)] | rw [if_neg (by omega)] | split)
        | (simp (disch := (first | omega | (simp (disch := omega) only [up_f, up_s, up_i, up_k, up_e]; omega))) only [up_f, up_s, up_i, up_k, up_e, V_iconst, V_bipush, V_sipush, V_conti, V_contn, V_goto, Option.some.injEq, exists_eq_left', true_and, and_true, m_fit, Option.isSome_some, List.map_nil, List.map_cons, List.sum_nil, List.sum_cons, List.all_nil, List.all_cons, m_cat, decide_true, Bool.and_true, Bool.true_and, Nat.zero_le, Int.toNat_natCast, Int.reduceAdd, Int.reduceSub, Int.reduceMul, Int.reduceNeg, Int.reduceLE, Int.reduceLT, Nat.reduceAdd, Nat.reduceLeDiff, Int.reduceToNat, Int.reduceEq, decide_eq_true_eq, true_or, or_true, exists_and_left, and_self, Nat.reduceMul, Nat.reduceSub, Nat.reduceLT, m_oa, Nat.reduceEqDiff, or_false, false_or, Sum.inl.injEq, Sum.inr.injEq, ↓reduceIte, ne_eq, not_false_eq_true, Int.reduceNe, exists_eq_left, D_177, R_177, X_177, I_177_100, J_177_601, J_177_605, I_177_118, J_177_660, J_177_664, I_177_121, J_177_679, J_177_686, J_177_696, J_177_701, V_aloadn1, V_aloadn0, V_iload5, V_iadd, m_add_eq, V_sal, V_aloadn3, V_istore6, V_aloadn2, V_istore7, V_iload6, U_laload, V_iload7, V_i2l, V_lcmp, T_9, T_10, s_97, V_aloadS, b_177_556, b_177_608, b_177_609, b_177_667, b_177_668, b_177_684, b_177_701, hw, hm, hA, hg])
      all_goals exact hK _ _
    ·
      repeat' first
        | (refine V_icmp_eq.mpr ?_; first | rw [if_pos (by omega)] | rw [if_neg (by omega)] | split)
        | (refine V_if_eq.mpr ?_; first | rw [if_pos (by omega)] | rw [if_neg (by omega)] | split)
        | (refine V_if_ne.mpr ?_; first | rw [if_pos (by omega)] | rw [if_neg (by omega)] | split)
        | (simp (disch := (first | omega | (simp (disch := omega) only [up_f, up_s, up_i, up_k, up_e]; omega))) only [up_f, up_s, up_i, up_k, up_e, V_iconst, V_bipush, V_sipush, V_conti, V_contn, V_goto, Option.some.injEq, exists_eq_left', true_and, and_true, m_fit, Option.isSome_some, List.map_nil, List.map_cons, List.sum_nil, List.sum_cons, List.all_nil, List.all_cons, m_cat, decide_true, Bool.and_true, Bool.true_and, Nat.zero_le, Int.toNat_natCast, Int.reduceAdd, Int.reduceSub, Int.reduceMul, Int.reduceNeg, Int.reduceLE, Int.reduceLT, Nat.reduceAdd, Nat.reduceLeDiff, Int.reduceToNat, Int.reduceEq, decide_eq_true_eq, true_or, or_true, exists_and_left, and_self, Nat.reduceMul, Nat.reduceSub, Nat.reduceLT, m_oa, Nat.reduceEqDiff, or_false, false_or, Sum.inl.injEq, Sum.inr.injEq, ↓reduceIte, ne_eq, not_false_eq_true, Int.reduceNe, exists_eq_left, D_177, R_177, X_177, I_177_100, J_177_601, J_177_605, I_177_118, J_177_660, J_177_664, I_177_121, J_177_679, J_177_686, J_177_696, J_177_701, V_aloadn1, V_aloadn0, V_iload5, V_iadd, m_add_eq, V_sal, V_aloadn3, V_istore6, V_aloadn2, V_istore7, V_iload6, U_laload, V_iload7, V_i2l, V_lcmp, T_9, T_10, s_97, V_aloadS, b_177_556, b_177_608, b_177_609, b_177_667, b_177_668, b_177_684, b_177_701, hw, hm])
      all_goals exact hK _ _
  ·
    obtain ⟨k, b, S1, e1, S2, A2, T2, C2, P2, hw, hm, hk, hb, ii⟩ := call_5 (xs := xs) (L := L) (a := (xs (i + 1).toNat).toInt) (l := (xs (i + 2).toNat).toInt) (kd := (xs (i + 3).toNat).toInt) (w := (xs (i + 4).toNat).toInt) (b := (xs (i + 5).toNat).toInt) (ls := (xs (i + 6).toNat).toInt) (sl := 1) h hj (Or.inr rfl)
    have hK := fun v6 v7 => K S2 A2 T2 C2 P2 e1 v6 v7 ii
    by_cases hk0 : k = 0
    · have hA : m_age (mk S2 e1) 341 23 0 = some (vL (Int32.ofInt b).toInt64) := by rw [A_341, hb hk0, Int64.ofInt_toInt]
      have hg := lg_self (Int32.ofInt b).toInt64
      repeat' first
        | (refine V_icmp_eq.mpr ?_; first | rw [if_pos (by omega)] | rw [if_neg (by omega)] | split)
        | (refine V_if_eq.mpr ?_; first | rw [if_pos (by omega)] | rw [if_neg (by omega)] | split)
        | (refine V_if_ne.mpr ?_; first | rw [if_pos (by omega)] | rw [if_neg (by omega)] | split)
        | (simp (disch := (first | omega | (simp (disch := omega) only [up_f, up_s, up_i, up_k, up_e]; omega))) only [up_f, up_s, up_i, up_k, up_e, V_iconst, V_bipush, V_sipush, V_conti, V_contn, V_goto, Option.some.injEq, exists_eq_left', true_and, and_true, m_fit, Option.isSome_some, List.map_nil, List.map_cons, List.sum_nil, List.sum_cons, List.all_nil, List.all_cons, m_cat, decide_true, Bool.and_true, Bool.true_and, Nat.zero_le, Int.toNat_natCast, Int.reduceAdd, Int.reduceSub, Int.reduceMul, Int.reduceNeg, Int.reduceLE, Int.reduceLT, Nat.reduceAdd, Nat.reduceLeDiff, Int.reduceToNat, Int.reduceEq, decide_eq_true_eq, true_or, or_true, exists_and_left, and_self, Nat.reduceMul, Nat.reduceSub, Nat.reduceLT, m_oa, Nat.reduceEqDiff, or_false, false_or, Sum.inl.injEq, Sum.inr.injEq, ↓reduceIte, ne_eq, not_false_eq_true, Int.reduceNe, exists_eq_left, D_177, R_177, X_177, I_177_100, J_177_601, J_177_605, I_177_118, J_177_660, J_177_664, I_177_121, J_177_679, J_177_686, J_177_696, J_177_701, V_aloadn1, V_aloadn0, V_iload5, V_iadd, m_add_eq, V_sal, V_aloadn3, V_istore6, V_aloadn2, V_istore7, V_iload6, U_laload, V_iload7, V_i2l, V_lcmp, T_9, T_10, s_97, V_aloadS, b_177_556, b_177_608, b_177_609, b_177_667, b_177_668, b_177_684, b_177_701, hw, hm, hA, hg])
      all_goals exact hK _ _
    ·
      repeat' first
        | (refine V_icmp_eq.mpr ?_; first | rw [if_pos (by omega)] | rw [if_neg (by omega)] | split)
        | (refine V_if_eq.mpr ?_; first | rw [if_pos (by omega)] | rw [if_neg (by omega)] | split)
        | (refine V_if_ne.mpr ?_; first | rw [if_pos (by omega)] | rw [if_neg (by omega)] | split)
        | (simp (disch := (first | omega | (simp (disch := omega) only [up_f, up_s, up_i, up_k, up_e]; omega))) only [up_f, up_s, up_i, up_k, up_e, V_iconst, V_bipush, V_sipush, V_conti, V_contn, V_goto, Option.some.injEq, exists_eq_left', true_and, and_true, m_fit, Option.isSome_some, List.map_nil, List.map_cons, List.sum_nil, List.sum_cons, List.all_nil, List.all_cons, m_cat, decide_true, Bool.and_true, Bool.true_and, Nat.zero_le, Int.toNat_natCast, Int.reduceAdd, Int.reduceSub, Int.reduceMul, Int.reduceNeg, Int.reduceLE, Int.reduceLT, Nat.reduceAdd, Nat.reduceLeDiff, Int.reduceToNat, Int.reduceEq, decide_eq_true_eq, true_or, or_true, exists_and_left, and_self, Nat.reduceMul, Nat.reduceSub, Nat.reduceLT, m_oa, Nat.reduceEqDiff, or_false, false_or, Sum.inl.injEq, Sum.inr.injEq, ↓reduceIte, ne_eq, not_false_eq_true, Int.reduceNe, exists_eq_left, D_177, R_177, X_177, I_177_100, J_177_601, J_177_605, I_177_118, J_177_660, J_177_664, I_177_121, J_177_679, J_177_686, J_177_696, J_177_701, V_aloadn1, V_aloadn0, V_iload5, V_iadd, m_add_eq, V_sal, V_aloadn3, V_istore6, V_aloadn2, V_istore7, V_iload6, U_laload, V_iload7, V_i2l, V_lcmp, T_9, T_10, s_97, V_aloadS, b_177_556, b_177_608, b_177_609, b_177_667, b_177_668, b_177_684, b_177_701, hw, hm])
      all_goals exact hK _ _
set_option maxRecDepth 20000 in
theorem case_8 {A T C P : Nat} {i : Int} {v6 v7 : MV} {Q : MOut → MHp → Prop} (hi : 0 ≤ i ∧ i + 8 < (L : Int)) (hL : (L : Int) ≤ 5000) (h : II S A T C P j e) (hj : j < 10000) (K : ∀ (S2 : Sg) (A T C P e2 : Nat) (v6 v7 : MV), II S2 A T C P (j + 1) e2 → m_ok xs L 177 b_177_1895 [vS, vR 0, vR 296, vR 341, vR 342, vI i, v6, v7] [] (mk S2 e2) Q) : m_ok xs L 177 b_177_840 [vS, vR 0, vR 296, vR 341, vR 342, vI i, v6, v7] [] (mk S e) Q := by
  by_cases hz : (xs (i + 2).toNat).toInt = 0
  ·
    obtain ⟨k, b, S1, e1, S2, A2, T2, C2, P2, hw, hm, hk, hb, ii⟩ := call_8 (xs := xs) (L := L) (c := (xs (i + 1).toNat).toInt) (w := 0) (g := (xs (i + 3).toNat).toInt) (p := (xs (i + 4).toNat).toInt) h (Or.inl rfl)
    have hK := fun v6 v7 => K S2 A2 T2 C2 P2 e1 v6 v7 ii
    by_cases hk0 : k = 0
    · have hA : m_age (mk S2 e1) 341 23 0 = some (vL (Int32.ofInt b).toInt64) := by rw [A_341, hb hk0, Int64.ofInt_toInt]
      have hg := lg_self (Int32.ofInt b).toInt64
      repeat' first
        | (refine V_icmp_eq.mpr ?_; first | rw [if_pos (by omega)] | rw [if_neg (by omega)] | split)
        | (refine V_if_eq.mpr ?_; first | rw [if_pos (by omega)] | rw [if_neg (by omega)] | split)
        | (refine V_if_ne.mpr ?_; first | rw [if_pos (by omega)] | rw [if_neg (by omega)] | split)
        | (simp (disch := (first | omega | (simp (disch := omega) only [up_f, up_s, up_i, up_k, up_e]; omega))) only [up_f, up_s, up_i, up_k, up_e, V_iconst, V_bipush, V_sipush, V_conti, V_contn, V_goto, Option.some.injEq, exists_eq_left', true_and, and_true, m_fit, Option.isSome_some, List.map_nil, List.map_cons, List.sum_nil, List.sum_cons, List.all_nil, List.all_cons, m_cat, decide_true, Bool.and_true, Bool.true_and, Nat.zero_le, Int.toNat_natCast, Int.reduceAdd, Int.reduceSub, Int.reduceMul, Int.reduceNeg, Int.reduceLE, Int.reduceLT, Nat.reduceAdd, Nat.reduceLeDiff, Int.reduceToNat, Int.reduceEq, decide_eq_true_eq, true_or, or_true, exists_and_left, and_self, Nat.reduceMul, Nat.reduceSub, Nat.reduceLT, m_oa, Nat.reduceEqDiff, or_false, false_or, Sum.inl.injEq, Sum.inr.injEq, ↓reduceIte, ne_eq, not_false_eq_true, Int.reduceNe, exists_eq_left, D_177, R_177, X_177, I_177_100, J_177_853, J_177_857, I_177_129, J_177_892, J_177_896, I_177_132, J_177_923, J_177_930, J_177_940, J_177_945, V_aloadn1, V_aloadn0, V_iload5, V_iadd, m_add_eq, V_sal, V_aloadn3, V_istore6, V_aloadn2, V_istore7, V_iload6, U_laload, V_iload7, V_i2l, V_lcmp, T_9, T_10, s_97, V_aloadS, b_177_840, b_177_860, b_177_861, b_177_899, b_177_900, b_177_928, b_177_945, hw, hm, hA, hg])
      all_goals exact hK _ _
    ·
      repeat' first
        | (refine V_icmp_eq.mpr ?_; first | rw [if_pos (by omega)] | rw [if_neg (by omega)] | split)
        | (refine V_if_eq.mpr ?_; first | rw [if_pos (by omega)] | rw [if_neg (by omega)] | split)
        | (refine V_if_ne.mpr ?_; first | rw [if_pos (by omega)] | rw [if_neg (by omega)] | split)
        | (simp (disch := (first | omega | (simp (disch := omega) only [up_f, up_s, up_i, up_k, up_e]; omega))) only [up_f, up_s, up_i, up_k, up_e, V_iconst, V_bipush, V_sipush, V_conti, V_contn, V_goto, Option.some.injEq, exists_eq_left', true_and, and_true, m_fit, Option.isSome_some, List.map_nil, List.map_cons, List.sum_nil, List.sum_cons, List.all_nil, List.all_cons, m_cat, decide_true, Bool.and_true, Bool.true_and, Nat.zero_le, Int.toNat_natCast, Int.reduceAdd, Int.reduceSub, Int.reduceMul, Int.reduceNeg, Int.reduceLE, Int.reduceLT, Nat.reduceAdd, Nat.reduceLeDiff, Int.reduceToNat, Int.reduceEq, decide_eq_true_eq, true_or, or_true, exists_and_left, and_self, Nat.reduceMul, Nat.reduceSub, Nat.reduceLT, m_oa, Nat.reduceEqDiff, or_false, false_or, Sum.inl.injEq, Sum.inr.injEq, ↓reduceIte, ne_eq, not_false_eq_true, Int.reduceNe, exists_eq_left, D_177, R_177, X_177, I_177_100, J_177_853, J_177_857, I_177_129, J_177_892, J_177_896, I_177_132, J_177_923, J_177_930, J_177_940, J_177_945, V_aloadn1, V_aloadn0, V_iload5, V_iadd, m_add_eq, V_sal, V_aloadn3, V_istore6, V_aloadn2, V_istore7, V_iload6, U_laload, V_iload7, V_i2l, V_lcmp, T_9, T_10, s_97, V_aloadS, b_177_840, b_177_860, b_177_861, b_177_899, b_177_900, b_177_928, b_177_945, hw, hm])
      all_goals exact hK _ _
  ·
    obtain ⟨k, b, S1, e1, S2, A2, T2, C2, P2, hw, hm, hk, hb, ii⟩ := call_8 (xs := xs) (L := L) (c := (xs (i + 1).toNat).toInt) (w := 1) (g := (xs (i + 3).toNat).toInt) (p := (xs (i + 4).toNat).toInt) h (Or.inr rfl)
    have hK := fun v6 v7 => K S2 A2 T2 C2 P2 e1 v6 v7 ii
    by_cases hk0 : k = 0
    · have hA : m_age (mk S2 e1) 341 23 0 = some (vL (Int32.ofInt b).toInt64) := by rw [A_341, hb hk0, Int64.ofInt_toInt]
      have hg := lg_self (Int32.ofInt b).toInt64
      repeat' first
        | (refine V_icmp_eq.mpr ?_; first | rw [if_pos (by omega)] | rw [if_neg (by omega)] | split)
        | (refine V_if_eq.mpr ?_; first | rw [if_pos (by omega)] | rw [if_neg (by omega)] | split)
        | (refine V_if_ne.mpr ?_; first | rw [if_pos (by omega)] | rw [if_neg (by omega)] | split)
        | (simp (disch := (first | omega | (simp (disch := omega) only [up_f, up_s, up_i, up_k, up_e]; omega))) only [up_f, up_s, up_i, up_k, up_e, V_iconst, V_bipush, V_sipush, V_conti, V_contn, V_goto, Option.some.injEq, exists_eq_left', true_and, and_true, m_fit, Option.isSome_some, List.map_nil, List.map_cons, List.sum_nil, List.sum_cons, List.all_nil, List.all_cons, m_cat, decide_true, Bool.and_true, Bool.true_and, Nat.zero_le, Int.toNat_natCast, Int.reduceAdd, Int.reduceSub, Int.reduceMul, Int.reduceNeg, Int.reduceLE, Int.reduceLT, Nat.reduceAdd, Nat.reduceLeDiff, Int.reduceToNat, Int.reduceEq, decide_eq_true_eq, true_or, or_true, exists_and_left, and_self, Nat.reduceMul, Nat.reduceSub, Nat.reduceLT, m_oa, Nat.reduceEqDiff, or_false, false_or, Sum.inl.injEq, Sum.inr.injEq, ↓reduceIte, ne_eq, not_false_eq_true, Int.reduceNe, exists_eq_left, D_177, R_177, X_177, I_177_100, J_177_853, J_177_857, I_177_129, J_177_892, J_177_896, I_177_132, J_177_923, J_177_930, J_177_940, J_177_945, V_aloadn1, V_aloadn0, V_iload5, V_iadd, m_add_eq, V_sal, V_aloadn3, V_istore6, V_aloadn2, V_istore7, V_iload6, U_laload, V_iload7, V_i2l, V_lcmp, T_9, T_10, s_97, V_aloadS, b_177_840, b_177_860, b_177_861, b_177_899, b_177_900, b_177_928, b_177_945, hw, hm, hA, hg])
      all_goals exact hK _ _
    ·
      repeat' first
        | (refine V_icmp_eq.mpr ?_; first | rw [if_pos (by omega)] | rw [if_neg (by omega)] | split)
        | (refine V_if_eq.mpr ?_; first | rw [if_pos (by omega)] | rw [if_neg (by omega)] | split)
        | (refine V_if_ne.mpr ?_; first | rw [if_pos (by omega)] | rw [if_neg (by omega)] | split)
        | (simp (disch := (first | omega | (simp (disch := omega) only [up_f, up_s, up_i, up_k, up_e]; omega))) only [up_f, up_s, up_i, up_k, up_e, V_iconst, V_bipush, V_sipush, V_conti, V_contn, V_goto, Option.some.injEq, exists_eq_left', true_and, and_true, m_fit, Option.isSome_some, List.map_nil, List.map_cons, List.sum_nil, List.sum_cons, List.all_nil, List.all_cons, m_cat, decide_true, Bool.and_true, Bool.true_and, Nat.zero_le, Int.toNat_natCast, Int.reduceAdd, Int.reduceSub, Int.reduceMul, Int.reduceNeg, Int.reduceLE, Int.reduceLT, Nat.reduceAdd, Nat.reduceLeDiff, Int.reduceToNat, Int.reduceEq, decide_eq_true_eq, true_or, or_true, exists_and_left, and_self, Nat.reduceMul, Nat.reduceSub, Nat.reduceLT, m_oa, Nat.reduceEqDiff, or_false, false_or, Sum.inl.injEq, Sum.inr.injEq, ↓reduceIte, ne_eq, not_false_eq_true, Int.reduceNe, exists_eq_left, D_177, R_177, X_177, I_177_100, J_177_853, J_177_857, I_177_129, J_177_892, J_177_896, I_177_132, J_177_923, J_177_930, J_177_940, J_177_945, V_aloadn1, V_aloadn0, V_iload5, V_iadd, m_add_eq, V_sal, V_aloadn3, V_istore6, V_aloadn2, V_istore7, V_iload6, U_laload, V_iload7, V_i2l, V_lcmp, T_9, T_10, s_97, V_aloadS, b_177_840, b_177_860, b_177_861, b_177_899, b_177_900, b_177_928, b_177_945, hw, hm])
      all_goals exact hK _ _
set_option maxRecDepth 20000 in
theorem case_10 {A T C P : Nat} {i : Int} {v6 v7 : MV} {Q : MOut → MHp → Prop} (hi : 0 ≤ i ∧ i + 8 < (L : Int)) (hL : (L : Int) ≤ 5000) (h : II S A T C P j e) (hj : j < 10000) (K : ∀ (S2 : Sg) (A T C P e2 : Nat) (v6 v7 : MV), II S2 A T C P (j + 1) e2 → m_ok xs L 177 b_177_1895 [vS, vR 0, vR 296, vR 341, vR 342, vI i, v6, v7] [] (mk S2 e2) Q) : m_ok xs L 177 b_177_1004 [vS, vR 0, vR 296, vR 341, vR 342, vI i, v6, v7] [] (mk S e) Q := by
  obtain ⟨k, S1, e1, S2, hw, hm, hk, ii⟩ := call_10 (xs := xs) (L := L) (i := (xs (i + 1).toNat).toInt) (l := (xs (i + 2).toNat).toInt) h
  have hK := fun v6 v7 => K S2 A T C P e1 v6 v7 ii
  repeat' first
    | (refine V_icmp_eq.mpr ?_; first | rw [if_pos (by omega)] | rw [if_neg (by omega)] | split)
    | (simp (disch := (first | omega | (simp (disch := omega) only [up_f, up_s, up_i, up_k, up_e]; omega))) only [up_f, up_s, up_i, up_k, up_e, V_iconst, V_bipush, V_sipush, V_conti, V_contn, V_goto, Option.some.injEq, exists_eq_left', true_and, and_true, m_fit, Option.isSome_some, List.map_nil, List.map_cons, List.sum_nil, List.sum_cons, List.all_nil, List.all_cons, m_cat, decide_true, Bool.and_true, Bool.true_and, Nat.zero_le, Int.toNat_natCast, Int.reduceAdd, Int.reduceSub, Int.reduceMul, Int.reduceNeg, Int.reduceLE, Int.reduceLT, Nat.reduceAdd, Nat.reduceLeDiff, Int.reduceToNat, Int.reduceEq, decide_eq_true_eq, true_or, or_true, exists_and_left, and_self, Nat.reduceMul, Nat.reduceSub, Nat.reduceLT, m_oa, Nat.reduceEqDiff, or_false, false_or, Sum.inl.injEq, Sum.inr.injEq, ↓reduceIte, ne_eq, not_false_eq_true, Int.reduceNe, exists_eq_left, D_177, R_177, X_177, I_177_100, I_177_136, I_177_139, J_177_1044, J_177_1049, V_aloadn1, V_aloadn0, V_iload5, V_iadd, m_add_eq, V_sal, V_istore6, V_aloadn2, V_iload6, T_9, T_10, s_97, V_aloadS, b_177_1004, b_177_1049, hw, hm])
  all_goals exact hK _ _
set_option maxRecDepth 20000 in
theorem case_18 {A T C P : Nat} {i : Int} {v6 v7 : MV} {Q : MOut → MHp → Prop} (hi : 0 ≤ i ∧ i + 8 < (L : Int)) (hL : (L : Int) ≤ 5000) (h : II S A T C P j e) (hj : j < 10000) (K : ∀ (S2 : Sg) (A T C P e2 : Nat) (v6 v7 : MV), II S2 A T C P (j + 1) e2 → m_ok xs L 177 b_177_1895 [vS, vR 0, vR 296, vR 341, vR 342, vI i, v6, v7] [] (mk S2 e2) Q) : m_ok xs L 177 b_177_1562 [vS, vR 0, vR 296, vR 341, vR 342, vI i, v6, v7] [] (mk S e) Q := by
  obtain ⟨b, S1, S2, hw, hm, ii⟩ := call_18 (xs := xs) (L := L) h
  have hK := fun v6 v7 => K S2 A T C P e v6 v7 ii
  repeat' first
    | (refine V_icmp_eq.mpr ?_; first | rw [if_pos (by omega)] | rw [if_neg (by omega)] | split)
    | (simp (disch := (first | omega | (simp (disch := omega) only [up_f, up_s, up_i, up_k, up_e]; omega))) only [up_f, up_s, up_i, up_k, up_e, V_iconst, V_bipush, V_sipush, V_conti, V_contn, V_goto, Option.some.injEq, exists_eq_left', true_and, and_true, m_fit, Option.isSome_some, List.map_nil, List.map_cons, List.sum_nil, List.sum_cons, List.all_nil, List.all_cons, m_cat, decide_true, Bool.and_true, Bool.true_and, Nat.zero_le, Int.toNat_natCast, Int.reduceAdd, Int.reduceSub, Int.reduceMul, Int.reduceNeg, Int.reduceLE, Int.reduceLT, Nat.reduceAdd, Nat.reduceLeDiff, Int.reduceToNat, Int.reduceEq, decide_eq_true_eq, true_or, or_true, exists_and_left, and_self, Nat.reduceMul, Nat.reduceSub, Nat.reduceLT, m_oa, Nat.reduceEqDiff, or_false, false_or, Sum.inl.injEq, Sum.inr.injEq, ↓reduceIte, ne_eq, not_false_eq_true, Int.reduceNe, exists_eq_left, D_177, R_177, X_177, I_177_162, I_177_165, J_177_1570, V_aloadn1, V_aloadn2, T_9, T_10, s_97, V_aloadS, b_177_1562, hw, hm])
  all_goals exact hK _ _
set_option maxRecDepth 20000 in
theorem case_23 {A T C P : Nat} {i : Int} {v6 v7 : MV} {Q : MOut → MHp → Prop} (hi : 0 ≤ i ∧ i + 8 < (L : Int)) (hL : (L : Int) ≤ 5000) (h : II S A T C P j e) (hj : j < 10000) (K : ∀ (S2 : Sg) (A T C P e2 : Nat) (v6 v7 : MV), II S2 A T C P (j + 1) e2 → m_ok xs L 177 b_177_1895 [vS, vR 0, vR 296, vR 341, vR 342, vI i, v6, v7] [] (mk S2 e2) Q) : m_ok xs L 177 b_177_1882 [vS, vR 0, vR 296, vR 341, vR 342, vI i, v6, v7] [] (mk S e) Q := by
  obtain ⟨b, S1, S2, hw, hm, ii⟩ := call_25 (xs := xs) (L := L) h
  have hK := fun v6 v7 => K S2 A T C P e v6 v7 ii
  repeat' first
    | (refine V_icmp_eq.mpr ?_; first | rw [if_pos (by omega)] | rw [if_neg (by omega)] | split)
    | (simp (disch := (first | omega | (simp (disch := omega) only [up_f, up_s, up_i, up_k, up_e]; omega))) only [up_f, up_s, up_i, up_k, up_e, V_iconst, V_bipush, V_sipush, V_conti, V_contn, V_goto, Option.some.injEq, exists_eq_left', true_and, and_true, m_fit, Option.isSome_some, List.map_nil, List.map_cons, List.sum_nil, List.sum_cons, List.all_nil, List.all_cons, m_cat, decide_true, Bool.and_true, Bool.true_and, Nat.zero_le, Int.toNat_natCast, Int.reduceAdd, Int.reduceSub, Int.reduceMul, Int.reduceNeg, Int.reduceLE, Int.reduceLT, Nat.reduceAdd, Nat.reduceLeDiff, Int.reduceToNat, Int.reduceEq, decide_eq_true_eq, true_or, or_true, exists_and_left, and_self, Nat.reduceMul, Nat.reduceSub, Nat.reduceLT, m_oa, Nat.reduceEqDiff, or_false, false_or, Sum.inl.injEq, Sum.inr.injEq, ↓reduceIte, ne_eq, not_false_eq_true, Int.reduceNe, exists_eq_left, D_177, R_177, X_177, I_177_179, I_177_182, J_177_1890, V_aloadn1, V_aloadn2, T_9, T_10, s_97, V_aloadS, b_177_1882, hw, hm])
  all_goals exact hK _ _
set_option maxRecDepth 20000 in
theorem case_22 {A T C P : Nat} {i : Int} {v6 v7 : MV} {Q : MOut → MHp → Prop} (hi : 0 ≤ i ∧ i + 8 < (L : Int)) (hL : (L : Int) ≤ 5000) (h : II S A T C P j e) (hj : j < 10000) (K : ∀ (S2 : Sg) (A T C P e2 : Nat) (v6 v7 : MV), II S2 A T C P (j + 1) e2 → m_ok xs L 177 b_177_1895 [vS, vR 0, vR 296, vR 341, vR 342, vI i, v6, v7] [] (mk S2 e2) Q) : m_ok xs L 177 b_177_1779 [vS, vR 0, vR 296, vR 341, vR 342, vI i, v6, v7] [] (mk S e) Q := by
  by_cases hz : (xs (i + 2).toNat).toInt = 0
  ·
    obtain ⟨k, b, S1, e1, S2, hw, hm, hk, hb, hb01, ii⟩ := call_24 (xs := xs) (L := L) (c := (xs (i + 1).toNat).toInt) (w := 0) (p := (xs (i + 3).toNat).toInt) h (Or.inl rfl)
    have hK := fun v6 v7 => K S2 A T C P e1 v6 v7 ii
    by_cases hk0 : k = 0
    · rcases hb01 with rfl | rfl
      · have hA : m_age (mk S2 e1) 341 23 0 = some (vL (Int64.ofNat ((0 : Fin 2) : Nat))) := by
          rw [A_341, hb hk0]
          rfl
        have hg := lg_self (Int64.ofNat ((0 : Fin 2) : Nat))
        repeat' first
          | (refine V_icmp_eq.mpr ?_; first | rw [if_pos (by omega)] | rw [if_neg (by omega)] | split)
          | (refine V_if_eq.mpr ?_; first | rw [if_pos (by omega)] | rw [if_neg (by omega)] | split)
          | (refine V_if_ne.mpr ?_; first | rw [if_pos (by omega)] | rw [if_neg (by omega)] | split)
          | (simp (disch := (first | omega | (simp (disch := omega) only [up_f, up_s, up_i, up_k, up_e]; omega))) only [up_f, up_s, up_i, up_k, up_e, V_iconst, V_bipush, V_sipush, V_conti, V_contn, V_goto, Option.some.injEq, exists_eq_left', true_and, and_true, m_fit, Option.isSome_some, List.map_nil, List.map_cons, List.sum_nil, List.sum_cons, List.all_nil, List.all_cons, m_cat, decide_true, Bool.and_true, Bool.true_and, Nat.zero_le, Int.toNat_natCast, Int.reduceAdd, Int.reduceSub, Int.reduceMul, Int.reduceNeg, Int.reduceLE, Int.reduceLT, Nat.reduceAdd, Nat.reduceLeDiff, Int.reduceToNat, Int.reduceEq, decide_eq_true_eq, true_or, or_true, exists_and_left, and_self, Nat.reduceMul, Nat.reduceSub, Nat.reduceLT, m_oa, Nat.reduceEqDiff, or_false, false_or, Sum.inl.injEq, Sum.inr.injEq, ↓reduceIte, ne_eq, not_false_eq_true, Int.reduceNe, exists_eq_left, D_177, R_177, X_177, I_177_100, J_177_1792, J_177_1796, I_177_175, J_177_1825, J_177_1829, I_177_178, J_177_1850, J_177_1857, J_177_1865, J_177_1869, J_177_1874, J_177_1879, V_aloadn1, V_aloadn0, V_iload5, V_iadd, m_add_eq, V_sal, V_aloadn3, V_istore6, V_aloadn2, V_istore7, V_iload6, U_laload, V_iload7, V_lconst, V_lcmp, T_9, T_10, s_97, V_aloadS, b_177_1779, b_177_1799, b_177_1800, b_177_1832, b_177_1833, b_177_1855, b_177_1872, b_177_1873, b_177_1879, hw, hm, hA, hg])
        all_goals exact hK _ _
      · have hA : m_age (mk S2 e1) 341 23 0 = some (vL (Int64.ofNat ((1 : Fin 2) : Nat))) := by
          rw [A_341, hb hk0]
          rfl
        have hg := lg_self (Int64.ofNat ((1 : Fin 2) : Nat))
        repeat' first
          | (refine V_icmp_eq.mpr ?_; first | rw [if_pos (by omega)] | rw [if_neg (by omega)] | split)
          | (refine V_if_eq.mpr ?_; first | rw [if_pos (by omega)] | rw [if_neg (by omega)] | split)
          | (refine V_if_ne.mpr ?_; first | rw [if_pos (by omega)] | rw [if_neg (by omega)] | split)
          | (simp (disch := (first | omega | (simp (disch := omega) only [up_f, up_s, up_i, up_k, up_e]; omega))) only [up_f, up_s, up_i, up_k, up_e, V_iconst, V_bipush, V_sipush, V_conti, V_contn, V_goto, Option.some.injEq, exists_eq_left', true_and, and_true, m_fit, Option.isSome_some, List.map_nil, List.map_cons, List.sum_nil, List.sum_cons, List.all_nil, List.all_cons, m_cat, decide_true, Bool.and_true, Bool.true_and, Nat.zero_le, Int.toNat_natCast, Int.reduceAdd, Int.reduceSub, Int.reduceMul, Int.reduceNeg, Int.reduceLE, Int.reduceLT, Nat.reduceAdd, Nat.reduceLeDiff, Int.reduceToNat, Int.reduceEq, decide_eq_true_eq, true_or, or_true, exists_and_left, and_self, Nat.reduceMul, Nat.reduceSub, Nat.reduceLT, m_oa, Nat.reduceEqDiff, or_false, false_or, Sum.inl.injEq, Sum.inr.injEq, ↓reduceIte, ne_eq, not_false_eq_true, Int.reduceNe, exists_eq_left, D_177, R_177, X_177, I_177_100, J_177_1792, J_177_1796, I_177_175, J_177_1825, J_177_1829, I_177_178, J_177_1850, J_177_1857, J_177_1865, J_177_1869, J_177_1874, J_177_1879, V_aloadn1, V_aloadn0, V_iload5, V_iadd, m_add_eq, V_sal, V_aloadn3, V_istore6, V_aloadn2, V_istore7, V_iload6, U_laload, V_iload7, V_lconst, V_lcmp, T_9, T_10, s_97, V_aloadS, b_177_1779, b_177_1799, b_177_1800, b_177_1832, b_177_1833, b_177_1855, b_177_1872, b_177_1873, b_177_1879, hw, hm, hA, hg])
        all_goals exact hK _ _
    ·
      repeat' first
        | (refine V_icmp_eq.mpr ?_; first | rw [if_pos (by omega)] | rw [if_neg (by omega)] | split)
        | (refine V_if_eq.mpr ?_; first | rw [if_pos (by omega)] | rw [if_neg (by omega)] | split)
        | (refine V_if_ne.mpr ?_; first | rw [if_pos (by omega)] | rw [if_neg (by omega)] | split)
        | (simp (disch := (first | omega | (simp (disch := omega) only [up_f, up_s, up_i, up_k, up_e]; omega))) only [up_f, up_s, up_i, up_k, up_e, V_iconst, V_bipush, V_sipush, V_conti, V_contn, V_goto, Option.some.injEq, exists_eq_left', true_and, and_true, m_fit, Option.isSome_some, List.map_nil, List.map_cons, List.sum_nil, List.sum_cons, List.all_nil, List.all_cons, m_cat, decide_true, Bool.and_true, Bool.true_and, Nat.zero_le, Int.toNat_natCast, Int.reduceAdd, Int.reduceSub, Int.reduceMul, Int.reduceNeg, Int.reduceLE, Int.reduceLT, Nat.reduceAdd, Nat.reduceLeDiff, Int.reduceToNat, Int.reduceEq, decide_eq_true_eq, true_or, or_true, exists_and_left, and_self, Nat.reduceMul, Nat.reduceSub, Nat.reduceLT, m_oa, Nat.reduceEqDiff, or_false, false_or, Sum.inl.injEq, Sum.inr.injEq, ↓reduceIte, ne_eq, not_false_eq_true, Int.reduceNe, exists_eq_left, D_177, R_177, X_177, I_177_100, J_177_1792, J_177_1796, I_177_175, J_177_1825, J_177_1829, I_177_178, J_177_1850, J_177_1857, J_177_1865, J_177_1869, J_177_1874, J_177_1879, V_aloadn1, V_aloadn0, V_iload5, V_iadd, m_add_eq, V_sal, V_aloadn3, V_istore6, V_aloadn2, V_istore7, V_iload6, U_laload, V_iload7, V_lconst, V_lcmp, T_9, T_10, s_97, V_aloadS, b_177_1779, b_177_1799, b_177_1800, b_177_1832, b_177_1833, b_177_1855, b_177_1872, b_177_1873, b_177_1879, hw, hm])
      all_goals exact hK _ _
  ·
    obtain ⟨k, b, S1, e1, S2, hw, hm, hk, hb, hb01, ii⟩ := call_24 (xs := xs) (L := L) (c := (xs (i + 1).toNat).toInt) (w := 1) (p := (xs (i + 3).toNat).toInt) h (Or.inr rfl)
    have hK := fun v6 v7 => K S2 A T C P e1 v6 v7 ii
    by_cases hk0 : k = 0
    · rcases hb01 with rfl | rfl
      · have hA : m_age (mk S2 e1) 341 23 0 = some (vL (Int64.ofNat ((0 : Fin 2) : Nat))) := by
          rw [A_341, hb hk0]
          rfl
        have hg := lg_self (Int64.ofNat ((0 : Fin 2) : Nat))
        repeat' first
          | (refine V_icmp_eq.mpr ?_; first | rw [if_pos (by omega)] | rw [if_neg (by omega)] | split)
          | (refine V_if_eq.mpr ?_; first | rw [if_pos (by omega)] | rw [if_neg (by omega)] | split)
          | (refine V_if_ne.mpr ?_; first | rw [if_pos (by omega)] | rw [if_neg (by omega)] | split)
          | (simp (disch := (first | omega | (simp (disch := omega) only [up_f, up_s, up_i, up_k, up_e]; omega))) only [up_f, up_s, up_i, up_k, up_e, V_iconst, V_bipush, V_sipush, V_conti, V_contn, V_goto, Option.some.injEq, exists_eq_left', true_and, and_true, m_fit, Option.isSome_some, List.map_nil, List.map_cons, List.sum_nil, List.sum_cons, List.all_nil, List.all_cons, m_cat, decide_true, Bool.and_true, Bool.true_and, Nat.zero_le, Int.toNat_natCast, Int.reduceAdd, Int.reduceSub, Int.reduceMul, Int.reduceNeg, Int.reduceLE, Int.reduceLT, Nat.reduceAdd, Nat.reduceLeDiff, Int.reduceToNat, Int.reduceEq, decide_eq_true_eq, true_or, or_true, exists_and_left, and_self, Nat.reduceMul, Nat.reduceSub, Nat.reduceLT, m_oa, Nat.reduceEqDiff, or_false, false_or, Sum.inl.injEq, Sum.inr.injEq, ↓reduceIte, ne_eq, not_false_eq_true, Int.reduceNe, exists_eq_left, D_177, R_177, X_177, I_177_100, J_177_1792, J_177_1796, I_177_175, J_177_1825, J_177_1829, I_177_178, J_177_1850, J_177_1857, J_177_1865, J_177_1869, J_177_1874, J_177_1879, V_aloadn1, V_aloadn0, V_iload5, V_iadd, m_add_eq, V_sal, V_aloadn3, V_istore6, V_aloadn2, V_istore7, V_iload6, U_laload, V_iload7, V_lconst, V_lcmp, T_9, T_10, s_97, V_aloadS, b_177_1779, b_177_1799, b_177_1800, b_177_1832, b_177_1833, b_177_1855, b_177_1872, b_177_1873, b_177_1879, hw, hm, hA, hg])
        all_goals exact hK _ _
      · have hA : m_age (mk S2 e1) 341 23 0 = some (vL (Int64.ofNat ((1 : Fin 2) : Nat))) := by
          rw [A_341, hb hk0]
          rfl
        have hg := lg_self (Int64.ofNat ((1 : Fin 2) : Nat))
        repeat' first
          | (refine V_icmp_eq.mpr ?_; first | rw [if_pos (by omega)] | rw [if_neg (by omega)] | split)
          | (refine V_if_eq.mpr ?_; first | rw [if_pos (by omega)] | rw [if_neg (by omega)] | split)
          | (refine V_if_ne.mpr ?_; first | rw [if_pos (by omega)] | rw [if_neg (by omega)] | split)
          | (simp (disch := (first | omega | (simp (disch := omega) only [up_f, up_s, up_i, up_k, up_e]; omega))) only [up_f, up_s, up_i, up_k, up_e, V_iconst, V_bipush, V_sipush, V_conti, V_contn, V_goto, Option.some.injEq, exists_eq_left', true_and, and_true, m_fit, Option.isSome_some, List.map_nil, List.map_cons, List.sum_nil, List.sum_cons, List.all_nil, List.all_cons, m_cat, decide_true, Bool.and_true, Bool.true_and, Nat.zero_le, Int.toNat_natCast, Int.reduceAdd, Int.reduceSub, Int.reduceMul, Int.reduceNeg, Int.reduceLE, Int.reduceLT, Nat.reduceAdd, Nat.reduceLeDiff, Int.reduceToNat, Int.reduceEq, decide_eq_true_eq, true_or, or_true, exists_and_left, and_self, Nat.reduceMul, Nat.reduceSub, Nat.reduceLT, m_oa, Nat.reduceEqDiff, or_false, false_or, Sum.inl.injEq, Sum.inr.injEq, ↓reduceIte, ne_eq, not_false_eq_true, Int.reduceNe, exists_eq_left, D_177, R_177, X_177, I_177_100, J_177_1792, J_177_1796, I_177_175, J_177_1825, J_177_1829, I_177_178, J_177_1850, J_177_1857, J_177_1865, J_177_1869, J_177_1874, J_177_1879, V_aloadn1, V_aloadn0, V_iload5, V_iadd, m_add_eq, V_sal, V_aloadn3, V_istore6, V_aloadn2, V_istore7, V_iload6, U_laload, V_iload7, V_lconst, V_lcmp, T_9, T_10, s_97, V_aloadS, b_177_1779, b_177_1799, b_177_1800, b_177_1832, b_177_1833, b_177_1855, b_177_1872, b_177_1873, b_177_1879, hw, hm, hA, hg])
        all_goals exact hK _ _
    ·
      repeat' first
        | (refine V_icmp_eq.mpr ?_; first | rw [if_pos (by omega)] | rw [if_neg (by omega)] | split)
        | (refine V_if_eq.mpr ?_; first | rw [if_pos (by omega)] | rw [if_neg (by omega)] | split)
        | (refine V_if_ne.mpr ?_; first | rw [if_pos (by omega)] | rw [if_neg (by omega)] | split)
        | (simp (disch := (first | omega | (simp (disch := omega) only [up_f, up_s, up_i, up_k, up_e]; omega))) only [up_f, up_s, up_i, up_k, up_e, V_iconst, V_bipush, V_sipush, V_conti, V_contn, V_goto, Option.some.injEq, exists_eq_left', true_and, and_true, m_fit, Option.isSome_some, List.map_nil, List.map_cons, List.sum_nil, List.sum_cons, List.all_nil, List.all_cons, m_cat, decide_true, Bool.and_true, Bool.true_and, Nat.zero_le, Int.toNat_natCast, Int.reduceAdd, Int.reduceSub, Int.reduceMul, Int.reduceNeg, Int.reduceLE, Int.reduceLT, Nat.reduceAdd, Nat.reduceLeDiff, Int.reduceToNat, Int.reduceEq, decide_eq_true_eq, true_or, or_true, exists_and_left, and_self, Nat.reduceMul, Nat.reduceSub, Nat.reduceLT, m_oa, Nat.reduceEqDiff, or_false, false_or, Sum.inl.injEq, Sum.inr.injEq, ↓reduceIte, ne_eq, not_false_eq_true, Int.reduceNe, exists_eq_left, D_177, R_177, X_177, I_177_100, J_177_1792, J_177_1796, I_177_175, J_177_1825, J_177_1829, I_177_178, J_177_1850, J_177_1857, J_177_1865, J_177_1869, J_177_1874, J_177_1879, V_aloadn1, V_aloadn0, V_iload5, V_iadd, m_add_eq, V_sal, V_aloadn3, V_istore6, V_aloadn2, V_istore7, V_iload6, U_laload, V_iload7, V_lconst, V_lcmp, T_9, T_10, s_97, V_aloadS, b_177_1779, b_177_1799, b_177_1800, b_177_1832, b_177_1833, b_177_1855, b_177_1872, b_177_1873, b_177_1879, hw, hm])
      all_goals exact hK _ _
set_option maxRecDepth 20000 in
theorem case_15 {A T C P : Nat} {i : Int} {v6 v7 : MV} {Q : MOut → MHp → Prop} (hi : 0 ≤ i ∧ i + 8 < (L : Int)) (hL : (L : Int) ≤ 5000) (h : II S A T C P j e) (hj : j < 10000) (K : ∀ (S2 : Sg) (A T C P e2 : Nat) (v6 v7 : MV), II S2 A T C P (j + 1) e2 → m_ok xs L 177 b_177_1895 [vS, vR 0, vR 296, vR 341, vR 342, vI i, v6, v7] [] (mk S2 e2) Q) : m_ok xs L 177 b_177_1336 [vS, vR 0, vR 296, vR 341, vR 342, vI i, v6, v7] [] (mk S e) Q := by
  obtain ⟨k, v, S1, e1, S2, hw, hm, hk, hb, ii⟩ := call_15 (xs := xs) (L := L) (a := (xs (i + 1).toNat).toInt) (b := (xs (i + 2).toNat).toInt) h
  have hK := fun v6 v7 => K S2 A T C P e1 v6 v7 ii
  by_cases hk0 : k = 0
  · obtain ⟨hb1, hb2⟩ := hb hk0
    have hA : m_age (mk S2 e1) 342 24 0 = some (vD (FP.f2d v)) := by rw [A_342, hb1, Int.toNat_natCast, UInt64.ofNat_toNat]
    have hn := nn64_of hb2
    have hd : (Op.cmpValue (FP.dcmp (FP.f2d v) (FP.f2d v)) .l).toInt = 0 := by
      rw [show FP.dcmp (FP.f2d v) (FP.f2d v) = some .eq from Jvm.FP.Core.dcmp_refl hb2]
      rfl
    repeat' first
      | (refine V_icmp_eq.mpr ?_; first | rw [if_pos (by omega)] | rw [if_neg (by omega)] | split)
      | (refine V_if_eq.mpr ?_; first | rw [if_pos (by omega)] | rw [if_neg (by omega)] | split)
      | (refine V_if_ne.mpr ?_; first | rw [if_pos (by omega)] | rw [if_neg (by omega)] | split)
      | (simp (disch := (first | omega | (simp (disch := omega) only [up_f, up_s, up_i, up_k, up_e]; omega))) only [up_f, up_s, up_i, up_k, up_e, V_iconst, V_bipush, V_sipush, V_conti, V_contn, V_goto, Option.some.injEq, exists_eq_left', true_and, and_true, m_fit, Option.isSome_some, List.map_nil, List.map_cons, List.sum_nil, List.sum_cons, List.all_nil, List.all_cons, m_cat, decide_true, Bool.and_true, Bool.true_and, Nat.zero_le, Int.toNat_natCast, Int.reduceAdd, Int.reduceSub, Int.reduceMul, Int.reduceNeg, Int.reduceLE, Int.reduceLT, Nat.reduceAdd, Nat.reduceLeDiff, Int.reduceToNat, Int.reduceEq, decide_eq_true_eq, true_or, or_true, exists_and_left, and_self, Nat.reduceMul, Nat.reduceSub, Nat.reduceLT, m_oa, Nat.reduceEqDiff, or_false, false_or, Sum.inl.injEq, Sum.inr.injEq, ↓reduceIte, ne_eq, not_false_eq_true, Int.reduceNe, exists_eq_left, D_177, R_177, X_177, I_177_100, I_177_152, I_177_155, J_177_1380, J_177_1387, J_177_1398, J_177_1410, J_177_1418, J_177_1423, V_aloadn1, V_aloadn0, V_iload5, V_iadd, m_add_eq, V_sal, V_aload4, V_istore6, V_aloadn2, V_fstore7, V_iload6, U_daload, V_fload7, V_f2d, V_dcmp, V_fcmp, T_9, T_10, s_97, V_aloadS, b_177_1336, b_177_1385, b_177_1421, b_177_1423, hw, hm, hA, hn, hd])
    all_goals exact hK _ _
  ·
    repeat' first
      | (refine V_icmp_eq.mpr ?_; first | rw [if_pos (by omega)] | rw [if_neg (by omega)] | split)
      | (refine V_if_eq.mpr ?_; first | rw [if_pos (by omega)] | rw [if_neg (by omega)] | split)
      | (refine V_if_ne.mpr ?_; first | rw [if_pos (by omega)] | rw [if_neg (by omega)] | split)
      | (simp (disch := (first | omega | (simp (disch := omega) only [up_f, up_s, up_i, up_k, up_e]; omega))) only [up_f, up_s, up_i, up_k, up_e, V_iconst, V_bipush, V_sipush, V_conti, V_contn, V_goto, Option.some.injEq, exists_eq_left', true_and, and_true, m_fit, Option.isSome_some, List.map_nil, List.map_cons, List.sum_nil, List.sum_cons, List.all_nil, List.all_cons, m_cat, decide_true, Bool.and_true, Bool.true_and, Nat.zero_le, Int.toNat_natCast, Int.reduceAdd, Int.reduceSub, Int.reduceMul, Int.reduceNeg, Int.reduceLE, Int.reduceLT, Nat.reduceAdd, Nat.reduceLeDiff, Int.reduceToNat, Int.reduceEq, decide_eq_true_eq, true_or, or_true, exists_and_left, and_self, Nat.reduceMul, Nat.reduceSub, Nat.reduceLT, m_oa, Nat.reduceEqDiff, or_false, false_or, Sum.inl.injEq, Sum.inr.injEq, ↓reduceIte, ne_eq, not_false_eq_true, Int.reduceNe, exists_eq_left, D_177, R_177, X_177, I_177_100, I_177_152, I_177_155, J_177_1380, J_177_1387, J_177_1398, J_177_1410, J_177_1418, J_177_1423, V_aloadn1, V_aloadn0, V_iload5, V_iadd, m_add_eq, V_sal, V_aload4, V_istore6, V_aloadn2, V_fstore7, V_iload6, U_daload, V_fload7, V_f2d, V_dcmp, V_fcmp, T_9, T_10, s_97, V_aloadS, b_177_1336, b_177_1385, b_177_1421, b_177_1423, hw, hm])
    all_goals exact hK _ _
end V
