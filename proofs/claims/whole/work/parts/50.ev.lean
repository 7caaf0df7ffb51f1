/-! ===== a night of the class by events, by minutes ===== -/
theorem soon {now x b : Int} (h : now < x ∧ x ≤ 2000) : (now < (if now < b ∧ b < x then b else x) ∧ (if now < b ∧ b < x then b else x) ≤ 2000) ∧ (if now < b ∧ b < x then b else x) ≤ x ∧ ¬ (now < b ∧ b < (if now < b ∧ b < x then b else x)) := by
  by_cases hq : now < b ∧ b < x
  · rw [if_pos hq]; omega
  · rw [if_neg hq]; omega
def nxT (D N : Sg) (now x : Int) (t : Nat) : Prop := ¬ (now < due N t ∧ due N t < x) ∧ ¬ (now < rpe D N t ∧ rpe D N t < x) ∧ (rpe D N t = 1000000 ∨ ¬ (now < pnd D N t ∧ pnd D N t < x))
theorem nxT_le {D N : Sg} {now x y : Int} {t : Nat} (h : nxT D N now x t) (k : y ≤ x) : nxT D N now y t := by
  unfold nxT at h ⊢
  omega
section V
variable {xs : Nat → Int32} {L : Nat} {e : Nat}
theorem k_24a {n T C : Nat} {D S0 S : Sg} {s : St} {now : Int} {Q : MOut → MHp → Prop} (hn : n < 3) (wp : WP D T C) (w : WN D T C s) (cr : CR n T C D S0 S s) (K : ∀ (x ii : Int) (v : MV), now < x ∧ x ≤ 2000 → (∀ u, u < T → nxT D s.1 now x u) → m_ok xs L 24 b_24_74 [vR (nt n), vI now, vI x, vI ii, v] [] (mk S e) Q) : ∀ (z t : Nat) (x ii : Int) (v : MV), t + z = T → ii = t → now < x ∧ x ≤ 2000 → (∀ u, u < t → nxT D s.1 now x u) → m_ok xs L 24 b_24_6 [vR (nt n), vI now, vI x, vI ii, v] [] (mk S e) Q
  | 0, t, x, ii, v, hz, hii, hx, hu => by
    have ht : t = T := by omega
    subst ht
    subst hii
    have h1403 : S 1403 0 0 = t := by rw [PC_1403 cr.1]; exact wp.1
    have k := K x t v hx hu
    unfold b_24_6
    repeat' first
      | (refine V_icmp_eq.mpr ?_; first | rw [if_pos (by omega)] | rw [if_neg (by omega)] | split)
      | (refine V_icmp_ge.mpr ?_; first | rw [if_pos (by omega)] | rw [if_neg (by omega)] | split)
      | (simp (disch := (first | omega | (simp (disch := omega) only [up_f, up_s, up_i, up_k, up_e]; omega))) only [up_f, up_s, up_i, up_k, up_e, V_iconst, V_bipush, V_sipush, V_conti, V_contn, V_goto, Option.some.injEq, exists_eq_left', true_and, and_true, m_fit, Option.isSome_some, List.map_nil, List.map_cons, List.sum_nil, List.sum_cons, List.all_nil, List.all_cons, m_cat, decide_true, Bool.and_true, Bool.true_and, Nat.zero_le, Int.toNat_natCast, Int.reduceAdd, Int.reduceSub, Int.reduceMul, Int.reduceNeg, Int.reduceLE, Int.reduceLT, Nat.reduceAdd, Nat.reduceLeDiff, Int.reduceToNat, Int.reduceEq, decide_eq_true_eq, true_or, or_true, exists_and_left, and_self, Nat.reduceMul, Nat.reduceSub, Nat.reduceLT, m_oa, Nat.reduceEqDiff, or_false, false_or, Sum.inl.injEq, Sum.inr.injEq, ↓reduceIte, ne_eq, not_false_eq_true, Int.reduceNe, exists_eq_left, D_24, R_24, X_24, F_24_31, F_24_79, J_24_14, F_24_11, F_24_97, I_24_100, F_24_104, C_24_107, J_24_43, I_24_108, J_24_71, F_24_72, J_24_84, F_24_19, F_24_111, J_24_105, V_istoren2, V_istoren3, V_iloadn3, V_aloadn0, G_2_0, G_4_3, G_2_1, A_ntR, T_antR, U_aaload, V_astore4, V_iloadn2, V_aload4, G_5_4, V_iloadn1, G_5_5, T_5, V_iinc3, m_add_eq, G_4_5, G_2_2, A_ntW, T_antW, G_8_2, b_24_0, b_24_68, b_24_76, b_24_108, h1403])
    all_goals exact k
  | z + 1, t, x, ii, v, hz, hii, hx, hu => by
    subst hii
    have hT : T ≤ 6 := wp.2.2.1
    have ht : t < T := by omega
    have ht6 : t < 6 := by omega
    have h1403 : S 1403 0 0 = T := by rw [PC_1403 cr.1]; exact wp.1
    have rr := cr.2.2.1 t ht
    have h1504 := rr.2.2.1
    have h1505 := rr.2.2.2.1
    have w1 := w.1 t ht
    have w54 := wp.2.2.2.2.1 t ht6
    have e11 := PC_11 cr.1 ht6 (show (s.1 81 0 t).toNat < 6 by omega)
    have kp := wp.2.2.2.2.2.1 (6 * t + (s.1 81 0 t).toNat) (by omega)
    have h45 : ∀ Q, m_do xs L 45 [vR (ru n t)] (mk S e) Q ↔ Q (.inl (some (vI (pnd D s.1 t)))) (mk S e) := fun Q => by
      rw [s_45 hn ht6 (by rw [rr.2.1]; omega) (by rw [rr.2.1, e11]; omega) (by rw [rr.1]; omega), rr.2.1, rr.1, e11]
      rfl
    have y1 := soon (b := due s.1 t) hx
    generalize hy : (if now < due s.1 t ∧ due s.1 t < x then due s.1 t else x) = y at *
    by_cases hr : rpe D s.1 t = 1000000
    · have hr2 : S 1505 (6 * n + t) 0 = 1000000 := by rw [h1505]; exact hr
      unfold b_24_6
      repeat' first
        | (refine V_icmp_eq.mpr ?_; first | rw [if_pos (by omega)] | rw [if_neg (by omega)] | split)
        | (refine V_icmp_ge.mpr ?_; first | rw [if_pos (by omega)] | rw [if_neg (by omega)] | split)
        | (simp (disch := (first | omega | (simp (disch := omega) only [up_f, up_s, up_i, up_k, up_e]; omega))) only [up_f, up_s, up_i, up_k, up_e, V_iconst, V_bipush, V_sipush, V_conti, V_contn, V_goto, Option.some.injEq, exists_eq_left', true_and, and_true, m_fit, Option.isSome_some, List.map_nil, List.map_cons, List.sum_nil, List.sum_cons, List.all_nil, List.all_cons, m_cat, decide_true, Bool.and_true, Bool.true_and, Nat.zero_le, Int.toNat_natCast, Int.reduceAdd, Int.reduceSub, Int.reduceMul, Int.reduceNeg, Int.reduceLE, Int.reduceLT, Nat.reduceAdd, Nat.reduceLeDiff, Int.reduceToNat, Int.reduceEq, decide_eq_true_eq, true_or, or_true, exists_and_left, and_self, Nat.reduceMul, Nat.reduceSub, Nat.reduceLT, m_oa, Nat.reduceEqDiff, or_false, false_or, Sum.inl.injEq, Sum.inr.injEq, ↓reduceIte, ne_eq, not_false_eq_true, Int.reduceNe, exists_eq_left, D_24, R_24, X_24, F_24_31, F_24_79, J_24_14, F_24_11, F_24_97, I_24_100, F_24_104, C_24_107, J_24_43, I_24_108, J_24_71, F_24_72, J_24_84, F_24_19, F_24_111, J_24_105, V_istoren2, V_istoren3, V_iloadn3, V_aloadn0, G_2_0, G_4_3, G_2_1, A_ntR, T_antR, U_aaload, V_astore4, V_iloadn2, V_aload4, G_5_4, V_iloadn1, G_5_5, T_5, V_iinc3, m_add_eq, G_4_5, G_2_2, A_ntW, T_antW, G_8_2, b_24_0, b_24_68, b_24_76, b_24_108, h1403, h1504, h1505, hr, s_25, hy])
      refine k_24a hn wp w cr K z (t + 1) y _ _ (by omega) (by omega) y1.1 (fun u hu2 => ?_)
      by_cases hut : u = t
      · subst hut
        exact ⟨y1.2.2, by omega, Or.inl hr⟩
      · exact nxT_le (hu u (by omega)) y1.2.1
    · have hr2 : ¬ S 1505 (6 * n + t) 0 = 1000000 := by rw [h1505]; exact hr
      have hr3 : ¬ rpe D s.1 t = 1000000 := hr
      have y2 := soon (b := rpe D s.1 t) y1.1
      generalize hy2 : (if now < rpe D s.1 t ∧ rpe D s.1 t < y then rpe D s.1 t else y) = y2v at *
      have y3 := soon (b := pnd D s.1 t) y2.1
      generalize hy3 : (if now < pnd D s.1 t ∧ pnd D s.1 t < y2v then pnd D s.1 t else y2v) = y3v at *
      unfold b_24_6
      repeat' first
        | (refine V_icmp_eq.mpr ?_; first | rw [if_pos (by omega)] | rw [if_neg (by omega)] | split)
        | (refine V_icmp_ge.mpr ?_; first | rw [if_pos (by omega)] | rw [if_neg (by omega)] | split)
        | (simp (disch := (first | omega | (simp (disch := omega) only [up_f, up_s, up_i, up_k, up_e]; omega))) only [up_f, up_s, up_i, up_k, up_e, V_iconst, V_bipush, V_sipush, V_conti, V_contn, V_goto, Option.some.injEq, exists_eq_left', true_and, and_true, m_fit, Option.isSome_some, List.map_nil, List.map_cons, List.sum_nil, List.sum_cons, List.all_nil, List.all_cons, m_cat, decide_true, Bool.and_true, Bool.true_and, Nat.zero_le, Int.toNat_natCast, Int.reduceAdd, Int.reduceSub, Int.reduceMul, Int.reduceNeg, Int.reduceLE, Int.reduceLT, Nat.reduceAdd, Nat.reduceLeDiff, Int.reduceToNat, Int.reduceEq, decide_eq_true_eq, true_or, or_true, exists_and_left, and_self, Nat.reduceMul, Nat.reduceSub, Nat.reduceLT, m_oa, Nat.reduceEqDiff, or_false, false_or, Sum.inl.injEq, Sum.inr.injEq, ↓reduceIte, ne_eq, not_false_eq_true, Int.reduceNe, exists_eq_left, D_24, R_24, X_24, F_24_31, F_24_79, J_24_14, F_24_11, F_24_97, I_24_100, F_24_104, C_24_107, J_24_43, I_24_108, J_24_71, F_24_72, J_24_84, F_24_19, F_24_111, J_24_105, V_istoren2, V_istoren3, V_iloadn3, V_aloadn0, G_2_0, G_4_3, G_2_1, A_ntR, T_antR, U_aaload, V_astore4, V_iloadn2, V_aload4, G_5_4, V_iloadn1, G_5_5, T_5, V_iinc3, m_add_eq, G_4_5, G_2_2, A_ntW, T_antW, G_8_2, b_24_0, b_24_68, b_24_76, b_24_108, h1403, h1504, h1505, hr3, s_25, hy, hy2, hy3, h45])
      refine k_24a hn wp w cr K z (t + 1) y3v _ _ (by omega) (by omega) y3.1 (fun u hu2 => ?_)
      by_cases hut : u = t
      · subst hut
        exact ⟨by omega, by omega, Or.inr y3.2.2⟩
      · exact nxT_le (hu u (by omega)) (by omega)
theorem k_24b {n T C : Nat} {D S0 S : Sg} {s : St} {now : Int} {Q : MOut → MHp → Prop} (hn : n < 3) (wp : WP D T C) (cr : CR n T C D S0 S s) (K : ∀ x : Int, nxt D s.1 T C now x → Q (.inl (some (vI x))) (mk S e)) : ∀ (z c : Nat) (x ii : Int) (v : MV), c + z = C → ii = c → now < x ∧ x ≤ 2000 → (∀ u, u < T → nxT D s.1 now x u) → (∀ d, d < c → ¬ (now < rdc s.1 d ∧ rdc s.1 d < x)) → m_ok xs L 24 b_24_76 [vR (nt n), vI now, vI x, vI ii, v] [] (mk S e) Q
  | 0, c, x, ii, v, hz, hii, hx, hu, hd => by
    have hc : c = C := by omega
    subst hc
    subst hii
    have h1405 : S 1405 0 0 = c := by rw [PC_1405 cr.1]; exact wp.2.1
    have k := K x ⟨hx.1, hx.2, hu, hd⟩
    unfold b_24_76
    repeat' first
      | (refine V_icmp_eq.mpr ?_; first | rw [if_pos (by omega)] | rw [if_neg (by omega)] | split)
      | (refine V_icmp_ge.mpr ?_; first | rw [if_pos (by omega)] | rw [if_neg (by omega)] | split)
      | (simp (disch := (first | omega | (simp (disch := omega) only [up_f, up_s, up_i, up_k, up_e]; omega))) only [up_f, up_s, up_i, up_k, up_e, V_iconst, V_bipush, V_sipush, V_conti, V_contn, V_goto, Option.some.injEq, exists_eq_left', true_and, and_true, m_fit, Option.isSome_some, List.map_nil, List.map_cons, List.sum_nil, List.sum_cons, List.all_nil, List.all_cons, m_cat, decide_true, Bool.and_true, Bool.true_and, Nat.zero_le, Int.toNat_natCast, Int.reduceAdd, Int.reduceSub, Int.reduceMul, Int.reduceNeg, Int.reduceLE, Int.reduceLT, Nat.reduceAdd, Nat.reduceLeDiff, Int.reduceToNat, Int.reduceEq, decide_eq_true_eq, true_or, or_true, exists_and_left, and_self, Nat.reduceMul, Nat.reduceSub, Nat.reduceLT, m_oa, Nat.reduceEqDiff, or_false, false_or, Sum.inl.injEq, Sum.inr.injEq, ↓reduceIte, ne_eq, not_false_eq_true, Int.reduceNe, exists_eq_left, D_24, R_24, X_24, F_24_31, F_24_79, J_24_14, F_24_11, F_24_97, I_24_100, F_24_104, C_24_107, J_24_43, I_24_108, J_24_71, F_24_72, J_24_84, F_24_19, F_24_111, J_24_105, V_istoren2, V_istoren3, V_iloadn3, V_aloadn0, G_2_0, G_4_3, G_2_1, A_ntR, T_antR, U_aaload, V_astore4, V_iloadn2, V_aload4, G_5_4, V_iloadn1, G_5_5, T_5, V_iinc3, m_add_eq, G_4_5, G_2_2, A_ntW, T_antW, G_8_2, b_24_0, b_24_6, b_24_68, b_24_74, b_24_108, h1405])
    all_goals exact k
  | z + 1, c, x, ii, v, hz, hii, hx, hu, hd => by
    subst hii
    have hC : C ≤ 10 := wp.2.2.2.1
    have hc : c < C := by omega
    have hc10 : c < 10 := by omega
    have h1405 : S 1405 0 0 = C := by rw [PC_1405 cr.1]; exact wp.2.1
    have h1802 := (cr.2.1 c hc).2.1
    have y1 := soon (b := rdc s.1 c) hx
    generalize hy : (if now < rdc s.1 c ∧ rdc s.1 c < x then rdc s.1 c else x) = y at *
    unfold b_24_76
    repeat' first
      | (refine V_icmp_eq.mpr ?_; first | rw [if_pos (by omega)] | rw [if_neg (by omega)] | split)
      | (refine V_icmp_ge.mpr ?_; first | rw [if_pos (by omega)] | rw [if_neg (by omega)] | split)
      | (simp (disch := (first | omega | (simp (disch := omega) only [up_f, up_s, up_i, up_k, up_e]; omega))) only [up_f, up_s, up_i, up_k, up_e, V_iconst, V_bipush, V_sipush, V_conti, V_contn, V_goto, Option.some.injEq, exists_eq_left', true_and, and_true, m_fit, Option.isSome_some, List.map_nil, List.map_cons, List.sum_nil, List.sum_cons, List.all_nil, List.all_cons, m_cat, decide_true, Bool.and_true, Bool.true_and, Nat.zero_le, Int.toNat_natCast, Int.reduceAdd, Int.reduceSub, Int.reduceMul, Int.reduceNeg, Int.reduceLE, Int.reduceLT, Nat.reduceAdd, Nat.reduceLeDiff, Int.reduceToNat, Int.reduceEq, decide_eq_true_eq, true_or, or_true, exists_and_left, and_self, Nat.reduceMul, Nat.reduceSub, Nat.reduceLT, m_oa, Nat.reduceEqDiff, or_false, false_or, Sum.inl.injEq, Sum.inr.injEq, ↓reduceIte, ne_eq, not_false_eq_true, Int.reduceNe, exists_eq_left, D_24, R_24, X_24, F_24_31, F_24_79, J_24_14, F_24_11, F_24_97, I_24_100, F_24_104, C_24_107, J_24_43, I_24_108, J_24_71, F_24_72, J_24_84, F_24_19, F_24_111, J_24_105, V_istoren2, V_istoren3, V_iloadn3, V_aloadn0, G_2_0, G_4_3, G_2_1, A_ntR, T_antR, U_aaload, V_astore4, V_iloadn2, V_aload4, G_5_4, V_iloadn1, G_5_5, T_5, V_iinc3, m_add_eq, G_4_5, G_2_2, A_ntW, T_antW, G_8_2, b_24_0, b_24_6, b_24_68, b_24_74, b_24_108, h1405, h1802, s_25, hy])
    refine k_24b hn wp cr K z (c + 1) y _ _ (by omega) (by omega) y1.1 (fun u hu2 => nxT_le (hu u hu2) y1.2.1) (fun d hd2 => ?_)
    by_cases hdc : d = c
    · subst hdc
      exact y1.2.2
    · have := hd d (by omega)
      omega
theorem r_24 {n T C : Nat} {D S0 S : Sg} {s : St} {now : Int} (hn : n < 3) (wp : WP D T C) (w : WN D T C s) (cr : CR n T C D S0 S s) (hnow : now < 2000) :
    ∃ x : Int, nxt D s.1 T C now x ∧ ∀ Q, m_do xs L 24 [vR (nt n), vI now] (mk S e) Q ↔ Q (.inl (some (vI x))) (mk S e) := by
  have k : m_do xs L 24 [vR (nt n), vI now] (mk S e) (fun o h => ∃ x : Int, nxt D s.1 T C now x ∧ o = .inl (some (vI x)) ∧ h = mk S e) := by
    repeat' first
      | (refine V_icmp_eq.mpr ?_; first | rw [if_pos (by omega)] | rw [if_neg (by omega)] | split)
      | (refine V_icmp_ge.mpr ?_; first | rw [if_pos (by omega)] | rw [if_neg (by omega)] | split)
      | (simp (disch := (first | omega | (simp (disch := omega) only [up_f, up_s, up_i, up_k, up_e]; omega))) only [up_f, up_s, up_i, up_k, up_e, V_iconst, V_bipush, V_sipush, V_conti, V_contn, V_goto, Option.some.injEq, exists_eq_left', true_and, and_true, m_fit, Option.isSome_some, List.map_nil, List.map_cons, List.sum_nil, List.sum_cons, List.all_nil, List.all_cons, m_cat, decide_true, Bool.and_true, Bool.true_and, Nat.zero_le, Int.toNat_natCast, Int.reduceAdd, Int.reduceSub, Int.reduceMul, Int.reduceNeg, Int.reduceLE, Int.reduceLT, Nat.reduceAdd, Nat.reduceLeDiff, Int.reduceToNat, Int.reduceEq, decide_eq_true_eq, true_or, or_true, exists_and_left, and_self, Nat.reduceMul, Nat.reduceSub, Nat.reduceLT, m_oa, Nat.reduceEqDiff, or_false, false_or, Sum.inl.injEq, Sum.inr.injEq, ↓reduceIte, ne_eq, not_false_eq_true, Int.reduceNe, exists_eq_left, D_24, R_24, X_24, F_24_31, F_24_79, J_24_14, F_24_11, F_24_97, I_24_100, F_24_104, C_24_107, J_24_43, I_24_108, J_24_71, F_24_72, J_24_84, F_24_19, F_24_111, J_24_105, V_istoren2, V_istoren3, V_iloadn3, V_aloadn0, G_2_0, G_4_3, G_2_1, A_ntR, T_antR, U_aaload, V_astore4, V_iloadn2, V_aload4, G_5_4, V_iloadn1, G_5_5, T_5, V_iinc3, m_add_eq, G_4_5, G_2_2, A_ntW, T_antW, G_8_2, b_24_0, b_24_68, b_24_76, b_24_108])
    refine k_24a hn wp w cr (fun x ii v hx hu => ?_) T 0 2000 0 _ (by omega) rfl (by omega) (fun u hu => by omega)
    unfold b_24_74
    repeat' first
      | (refine V_icmp_eq.mpr ?_; first | rw [if_pos (by omega)] | rw [if_neg (by omega)] | split)
      | (refine V_icmp_ge.mpr ?_; first | rw [if_pos (by omega)] | rw [if_neg (by omega)] | split)
      | (simp (disch := (first | omega | (simp (disch := omega) only [up_f, up_s, up_i, up_k, up_e]; omega))) only [up_f, up_s, up_i, up_k, up_e, V_iconst, V_bipush, V_sipush, V_conti, V_contn, V_goto, Option.some.injEq, exists_eq_left', true_and, and_true, m_fit, Option.isSome_some, List.map_nil, List.map_cons, List.sum_nil, List.sum_cons, List.all_nil, List.all_cons, m_cat, decide_true, Bool.and_true, Bool.true_and, Nat.zero_le, Int.toNat_natCast, Int.reduceAdd, Int.reduceSub, Int.reduceMul, Int.reduceNeg, Int.reduceLE, Int.reduceLT, Nat.reduceAdd, Nat.reduceLeDiff, Int.reduceToNat, Int.reduceEq, decide_eq_true_eq, true_or, or_true, exists_and_left, and_self, Nat.reduceMul, Nat.reduceSub, Nat.reduceLT, m_oa, Nat.reduceEqDiff, or_false, false_or, Sum.inl.injEq, Sum.inr.injEq, ↓reduceIte, ne_eq, not_false_eq_true, Int.reduceNe, exists_eq_left, D_24, R_24, X_24, F_24_31, F_24_79, J_24_14, F_24_11, F_24_97, I_24_100, F_24_104, C_24_107, J_24_43, I_24_108, J_24_71, F_24_72, J_24_84, F_24_19, F_24_111, J_24_105, V_istoren2, V_istoren3, V_iloadn3, V_aloadn0, G_2_0, G_4_3, G_2_1, A_ntR, T_antR, U_aaload, V_astore4, V_iloadn2, V_aload4, G_5_4, V_iloadn1, G_5_5, T_5, V_iinc3, m_add_eq, G_4_5, G_2_2, A_ntW, T_antW, G_8_2, b_24_0, b_24_6, b_24_68, b_24_74, b_24_108])
    exact k_24b hn wp cr (fun x hx => ⟨x, hx, rfl, rfl⟩) C 0 x 0 v (by omega) rfl hx hu (fun d hd => by omega)
  obtain ⟨n2, ⟨a, h⟩, hr, x, hx, ha, hh⟩ := k
  exact ⟨x, hx, fun Q => m_do_eq ⟨n2, (a, h), hr, ha, hh⟩ Q⟩
theorem k_23 {n T C : Nat} {D S0 : Sg} {Q : MOut → MHp → Prop} (hn : n < 3) (wp : WP D T C) (K : ∀ S2 : Sg, CR n T C D S0 S2 (recA D) → Q (.inl none) (mk S2 e)) : ∀ (z i j : Nat) (mm ii : Int) (S : Sg), i + z = 2000 → ii = i → i ≤ j → j ≤ 2000 → CR n T C D S0 S (ruA D j) → nxt D (ruA D j).1 T C ((j : Int) - 1) mm → m_ok xs L 23 b_23_8 [vR (nt n), vI mm, vI ii] [] (mk S e) Q
  | 0, i, j, mm, ii, S, hz, hii, hij, hj, cr, hx => by
    have hi : i = 2000 := by omega
    have hj2 : j = 2000 := by omega
    subst hii hi hj2
    have k := K S cr
    unfold b_23_8
    repeat' first
      | (refine V_icmp_ge.mpr ?_; first | rw [if_pos (by omega)] | rw [if_neg (by omega)] | split)
      | (simp (disch := (first | omega | (simp (disch := omega) only [up_f, up_s, up_i, up_k, up_e]; omega))) only [up_f, up_s, up_i, up_k, up_e, V_iconst, V_bipush, V_sipush, V_conti, V_contn, V_goto, Option.some.injEq, exists_eq_left', true_and, and_true, m_fit, Option.isSome_some, List.map_nil, List.map_cons, List.sum_nil, List.sum_cons, List.all_nil, List.all_cons, m_cat, decide_true, Bool.and_true, Bool.true_and, Nat.zero_le, Int.toNat_natCast, Int.reduceAdd, Int.reduceSub, Int.reduceMul, Int.reduceNeg, Int.reduceLE, Int.reduceLT, Nat.reduceAdd, Nat.reduceLeDiff, Int.reduceToNat, Int.reduceEq, decide_eq_true_eq, true_or, or_true, exists_and_left, and_self, Nat.reduceMul, Nat.reduceSub, Nat.reduceLT, m_oa, Nat.reduceEqDiff, or_false, false_or, Sum.inl.injEq, Sum.inr.injEq, ↓reduceIte, ne_eq, not_false_eq_true, Int.reduceNe, exists_eq_left, D_23, R_23, X_23, I_23_93, J_23_12, J_23_19, I_23_58, J_23_36, V_aloadn0, T_2, V_istoren1, V_istoren2, V_iloadn2, V_iloadn1, V_iinc2, m_add_eq, b_23_0, b_23_39])
    all_goals exact k
  | z + 1, i, j, mm, ii, S, hz, hii, hij, hj, cr, hx => by
    subst hii
    have hx1 := hx.1
    have hx2 := hx.2.1
    obtain ⟨x, hmx⟩ : ∃ x : Nat, mm = x := ⟨mm.toNat, by omega⟩
    subst hmx
    have hev := ruA_ev wp hj hx (x - j) (by omega)
    rw [show j + (x - j) = x by omega] at hev
    rw [← hev] at cr
    by_cases hq : x < 2000
    · have w := WN_ruA wp x (by omega)
      obtain ⟨S2, c2, i26⟩ := r_26 (xs := xs) (L := L) (e := e) hn wp (show (0 : Int) ≤ x ∧ (x : Int) < 2000 by omega) w cr
      have c3 : CR n T C D S0 S2 (ruA D (x + 1)) := c2
      obtain ⟨y, hy, i24⟩ := r_24 (xs := xs) (L := L) (e := e) hn wp (WN_ruA wp (x + 1) (by omega)) c3 (show (x : Int) < 2000 by omega)
      unfold b_23_8
      repeat' first
        | (refine V_icmp_ge.mpr ?_; first | rw [if_pos (by omega)] | rw [if_neg (by omega)] | split)
        | (simp (disch := (first | omega | (simp (disch := omega) only [up_f, up_s, up_i, up_k, up_e]; omega))) only [up_f, up_s, up_i, up_k, up_e, V_iconst, V_bipush, V_sipush, V_conti, V_contn, V_goto, Option.some.injEq, exists_eq_left', true_and, and_true, m_fit, Option.isSome_some, List.map_nil, List.map_cons, List.sum_nil, List.sum_cons, List.all_nil, List.all_cons, m_cat, decide_true, Bool.and_true, Bool.true_and, Nat.zero_le, Int.toNat_natCast, Int.reduceAdd, Int.reduceSub, Int.reduceMul, Int.reduceNeg, Int.reduceLE, Int.reduceLT, Nat.reduceAdd, Nat.reduceLeDiff, Int.reduceToNat, Int.reduceEq, decide_eq_true_eq, true_or, or_true, exists_and_left, and_self, Nat.reduceMul, Nat.reduceSub, Nat.reduceLT, m_oa, Nat.reduceEqDiff, or_false, false_or, Sum.inl.injEq, Sum.inr.injEq, ↓reduceIte, ne_eq, not_false_eq_true, Int.reduceNe, exists_eq_left, D_23, R_23, X_23, I_23_93, J_23_12, J_23_19, I_23_58, J_23_36, V_aloadn0, T_2, V_istoren1, V_istoren2, V_iloadn2, V_iloadn1, V_iinc2, m_add_eq, b_23_0, b_23_39, i26, i24])
      refine k_23 hn wp K z (i + 1) (x + 1) y _ S2 (by omega) (by omega) (by omega) (by omega) c3 ?_
      rw [show ((x + 1 : Nat) : Int) - 1 = x by omega]
      exact hy
    · have hx3 : x = 2000 := by omega
      subst hx3
      have k := K S cr
      unfold b_23_8
      repeat' first
        | (refine V_icmp_ge.mpr ?_; first | rw [if_pos (by omega)] | rw [if_neg (by omega)] | split)
        | (simp (disch := (first | omega | (simp (disch := omega) only [up_f, up_s, up_i, up_k, up_e]; omega))) only [up_f, up_s, up_i, up_k, up_e, V_iconst, V_bipush, V_sipush, V_conti, V_contn, V_goto, Option.some.injEq, exists_eq_left', true_and, and_true, m_fit, Option.isSome_some, List.map_nil, List.map_cons, List.sum_nil, List.sum_cons, List.all_nil, List.all_cons, m_cat, decide_true, Bool.and_true, Bool.true_and, Nat.zero_le, Int.toNat_natCast, Int.reduceAdd, Int.reduceSub, Int.reduceMul, Int.reduceNeg, Int.reduceLE, Int.reduceLT, Nat.reduceAdd, Nat.reduceLeDiff, Int.reduceToNat, Int.reduceEq, decide_eq_true_eq, true_or, or_true, exists_and_left, and_self, Nat.reduceMul, Nat.reduceSub, Nat.reduceLT, m_oa, Nat.reduceEqDiff, or_false, false_or, Sum.inl.injEq, Sum.inr.injEq, ↓reduceIte, ne_eq, not_false_eq_true, Int.reduceNe, exists_eq_left, D_23, R_23, X_23, I_23_93, J_23_12, J_23_19, I_23_58, J_23_36, V_aloadn0, T_2, V_istoren1, V_istoren2, V_iloadn2, V_iloadn1, V_iinc2, m_add_eq, b_23_0, b_23_39])
      all_goals exact k
theorem r_23 {n T C : Nat} {D S0 S : Sg} (hn : n < 3) (wp : WP D T C) (cr : CR n T C D S0 S (begA D)) :
    ∃ S2, CR n T C D S0 S2 (recA D) ∧ ∀ Q, m_do xs L 23 [vR (nt n)] (mk S e) Q ↔ Q (.inl none) (mk S2 e) := by
  obtain ⟨y, hy, i24⟩ := r_24 (xs := xs) (L := L) (e := e) hn wp (WN_ruA wp 0 (by omega)) cr (show (-1 : Int) < 2000 by omega)
  refine m_do_ex ?_
  repeat' first
    | (refine V_icmp_ge.mpr ?_; first | rw [if_pos (by omega)] | rw [if_neg (by omega)] | split)
    | (simp (disch := (first | omega | (simp (disch := omega) only [up_f, up_s, up_i, up_k, up_e]; omega))) only [up_f, up_s, up_i, up_k, up_e, V_iconst, V_bipush, V_sipush, V_conti, V_contn, V_goto, Option.some.injEq, exists_eq_left', true_and, and_true, m_fit, Option.isSome_some, List.map_nil, List.map_cons, List.sum_nil, List.sum_cons, List.all_nil, List.all_cons, m_cat, decide_true, Bool.and_true, Bool.true_and, Nat.zero_le, Int.toNat_natCast, Int.reduceAdd, Int.reduceSub, Int.reduceMul, Int.reduceNeg, Int.reduceLE, Int.reduceLT, Nat.reduceAdd, Nat.reduceLeDiff, Int.reduceToNat, Int.reduceEq, decide_eq_true_eq, true_or, or_true, exists_and_left, and_self, Nat.reduceMul, Nat.reduceSub, Nat.reduceLT, m_oa, Nat.reduceEqDiff, or_false, false_or, Sum.inl.injEq, Sum.inr.injEq, ↓reduceIte, ne_eq, not_false_eq_true, Int.reduceNe, exists_eq_left, D_23, R_23, X_23, I_23_93, J_23_12, J_23_19, I_23_58, J_23_36, V_aloadn0, T_2, V_istoren1, V_istoren2, V_iloadn2, V_iloadn1, V_iinc2, m_add_eq, b_23_0, b_23_39, i24])
  exact k_23 hn wp (fun S2 c2 => ⟨rfl, S2, rfl, c2⟩) 2000 0 0 y 0 S (by omega) rfl (by omega) (by omega) cr hy
theorem k_18 {n T C : Nat} {D S0 : Sg} {Q : MOut → MHp → Prop} (hn : n < 3) (wp : WP D T C) (K : ∀ (S2 : Sg) (ii : Int), CR n T C D S0 S2 (recA D) → m_ok xs L 18 b_18_45 [vR (nt n), vI ii] [] (mk S2 e) Q) : ∀ (z j : Nat) (ii : Int) (S : Sg), j + z = 2000 → ii = j → CR n T C D S0 S (ruA D j) → m_ok xs L 18 b_18_20 [vR (nt n), vI ii] [] (mk S e) Q
  | 0, j, ii, S, hz, hii, cr => by
    have hj : j = 2000 := by omega
    subst hii hj
    have k := fun ii => K S ii cr
    unfold b_18_20
    repeat' first
      | (refine V_icmp_eq.mpr ?_; first | rw [if_pos (by omega)] | rw [if_neg (by omega)] | split)
      | (refine V_icmp_ge.mpr ?_; first | rw [if_pos (by omega)] | rw [if_neg (by omega)] | split)
      | (refine V_if_le.mpr ?_; first | rw [if_pos (by omega)] | rw [if_neg (by omega)] | split)
      | (simp (disch := (first | omega | (simp (disch := omega) only [up_f, up_s, up_i, up_k, up_e]; omega))) only [up_f, up_s, up_i, up_k, up_e, V_iconst, V_bipush, V_sipush, V_conti, V_contn, V_goto, Option.some.injEq, exists_eq_left', true_and, and_true, m_fit, Option.isSome_some, List.map_nil, List.map_cons, List.sum_nil, List.sum_cons, List.all_nil, List.all_cons, m_cat, decide_true, Bool.and_true, Bool.true_and, Nat.zero_le, Int.toNat_natCast, Int.reduceAdd, Int.reduceSub, Int.reduceMul, Int.reduceNeg, Int.reduceLE, Int.reduceLT, Nat.reduceAdd, Nat.reduceLeDiff, Int.reduceToNat, Int.reduceEq, decide_eq_true_eq, true_or, or_true, exists_and_left, and_self, Nat.reduceMul, Nat.reduceSub, Nat.reduceLT, m_oa, Nat.reduceEqDiff, or_false, false_or, Sum.inl.injEq, Sum.inr.injEq, ↓reduceIte, ne_eq, not_false_eq_true, Int.reduceNe, exists_eq_left, D_18, R_18, X_18, F_18_27, F_18_31, F_18_51, J_18_11, I_18_52, J_18_24, F_18_55, J_18_31, I_18_58, J_18_42, W_18_27, V_aloadn0, G_2_5, G_2_0, G_4_6, T_2, V_istoren1, V_iloadn1, G_2_4, V_iinc1, m_add_eq, P_2_5, b_18_0, b_18_56])
    all_goals exact k _
  | z + 1, j, ii, S, hz, hii, cr => by
    subst hii
    have h1204 := cr.2.2.2.2.2.2
    by_cases hq : cntA D (ruA D j).1 T ≤ 0
    · have hend := ruA_end wp (show j ≤ 2000 by omega) (cntA_0 T hq) (2000 - j) (by omega)
      rw [show j + (2000 - j) = 2000 by omega] at hend
      rw [← hend] at cr
      have hq2 : S 1204 n 0 ≤ 0 := by rw [h1204]; exact hq
      have k := fun ii => K S ii cr
      unfold b_18_20
      repeat' first
        | (refine V_icmp_eq.mpr ?_; first | rw [if_pos (by omega)] | rw [if_neg (by omega)] | split)
        | (refine V_icmp_ge.mpr ?_; first | rw [if_pos (by omega)] | rw [if_neg (by omega)] | split)
        | (refine V_if_le.mpr ?_; first | rw [if_pos (by omega)] | rw [if_neg (by omega)] | split)
        | (simp (disch := (first | omega | (simp (disch := omega) only [up_f, up_s, up_i, up_k, up_e]; omega))) only [up_f, up_s, up_i, up_k, up_e, V_iconst, V_bipush, V_sipush, V_conti, V_contn, V_goto, Option.some.injEq, exists_eq_left', true_and, and_true, m_fit, Option.isSome_some, List.map_nil, List.map_cons, List.sum_nil, List.sum_cons, List.all_nil, List.all_cons, m_cat, decide_true, Bool.and_true, Bool.true_and, Nat.zero_le, Int.toNat_natCast, Int.reduceAdd, Int.reduceSub, Int.reduceMul, Int.reduceNeg, Int.reduceLE, Int.reduceLT, Nat.reduceAdd, Nat.reduceLeDiff, Int.reduceToNat, Int.reduceEq, decide_eq_true_eq, true_or, or_true, exists_and_left, and_self, Nat.reduceMul, Nat.reduceSub, Nat.reduceLT, m_oa, Nat.reduceEqDiff, or_false, false_or, Sum.inl.injEq, Sum.inr.injEq, ↓reduceIte, ne_eq, not_false_eq_true, Int.reduceNe, exists_eq_left, D_18, R_18, X_18, F_18_27, F_18_31, F_18_51, J_18_11, I_18_52, J_18_24, F_18_55, J_18_31, I_18_58, J_18_42, W_18_27, V_aloadn0, G_2_5, G_2_0, G_4_6, T_2, V_istoren1, V_iloadn1, G_2_4, V_iinc1, m_add_eq, P_2_5, b_18_0, b_18_56, hq2])
      all_goals exact k _
    · have hq2 : ¬ S 1204 n 0 ≤ 0 := by rw [h1204]; exact hq
      obtain ⟨S2, c2, i26⟩ := r_26 (xs := xs) (L := L) (e := e) hn wp (show (0 : Int) ≤ j ∧ (j : Int) < 2000 by omega) (WN_ruA wp j (by omega)) cr
      unfold b_18_20
      repeat' first
        | (refine V_icmp_eq.mpr ?_; first | rw [if_pos (by omega)] | rw [if_neg (by omega)] | split)
        | (refine V_icmp_ge.mpr ?_; first | rw [if_pos (by omega)] | rw [if_neg (by omega)] | split)
        | (refine V_if_le.mpr ?_; first | rw [if_pos (by omega)] | rw [if_neg (by omega)] | split)
        | (simp (disch := (first | omega | (simp (disch := omega) only [up_f, up_s, up_i, up_k, up_e]; omega))) only [up_f, up_s, up_i, up_k, up_e, V_iconst, V_bipush, V_sipush, V_conti, V_contn, V_goto, Option.some.injEq, exists_eq_left', true_and, and_true, m_fit, Option.isSome_some, List.map_nil, List.map_cons, List.sum_nil, List.sum_cons, List.all_nil, List.all_cons, m_cat, decide_true, Bool.and_true, Bool.true_and, Nat.zero_le, Int.toNat_natCast, Int.reduceAdd, Int.reduceSub, Int.reduceMul, Int.reduceNeg, Int.reduceLE, Int.reduceLT, Nat.reduceAdd, Nat.reduceLeDiff, Int.reduceToNat, Int.reduceEq, decide_eq_true_eq, true_or, or_true, exists_and_left, and_self, Nat.reduceMul, Nat.reduceSub, Nat.reduceLT, m_oa, Nat.reduceEqDiff, or_false, false_or, Sum.inl.injEq, Sum.inr.injEq, ↓reduceIte, ne_eq, not_false_eq_true, Int.reduceNe, exists_eq_left, D_18, R_18, X_18, F_18_27, F_18_31, F_18_51, J_18_11, I_18_52, J_18_24, F_18_55, J_18_31, I_18_58, J_18_42, W_18_27, V_aloadn0, G_2_5, G_2_0, G_4_6, T_2, V_istoren1, V_iloadn1, G_2_4, V_iinc1, m_add_eq, P_2_5, b_18_0, b_18_56, hq2, i26])
      exact k_18 hn wp K z (j + 1) _ S2 (by omega) (by omega) c2
theorem r_18 {n T C : Nat} {D S : Sg} (hn : n < 3) (wp : WP D T C) (pc : PC D S) (hp : ∀ u, u < 6 → S 1702 u 0 = D 53 0 u) (hc : S 1205 n 0 = S 1406 0 0 → CR n T C D S S (recA D)) :
    ∃ S2, (CR n T C D S S2 (recA D) ∧ S2 1205 n 0 = S2 1406 0 0) ∧ ∀ Q, m_do xs L 18 [vR (nt n)] (mk S e) Q ↔ Q (.inl none) (mk S2 e) := by
  refine m_do_ex ?_
  by_cases hv : S 1205 n 0 = S 1406 0 0
  · have hcc := hc hv
    repeat' first
      | (refine V_icmp_eq.mpr ?_; first | rw [if_pos (by omega)] | rw [if_neg (by omega)] | split)
      | (refine V_icmp_ge.mpr ?_; first | rw [if_pos (by omega)] | rw [if_neg (by omega)] | split)
      | (refine V_if_le.mpr ?_; first | rw [if_pos (by omega)] | rw [if_neg (by omega)] | split)
      | (simp (disch := (first | omega | (simp (disch := omega) only [up_f, up_s, up_i, up_k, up_e]; omega))) only [up_f, up_s, up_i, up_k, up_e, V_iconst, V_bipush, V_sipush, V_conti, V_contn, V_goto, Option.some.injEq, exists_eq_left', true_and, and_true, m_fit, Option.isSome_some, List.map_nil, List.map_cons, List.sum_nil, List.sum_cons, List.all_nil, List.all_cons, m_cat, decide_true, Bool.and_true, Bool.true_and, Nat.zero_le, Int.toNat_natCast, Int.reduceAdd, Int.reduceSub, Int.reduceMul, Int.reduceNeg, Int.reduceLE, Int.reduceLT, Nat.reduceAdd, Nat.reduceLeDiff, Int.reduceToNat, Int.reduceEq, decide_eq_true_eq, true_or, or_true, exists_and_left, and_self, Nat.reduceMul, Nat.reduceSub, Nat.reduceLT, m_oa, Nat.reduceEqDiff, or_false, false_or, Sum.inl.injEq, Sum.inr.injEq, ↓reduceIte, ne_eq, not_false_eq_true, Int.reduceNe, exists_eq_left, D_18, R_18, X_18, F_18_27, F_18_31, F_18_51, J_18_11, I_18_52, J_18_24, F_18_55, J_18_31, I_18_58, J_18_42, W_18_27, V_aloadn0, G_2_5, G_2_0, G_4_6, T_2, V_istoren1, V_iloadn1, G_2_4, V_iinc1, m_add_eq, P_2_5, b_18_0, b_18_45, b_18_56])
    exact ⟨S, rfl, hcc, hv⟩
  · obtain ⟨S2, ⟨c2, _⟩, i22⟩ := r_22 (xs := xs) (L := L) (e := e) hn wp pc hp
    repeat' first
      | (refine V_icmp_eq.mpr ?_; first | rw [if_pos (by omega)] | rw [if_neg (by omega)] | split)
      | (refine V_icmp_ge.mpr ?_; first | rw [if_pos (by omega)] | rw [if_neg (by omega)] | split)
      | (refine V_if_le.mpr ?_; first | rw [if_pos (by omega)] | rw [if_neg (by omega)] | split)
      | (simp (disch := (first | omega | (simp (disch := omega) only [up_f, up_s, up_i, up_k, up_e]; omega))) only [up_f, up_s, up_i, up_k, up_e, V_iconst, V_bipush, V_sipush, V_conti, V_contn, V_goto, Option.some.injEq, exists_eq_left', true_and, and_true, m_fit, Option.isSome_some, List.map_nil, List.map_cons, List.sum_nil, List.sum_cons, List.all_nil, List.all_cons, m_cat, decide_true, Bool.and_true, Bool.true_and, Nat.zero_le, Int.toNat_natCast, Int.reduceAdd, Int.reduceSub, Int.reduceMul, Int.reduceNeg, Int.reduceLE, Int.reduceLT, Nat.reduceAdd, Nat.reduceLeDiff, Int.reduceToNat, Int.reduceEq, decide_eq_true_eq, true_or, or_true, exists_and_left, and_self, Nat.reduceMul, Nat.reduceSub, Nat.reduceLT, m_oa, Nat.reduceEqDiff, or_false, false_or, Sum.inl.injEq, Sum.inr.injEq, ↓reduceIte, ne_eq, not_false_eq_true, Int.reduceNe, exists_eq_left, D_18, R_18, X_18, F_18_27, F_18_31, F_18_51, J_18_11, I_18_52, J_18_24, F_18_55, J_18_31, I_18_58, J_18_42, W_18_27, V_aloadn0, G_2_5, G_2_0, G_4_6, T_2, V_istoren1, V_iloadn1, G_2_4, V_iinc1, m_add_eq, P_2_5, b_18_0, b_18_56, i22])
    refine k_18 hn wp (fun S3 ii c3 => ?_) 2000 0 0 S2 (by omega) rfl c2
    unfold b_18_45
    repeat' first
      | (refine V_icmp_eq.mpr ?_; first | rw [if_pos (by omega)] | rw [if_neg (by omega)] | split)
      | (refine V_icmp_ge.mpr ?_; first | rw [if_pos (by omega)] | rw [if_neg (by omega)] | split)
      | (refine V_if_le.mpr ?_; first | rw [if_pos (by omega)] | rw [if_neg (by omega)] | split)
      | (simp (disch := (first | omega | (simp (disch := omega) only [up_f, up_s, up_i, up_k, up_e]; omega))) only [up_f, up_s, up_i, up_k, up_e, V_iconst, V_bipush, V_sipush, V_conti, V_contn, V_goto, Option.some.injEq, exists_eq_left', true_and, and_true, m_fit, Option.isSome_some, List.map_nil, List.map_cons, List.sum_nil, List.sum_cons, List.all_nil, List.all_cons, m_cat, decide_true, Bool.and_true, Bool.true_and, Nat.zero_le, Int.toNat_natCast, Int.reduceAdd, Int.reduceSub, Int.reduceMul, Int.reduceNeg, Int.reduceLE, Int.reduceLT, Nat.reduceAdd, Nat.reduceLeDiff, Int.reduceToNat, Int.reduceEq, decide_eq_true_eq, true_or, or_true, exists_and_left, and_self, Nat.reduceMul, Nat.reduceSub, Nat.reduceLT, m_oa, Nat.reduceEqDiff, or_false, false_or, Sum.inl.injEq, Sum.inr.injEq, ↓reduceIte, ne_eq, not_false_eq_true, Int.reduceNe, exists_eq_left, D_18, R_18, X_18, F_18_27, F_18_31, F_18_51, J_18_11, I_18_52, J_18_24, F_18_55, J_18_31, I_18_58, J_18_42, W_18_27, V_aloadn0, G_2_5, G_2_0, G_4_6, T_2, V_istoren1, V_iloadn1, G_2_4, V_iinc1, m_add_eq, P_2_5, b_18_0, b_18_45, b_18_56])
    exact ⟨_, rfl, CR_1205 c3, by simp (disch := omega) only [up_f, up_s]⟩
theorem r_19 {n T C : Nat} {D S : Sg} (hn : n < 3) (wp : WP D T C) (pc : PC D S) (hp : ∀ u, u < 6 → S 1702 u 0 = D 53 0 u) (hc : S 1205 n 0 = S 1406 0 0 → CR n T C D S S (recA D)) :
    ∃ S2, (CR n T C D S S2 (recA D) ∧ S2 1205 n 0 = S2 1406 0 0) ∧ ∀ Q, m_do xs L 19 [vR (nt n)] (mk S e) Q ↔ Q (.inl none) (mk S2 e) := by
  refine m_do_ex ?_
  by_cases hv : S 1205 n 0 = S 1406 0 0
  · have hcc := hc hv
    repeat' first
      | (refine V_icmp_eq.mpr ?_; first | rw [if_pos (by omega)] | rw [if_neg (by omega)] | split)
      | (simp (disch := (first | omega | (simp (disch := omega) only [up_f, up_s, up_i, up_k, up_e]; omega))) only [up_f, up_s, up_i, up_k, up_e, V_iconst, V_bipush, V_sipush, V_conti, V_contn, V_goto, Option.some.injEq, exists_eq_left', true_and, and_true, m_fit, Option.isSome_some, List.map_nil, List.map_cons, List.sum_nil, List.sum_cons, List.all_nil, List.all_cons, m_cat, decide_true, Bool.and_true, Bool.true_and, Nat.zero_le, Int.toNat_natCast, Int.reduceAdd, Int.reduceSub, Int.reduceMul, Int.reduceNeg, Int.reduceLE, Int.reduceLT, Nat.reduceAdd, Nat.reduceLeDiff, Int.reduceToNat, Int.reduceEq, decide_eq_true_eq, true_or, or_true, exists_and_left, and_self, Nat.reduceMul, Nat.reduceSub, Nat.reduceLT, m_oa, Nat.reduceEqDiff, or_false, false_or, Sum.inl.injEq, Sum.inr.injEq, ↓reduceIte, ne_eq, not_false_eq_true, Int.reduceNe, exists_eq_left, D_19, R_19, X_19, F_19_27, F_19_31, F_19_51, J_19_11, I_19_52, I_19_62, W_19_27, V_aloadn0, G_2_5, G_2_0, G_4_6, T_2, P_2_5, b_19_0, b_19_33])
    exact ⟨S, rfl, hcc, hv⟩
  · obtain ⟨S2, ⟨c2, _⟩, i22⟩ := r_22 (xs := xs) (L := L) (e := e) hn wp pc hp
    obtain ⟨S3, c3, i23⟩ := r_23 (xs := xs) (L := L) (e := e) hn wp c2
    repeat' first
      | (refine V_icmp_eq.mpr ?_; first | rw [if_pos (by omega)] | rw [if_neg (by omega)] | split)
      | (simp (disch := (first | omega | (simp (disch := omega) only [up_f, up_s, up_i, up_k, up_e]; omega))) only [up_f, up_s, up_i, up_k, up_e, V_iconst, V_bipush, V_sipush, V_conti, V_contn, V_goto, Option.some.injEq, exists_eq_left', true_and, and_true, m_fit, Option.isSome_some, List.map_nil, List.map_cons, List.sum_nil, List.sum_cons, List.all_nil, List.all_cons, m_cat, decide_true, Bool.and_true, Bool.true_and, Nat.zero_le, Int.toNat_natCast, Int.reduceAdd, Int.reduceSub, Int.reduceMul, Int.reduceNeg, Int.reduceLE, Int.reduceLT, Nat.reduceAdd, Nat.reduceLeDiff, Int.reduceToNat, Int.reduceEq, decide_eq_true_eq, true_or, or_true, exists_and_left, and_self, Nat.reduceMul, Nat.reduceSub, Nat.reduceLT, m_oa, Nat.reduceEqDiff, or_false, false_or, Sum.inl.injEq, Sum.inr.injEq, ↓reduceIte, ne_eq, not_false_eq_true, Int.reduceNe, exists_eq_left, D_19, R_19, X_19, F_19_27, F_19_31, F_19_51, J_19_11, I_19_52, I_19_62, W_19_27, V_aloadn0, G_2_5, G_2_0, G_4_6, T_2, P_2_5, b_19_0, b_19_33, i22, i23])
    exact ⟨_, rfl, CR_1205 c3, by simp (disch := omega) only [up_f, up_s]⟩
theorem r_20 {n T C t : Nat} {D S : Sg} {v : Int} (hn : n < 3) (wp : WP D T C) (pc : PC D S) (hp : ∀ u, u < 6 → S 1702 u 0 = D 53 0 u) (ht : t < T) (hv : 0 ≤ v ∧ v ≤ 180) :
    ∃ S2, FC n S S2 ∧ ∀ Q, m_do xs L 20 [vR (nt n), vI t, vI v] (mk S e) Q ↔ Q (.inl (some (vI (hmA (up D 53 0 t v) (recA (up D 53 0 t v)).1 C)))) (mk S2 e) := by
  have hT : T ≤ 6 := wp.2.2.1
  have ht6 : t < 6 := by omega
  obtain ⟨S2, ⟨c2, _⟩, i22⟩ := r_22 (xs := xs) (L := L) (e := e) hn wp pc hp
  have c3 := CR_pat (v := v) hn ht hT c2
  obtain ⟨S3, c4, i23⟩ := r_23 (xs := xs) (L := L) (e := e) hn (WP_pat wp hv) c3
  have hcc : S3 1405 0 0 = C := by rw [PC_1405 c4.1]; exact (WP_pat wp hv).2.1
  have i21 := s_21 (xs := xs) (L := L) (e := e) hn hcc wp.2.2.2.1
  rw [hmA_C wp.2.2.2.1 c4 C (by omega)] at i21
  refine m_do_ex ?_
  repeat' first
    | (simp (disch := (first | omega | (simp (disch := omega) only [up_f, up_s, up_i, up_k, up_e]; omega))) only [up_f, up_s, up_i, up_k, up_e, V_iconst, V_bipush, V_sipush, V_conti, V_contn, V_goto, Option.some.injEq, exists_eq_left', true_and, and_true, m_fit, Option.isSome_some, List.map_nil, List.map_cons, List.sum_nil, List.sum_cons, List.all_nil, List.all_cons, m_cat, decide_true, Bool.and_true, Bool.true_and, Nat.zero_le, Int.toNat_natCast, Int.reduceAdd, Int.reduceSub, Int.reduceMul, Int.reduceNeg, Int.reduceLE, Int.reduceLT, Nat.reduceAdd, Nat.reduceLeDiff, Int.reduceToNat, Int.reduceEq, decide_eq_true_eq, true_or, or_true, exists_and_left, and_self, Nat.reduceMul, Nat.reduceSub, Nat.reduceLT, m_oa, Nat.reduceEqDiff, or_false, false_or, Sum.inl.injEq, Sum.inr.injEq, ↓reduceIte, ne_eq, not_false_eq_true, Int.reduceNe, exists_eq_left, D_20, R_20, X_20, I_20_52, F_20_11, W_20_65, I_20_62, I_20_68, V_aloadn0, T_2, G_2_1, A_ntR, T_antR, V_iloadn1, U_aaload, V_iloadn2, G_5_2, P_5_2, b_20_0, i22, i23, i21])
  exact ⟨S3, rfl, c4.2.2.2.2.2.1⟩
end V
