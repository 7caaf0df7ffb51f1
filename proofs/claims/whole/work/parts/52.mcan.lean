/-! ===== takes, canLeave of the model ===== -/
theorem stopF_ext {S D : Sg} (h : ∀ k, S 55 0 k = D 55 0 k) {t : Nat} {a : Int} : ∀ k, stopF S t a k = stopF D t a k
  | 0 => rfl
  | k + 1 => by
    unfold stopF
    rw [h, stopF_ext h k]
theorem stA_S {S D : Sg} (pm : PM D S) {t : Nat} {a : Int} : stopF S t a (D 54 0 t).toNat = stA D t a := stopF_ext (fun k => pm.1 55 k rfl) _
theorem i1 {p : Prop} (h : p) : @ite Int p (Classical.propDecidable _) 1 0 = 1 := if_pos h
theorem i0 {p : Prop} (h : ¬ p) : @ite Int p (Classical.propDecidable _) 1 0 = 0 := if_neg h
noncomputable def iP (p : Prop) : Int := @ite Int p (Classical.propDecidable _) 1 0
theorem iP_1 {p : Prop} (h : p) : iP p = 1 := if_pos h
theorem iP_0 {p : Prop} (h : ¬ p) : iP p = 0 := if_neg h
theorem iP_c {p q : Prop} (h : p ↔ q) : iP p = iP q := by rw [propext h]
section V
variable {xs : Nat → Int32} {L : Nat} {e : Nat}
theorem r_122 {t c a T C : Nat} {D S N : Sg} (wp : WP D T C) (ht : t < 6) (hc : c < C) (pm : PM D S) (rm : RM S N) (hd0 : 0 ≤ N 90 0 c) (hd1 : N 90 0 c < D 69 0 c) (Q : MOut → MHp → Prop) :
    m_do xs L 122 [vR 296, vI t, vI c, vI a] (mk S e) Q ↔ Q (.inl (some (vI (if tks D N t a c then 1 else 0)))) (mk S e) := by
  have hT : T ≤ 6 := wp.2.2.1
  have hC : C ≤ 10 := wp.2.2.2.1
  have hc10 : c < 10 := by omega
  have hpl := wp.2.2.2.2.2.2.1 c hc10
  obtain ⟨d, hd⟩ : ∃ d : Nat, N 90 0 c = d := ⟨(N 90 0 c).toNat, by omega⟩
  have hdn : (N 90 0 c).toNat = d := by omega
  have hd3 : d < 3 := by omega
  have wq := wp.2.2.2.2.2.2.2.1 c d hc10 hd3
  have wq2 := wp.2.2.2.2.2.2.2.2.1 c d hc (by omega)
  obtain ⟨t2, ht2⟩ : ∃ t2 : Nat, D 70 0 (3 * c + d) = t2 := ⟨(D 70 0 (3 * c + d)).toNat, by omega⟩
  have ht26 : t2 < 6 := by omega
  have h90 : S 90 0 c = d := by rw [R90 rm hc10, hd]
  have hx : (3 * (c : Int) + (d : Int)).toNat = 3 * c + d := by omega
  have h70 : S 70 0 (3 * c + d) = t2 := by rw [pm.1 70 _ rfl, ht2]
  have h71 : S 71 0 (3 * c + d) = D 71 0 (3 * c + d) := pm.1 71 _ rfl
  have h81 : S 81 0 t = N 81 0 t := R81 rm ht
  have w54 := wp.2.2.2.2.1 t ht
  have w542 := wp.2.2.2.2.1 t2 ht26
  have s1 : ∀ Q, m_do xs L 105 [vR 296, vI t, vI (D 71 0 (3 * c + d))] (mk S e) Q ↔ Q (.inl (some (vI (stA D t (D 71 0 (3 * c + d)))))) (mk S e) := fun Q => by
    rw [s_105 (n := (D 54 0 t).toNat) ht (by omega) (by rw [pm.1 54 _ rfl]; omega), stA_S pm]
  have s2 : ∀ Q, m_do xs L 105 [vR 296, vI t2, vI a] (mk S e) Q ↔ Q (.inl (some (vI (stA D t2 a)))) (mk S e) := fun Q => by
    rw [s_105 (n := (D 54 0 t2).toNat) ht26 (by omega) (by rw [pm.1 54 _ rfl]; omega), stA_S pm]
  have r16 := stA_ran (t := t2) (a := (a : Int)) wp ht26
  have hk : tks D N t a c ↔ N 81 0 t < stA D t (D 71 0 (3 * c + d)) ∧ ((t2 : Int) = t ∨ stA D t2 a = -1 ∨ ¬ N 80 0 (6 * t2 + (stA D t2 a).toNat) = -1) := by
    unfold tks
    rw [hdn, ht2, Int.toNat_natCast]
  have hgo : ∀ b : Int, (b = if tks D N t a c then 1 else 0) → (Q (.inl (some (vI b))) (mk S e) ↔ Q (.inl (some (vI (if tks D N t a c then 1 else 0)))) (mk S e)) := fun b hb => by rw [hb]
  refine m_do_eq ?_ Q
  by_cases hA : N 81 0 t < stA D t (D 71 0 (3 * c + d))
  all_goals
    by_cases hB : (t2 : Int) = t
    · first
        | rw [if_pos (hk.mpr ⟨hA, Or.inl hB⟩)]
        | rw [if_neg (fun z => hA (hk.mp z).1)]
      repeat' first
        | (refine V_icmp_eq.mpr ?_; first | rw [if_pos (by omega)] | rw [if_neg (by omega)] | split)
        | (refine V_icmp_le.mpr ?_; first | rw [if_pos (by omega)] | rw [if_neg (by omega)] | split)
        | (refine V_if_eq.mpr ?_; first | rw [if_pos (by omega)] | rw [if_neg (by omega)] | split)
        | (simp (disch := (first | omega | (simp (disch := omega) only [up_f, up_s, up_i, up_k, up_e]; omega))) only [up_f, up_s, up_i, up_k, up_e, V_iconst, V_bipush, V_sipush, V_conti, V_contn, V_goto, Option.some.injEq, exists_eq_left', true_and, and_true, m_fit, Option.isSome_some, List.map_nil, List.map_cons, List.sum_nil, List.sum_cons, List.all_nil, List.all_cons, m_cat, decide_true, Bool.and_true, Bool.true_and, Nat.zero_le, Int.toNat_natCast, Int.reduceAdd, Int.reduceSub, Int.reduceMul, Int.reduceNeg, Int.reduceLE, Int.reduceLT, Nat.reduceAdd, Nat.reduceLeDiff, Int.reduceToNat, Int.reduceEq, decide_eq_true_eq, true_or, or_true, exists_and_left, and_self, Nat.reduceMul, Nat.reduceSub, Nat.reduceLT, m_oa, Nat.reduceEqDiff, or_false, false_or, Sum.inl.injEq, Sum.inr.injEq, ↓reduceIte, ne_eq, not_false_eq_true, Int.reduceNe, exists_eq_left, D_122, R_122, X_122, F_122_71, F_122_131, F_122_74, I_122_177, F_122_104, J_122_43, J_122_47, J_122_65, J_122_71, F_122_101, J_122_88, J_122_92, J_122_100, J_122_105, J_122_109, V_aloadn0, G_10_24, A_317, T_a317, B_317, V_iloadn2, V_imul, m_mul_eq, G_10_46, A_337, T_a337, B_337, U_iaload, V_iadd, m_add_eq, V_istore4, V_iloadn1, G_10_25, A_318, T_a318, B_318, T_10, G_10_37, A_328, T_a328, B_328, V_istore5, V_iload4, V_iloadn3, V_istore6, V_iload6, G_10_36, A_327, T_a327, B_327, V_istore7, V_iload5, V_iload7, b_122_0, b_122_50, b_122_51, b_122_91, b_122_95, b_122_96, b_122_112, b_122_113, h90, hx, h70, h71, h81, s1, s2])
      all_goals (first | exact ⟨rfl, rfl⟩ | (simp; done) | omega)
    · by_cases hD : stA D t2 a = -1
      · first
          | rw [if_pos (hk.mpr ⟨hA, Or.inr (Or.inl hD)⟩)]
          | rw [if_neg (fun z => hA (hk.mp z).1)]
        repeat' first
          | (refine V_icmp_eq.mpr ?_; first | rw [if_pos (by omega)] | rw [if_neg (by omega)] | split)
          | (refine V_icmp_le.mpr ?_; first | rw [if_pos (by omega)] | rw [if_neg (by omega)] | split)
          | (refine V_if_eq.mpr ?_; first | rw [if_pos (by omega)] | rw [if_neg (by omega)] | split)
          | (simp (disch := (first | omega | (simp (disch := omega) only [up_f, up_s, up_i, up_k, up_e]; omega))) only [up_f, up_s, up_i, up_k, up_e, V_iconst, V_bipush, V_sipush, V_conti, V_contn, V_goto, Option.some.injEq, exists_eq_left', true_and, and_true, m_fit, Option.isSome_some, List.map_nil, List.map_cons, List.sum_nil, List.sum_cons, List.all_nil, List.all_cons, m_cat, decide_true, Bool.and_true, Bool.true_and, Nat.zero_le, Int.toNat_natCast, Int.reduceAdd, Int.reduceSub, Int.reduceMul, Int.reduceNeg, Int.reduceLE, Int.reduceLT, Nat.reduceAdd, Nat.reduceLeDiff, Int.reduceToNat, Int.reduceEq, decide_eq_true_eq, true_or, or_true, exists_and_left, and_self, Nat.reduceMul, Nat.reduceSub, Nat.reduceLT, m_oa, Nat.reduceEqDiff, or_false, false_or, Sum.inl.injEq, Sum.inr.injEq, ↓reduceIte, ne_eq, not_false_eq_true, Int.reduceNe, exists_eq_left, D_122, R_122, X_122, F_122_71, F_122_131, F_122_74, I_122_177, F_122_104, J_122_43, J_122_47, J_122_65, J_122_71, F_122_101, J_122_88, J_122_92, J_122_100, J_122_105, J_122_109, V_aloadn0, G_10_24, A_317, T_a317, B_317, V_iloadn2, V_imul, m_mul_eq, G_10_46, A_337, T_a337, B_337, U_iaload, V_iadd, m_add_eq, V_istore4, V_iloadn1, G_10_25, A_318, T_a318, B_318, T_10, G_10_37, A_328, T_a328, B_328, V_istore5, V_iload4, V_iloadn3, V_istore6, V_iload6, G_10_36, A_327, T_a327, B_327, V_istore7, V_iload5, V_iload7, b_122_0, b_122_50, b_122_51, b_122_91, b_122_95, b_122_96, b_122_112, b_122_113, h90, hx, h70, h71, h81, s1, s2])
        all_goals (first | exact ⟨rfl, rfl⟩ | (simp; done) | omega)
      · obtain ⟨k2, hk2⟩ : ∃ k2 : Nat, stA D t2 a = k2 := ⟨(stA D t2 a).toNat, by omega⟩
        have hx2 : (6 * (t2 : Int) + (k2 : Int)).toNat = 6 * t2 + k2 := by omega
        have h80 : S 80 0 (6 * t2 + k2) = N 80 0 (6 * t2 + k2) := R80 rm (by omega)
        rw [hk2, Int.toNat_natCast] at hk
        rw [hk2] at s2 hD
        by_cases hE : N 80 0 (6 * t2 + k2) = -1
        · rw [if_neg (fun z => (hk.mp z).2.elim (fun z => hB z) (fun z => z.elim (fun z => hD z) (fun z => z hE)))]
          repeat' first
            | (refine V_icmp_eq.mpr ?_; first | rw [if_pos (by omega)] | rw [if_neg (by omega)] | split)
            | (refine V_icmp_le.mpr ?_; first | rw [if_pos (by omega)] | rw [if_neg (by omega)] | split)
            | (refine V_if_eq.mpr ?_; first | rw [if_pos (by omega)] | rw [if_neg (by omega)] | split)
            | (simp (disch := (first | omega | (simp (disch := omega) only [up_f, up_s, up_i, up_k, up_e]; omega))) only [up_f, up_s, up_i, up_k, up_e, V_iconst, V_bipush, V_sipush, V_conti, V_contn, V_goto, Option.some.injEq, exists_eq_left', true_and, and_true, m_fit, Option.isSome_some, List.map_nil, List.map_cons, List.sum_nil, List.sum_cons, List.all_nil, List.all_cons, m_cat, decide_true, Bool.and_true, Bool.true_and, Nat.zero_le, Int.toNat_natCast, Int.reduceAdd, Int.reduceSub, Int.reduceMul, Int.reduceNeg, Int.reduceLE, Int.reduceLT, Nat.reduceAdd, Nat.reduceLeDiff, Int.reduceToNat, Int.reduceEq, decide_eq_true_eq, true_or, or_true, exists_and_left, and_self, Nat.reduceMul, Nat.reduceSub, Nat.reduceLT, m_oa, Nat.reduceEqDiff, or_false, false_or, Sum.inl.injEq, Sum.inr.injEq, ↓reduceIte, ne_eq, not_false_eq_true, Int.reduceNe, exists_eq_left, D_122, R_122, X_122, F_122_71, F_122_131, F_122_74, I_122_177, F_122_104, J_122_43, J_122_47, J_122_65, J_122_71, F_122_101, J_122_88, J_122_92, J_122_100, J_122_105, J_122_109, V_aloadn0, G_10_24, A_317, T_a317, B_317, V_iloadn2, V_imul, m_mul_eq, G_10_46, A_337, T_a337, B_337, U_iaload, V_iadd, m_add_eq, V_istore4, V_iloadn1, G_10_25, A_318, T_a318, B_318, T_10, G_10_37, A_328, T_a328, B_328, V_istore5, V_iload4, V_iloadn3, V_istore6, V_iload6, G_10_36, A_327, T_a327, B_327, V_istore7, V_iload5, V_iload7, b_122_0, b_122_50, b_122_51, b_122_91, b_122_95, b_122_96, b_122_112, b_122_113, h90, hx, h70, h71, h81, s1, s2, hx2, h80])
          all_goals (first | exact ⟨rfl, rfl⟩ | (simp; done) | omega)
        · first
            | rw [if_pos (hk.mpr ⟨hA, Or.inr (Or.inr hE)⟩)]
            | rw [if_neg (fun z => hA (hk.mp z).1)]
          repeat' first
            | (refine V_icmp_eq.mpr ?_; first | rw [if_pos (by omega)] | rw [if_neg (by omega)] | split)
            | (refine V_icmp_le.mpr ?_; first | rw [if_pos (by omega)] | rw [if_neg (by omega)] | split)
            | (refine V_if_eq.mpr ?_; first | rw [if_pos (by omega)] | rw [if_neg (by omega)] | split)
            | (simp (disch := (first | omega | (simp (disch := omega) only [up_f, up_s, up_i, up_k, up_e]; omega))) only [up_f, up_s, up_i, up_k, up_e, V_iconst, V_bipush, V_sipush, V_conti, V_contn, V_goto, Option.some.injEq, exists_eq_left', true_and, and_true, m_fit, Option.isSome_some, List.map_nil, List.map_cons, List.sum_nil, List.sum_cons, List.all_nil, List.all_cons, m_cat, decide_true, Bool.and_true, Bool.true_and, Nat.zero_le, Int.toNat_natCast, Int.reduceAdd, Int.reduceSub, Int.reduceMul, Int.reduceNeg, Int.reduceLE, Int.reduceLT, Nat.reduceAdd, Nat.reduceLeDiff, Int.reduceToNat, Int.reduceEq, decide_eq_true_eq, true_or, or_true, exists_and_left, and_self, Nat.reduceMul, Nat.reduceSub, Nat.reduceLT, m_oa, Nat.reduceEqDiff, or_false, false_or, Sum.inl.injEq, Sum.inr.injEq, ↓reduceIte, ne_eq, not_false_eq_true, Int.reduceNe, exists_eq_left, D_122, R_122, X_122, F_122_71, F_122_131, F_122_74, I_122_177, F_122_104, J_122_43, J_122_47, J_122_65, J_122_71, F_122_101, J_122_88, J_122_92, J_122_100, J_122_105, J_122_109, V_aloadn0, G_10_24, A_317, T_a317, B_317, V_iloadn2, V_imul, m_mul_eq, G_10_46, A_337, T_a337, B_337, U_iaload, V_iadd, m_add_eq, V_istore4, V_iloadn1, G_10_25, A_318, T_a318, B_318, T_10, G_10_37, A_328, T_a328, B_328, V_istore5, V_iload4, V_iloadn3, V_istore6, V_iload6, G_10_36, A_327, T_a327, B_327, V_istore7, V_iload5, V_iload7, b_122_0, b_122_50, b_122_51, b_122_91, b_122_95, b_122_96, b_122_112, b_122_113, h90, hx, h70, h71, h81, s1, s2, hx2, h80])
          all_goals (first | exact ⟨rfl, rfl⟩ | (simp; done) | omega)
def misQ (D N : Sg) (t : Nat) (here m : Int) (c p : Nat) : Prop := D 70 0 (3 * c + p) = t ∧ begP D c p = here ∧ (¬ (p : Int) = N 90 0 c ∨ ¬ (N 88 0 c = here ∧ N 89 0 c ≤ m))
theorem misA_Q {D N : Sg} {t c : Nat} {here m : Int} : misA D N t here m c ↔ D 68 0 c = 0 ∧ ∃ p : Nat, N 90 0 c ≤ p ∧ (p : Int) < D 69 0 c ∧ misQ D N t here m c p := Iff.rfl
theorem k_120i {t T C k c : Nat} {D S N : Sg} {m : Int} {Q : MOut → MHp → Prop} (wp : WP D T C) (ht : t < 6) (hk : k < 6) (hc : c < C) (pm : PM D S) (rm : RM S N) (hd0 : 0 ≤ N 90 0 c) (ho : D 68 0 c = 0)
    (K : ∀ v w, m_ok xs L 120 b_120_225 [vR 296, vI t, vI m, vI (6 * t + k : Nat), vI 0, vI (iP ((∀ c2, c2 < c → ¬ misA D N t (D 55 0 (6 * t + k)) m c2) ∧ ∀ p2 : Nat, N 90 0 c ≤ p2 → (p2 : Int) < D 69 0 c → ¬ misQ D N t (D 55 0 (6 * t + k)) m c p2)), vI c, v, w] [] (mk S e) Q) : ∀ (z p : Nat) (pp : Int) (w : MV), (p : Int) + z = D 69 0 c → pp = p → N 90 0 c ≤ p → m_ok xs L 120 b_120_112 [vR 296, vI t, vI m, vI (6 * t + k : Nat), vI 0, vI (iP ((∀ c2, c2 < c → ¬ misA D N t (D 55 0 (6 * t + k)) m c2) ∧ ∀ p2 : Nat, N 90 0 c ≤ p2 → (p2 : Int) < p → ¬ misQ D N t (D 55 0 (6 * t + k)) m c p2)), vI c, vI pp, w] [] (mk S e) Q
  | 0, p, pp, w, hz, hpp, hp => by
    have hC : C ≤ 10 := wp.2.2.2.1
    have hc10 : c < 10 := by omega
    subst hpp
    have h69 : S 69 0 c = p := by rw [pm.1 69 _ rfl]; omega
    have hpe : (p : Int) = D 69 0 c := by omega
    unfold b_120_112
    repeat' first
      | (refine V_icmp_ge.mpr ?_; first | rw [if_pos (by omega)] | rw [if_neg (by omega)] | split)
      | (refine V_icmp_lt.mpr ?_; first | rw [if_pos (by omega)] | rw [if_neg (by omega)] | split)
      | (refine V_icmp_ne.mpr ?_; first | rw [if_pos (by omega)] | rw [if_neg (by omega)] | split)
      | (refine V_if_eq.mpr ?_; first | rw [if_pos (by omega)] | rw [if_neg (by omega)] | split)
      | (refine V_if_le.mpr ?_; first | rw [if_pos (by omega)] | rw [if_neg (by omega)] | split)
      | (refine V_if_ne.mpr ?_; first | rw [if_pos (by omega)] | rw [if_neg (by omega)] | split)
      | (simp (disch := (first | omega | (simp (disch := omega) only [up_f, up_s, up_i, up_k, up_e]; omega))) only [up_f, up_s, up_i, up_k, up_e, V_iconst, V_bipush, V_sipush, V_conti, V_contn, V_goto, Option.some.injEq, exists_eq_left', true_and, and_true, m_fit, Option.isSome_some, List.map_nil, List.map_cons, List.sum_nil, List.sum_cons, List.all_nil, List.all_cons, m_cat, decide_true, Bool.and_true, Bool.true_and, Nat.zero_le, Int.toNat_natCast, Int.reduceAdd, Int.reduceSub, Int.reduceMul, Int.reduceNeg, Int.reduceLE, Int.reduceLT, Nat.reduceAdd, Nat.reduceLeDiff, Int.reduceToNat, Int.reduceEq, decide_eq_true_eq, true_or, or_true, exists_and_left, and_self, Nat.reduceMul, Nat.reduceSub, Nat.reduceLT, m_oa, Nat.reduceEqDiff, or_false, false_or, Sum.inl.injEq, Sum.inr.injEq, ↓reduceIte, ne_eq, not_false_eq_true, Int.reduceNe, exists_eq_left, D_120, R_120, X_120, F_120_104, F_120_28, J_120_19, J_120_28, F_120_98, F_120_37, J_120_45, J_120_49, J_120_57, F_120_19, J_120_74, J_120_79, J_120_83, F_120_161, J_120_100, F_120_131, F_120_68, J_120_121, F_120_65, J_120_131, F_120_71, J_120_147, I_120_188, F_120_25, J_120_164, J_120_168, J_120_176, J_120_181, J_120_193, I_120_208, J_120_209, J_120_213, J_120_222, J_120_228, V_iloadn1, V_imul, m_mul_eq, V_aloadn0, G_10_37, A_328, T_a328, B_328, U_iaload, V_iadd, m_add_eq, V_istoren3, V_iloadn2, G_10_9, A_303, T_a303, B_303, V_iloadn3, G_10_35, A_326, T_a326, B_326, G_10_12, A_306, T_a306, B_306, V_istore4, V_iload4, V_isub, m_sub_eq, G_10_6, A_300, T_a300, B_300, V_istore5, V_istore6, V_iload6, G_10_14, G_10_46, A_337, T_a337, B_337, V_istore7, V_iload7, G_10_23, A_316, T_a316, B_316, G_10_22, A_315, T_a315, B_315, U_baload, G_10_24, A_317, T_a317, B_317, T_10, G_10_8, A_302, T_a302, B_302, V_istore8, V_iload5, V_iload8, V_iinc7, V_iinc6, b_120_0, b_120_48, b_120_52, b_120_53, b_120_77, b_120_86, b_120_87, b_120_88, b_120_94, b_120_171, b_120_172, b_120_212, b_120_216, b_120_217, b_120_231, h69])
    all_goals first | (rw [hpe]; exact K _ _) | exact K _ _
  | z + 1, p, pp, w, hz, hpp, hp => by
    have hC : C ≤ 10 := wp.2.2.2.1
    have hc10 : c < 10 := by omega
    subst hpp
    have hpl := wp.2.2.2.2.2.2.1 c hc10
    have hp3 : p < 3 := by omega
    have h69 : S 69 0 c = (p : Int) + z + 1 := by rw [pm.1 69 _ rfl]; omega
    have h68 : S 68 0 c = 0 := by rw [pm.1 68 _ rfl]; exact ho
    have hx : (3 * (c : Int) + (p : Int)).toNat = 3 * c + p := by omega
    have h70 : S 70 0 (3 * c + p) = D 70 0 (3 * c + p) := pm.1 70 _ rfl
    have h55 : S 55 0 (6 * t + k) = D 55 0 (6 * t + k) := pm.1 55 _ rfl
    have h90 : S 90 0 c = N 90 0 c := R90 rm hc10
    have h112 : ∀ Q, m_do xs L 112 [vR 296, vI c, vI p] (mk S e) Q ↔ Q (.inl (some (vI (begP D c p)))) (mk S e) := fun Q => by
      rw [s_112 hc10 (by omega), pm.1 61 _ rfl, pm.1 71 _ rfl]
      rfl
    have h119 : ∀ Q, m_do xs L 119 [vR 296, vI c, vI (D 55 0 (6 * t + k)), vI m] (mk S e) Q ↔ Q (.inl (some (vI (iP (N 88 0 c = D 55 0 (6 * t + k) ∧ N 89 0 c ≤ m))))) (mk S e) := fun Q => by
      rw [s_119 hc10, R88 rm hc10, R89 rm hc10]
      by_cases h : N 88 0 c = D 55 0 (6 * t + k) ∧ N 89 0 c ≤ m
      · rw [if_pos h, iP_1 h]
      · rw [if_neg h, iP_0 h]
    have kk := fun (b : Int) (hb : b = iP ((∀ c2, c2 < c → ¬ misA D N t (D 55 0 (6 * t + k)) m c2) ∧ ∀ p2 : Nat, N 90 0 c ≤ p2 → (p2 : Int) < ((p : Int) + 1) → ¬ misQ D N t (D 55 0 (6 * t + k)) m c p2)) (w : MV) => (show m_ok xs L 120 b_120_112 [vR 296, vI t, vI m, vI (6 * t + k : Nat), vI 0, vI b, vI c, vI ((p : Int) + 1), w] [] (mk S e) Q from by
      rw [hb]
      exact k_120i wp ht hk hc pm rm hd0 ho K z (p + 1) _ w (by omega) (by omega) (by omega))
    by_cases hO : ((∀ c2, c2 < c → ¬ misA D N t (D 55 0 (6 * t + k)) m c2) ∧ ∀ p2 : Nat, N 90 0 c ≤ p2 → (p2 : Int) < p → ¬ misQ D N t (D 55 0 (6 * t + k)) m c p2)
    · have h1 := iP_1 hO
      by_cases hA : D 70 0 (3 * c + p) = t
      · by_cases hB : begP D c p = D 55 0 (6 * t + k)
        · by_cases hD : (p : Int) = N 90 0 c
          · by_cases hE : N 88 0 c = D 55 0 (6 * t + k) ∧ N 89 0 c ≤ m
            · rw [iP_1 hE] at h119
              have hd9 : ¬ misQ D N t (D 55 0 (6 * t + k)) m c p := fun z => z.2.2.elim (fun z => z hD) (fun z => z hE)
              unfold b_120_112
              repeat' first
                | (refine V_icmp_ge.mpr ?_; first | rw [if_pos (by omega)] | rw [if_neg (by omega)] | split)
                | (refine V_icmp_lt.mpr ?_; first | rw [if_pos (by omega)] | rw [if_neg (by omega)] | split)
                | (refine V_icmp_ne.mpr ?_; first | rw [if_pos (by omega)] | rw [if_neg (by omega)] | split)
                | (refine V_if_eq.mpr ?_; first | rw [if_pos (by omega)] | rw [if_neg (by omega)] | split)
                | (refine V_if_le.mpr ?_; first | rw [if_pos (by omega)] | rw [if_neg (by omega)] | split)
                | (refine V_if_ne.mpr ?_; first | rw [if_pos (by omega)] | rw [if_neg (by omega)] | split)
                | (simp (disch := (first | omega | (simp (disch := omega) only [up_f, up_s, up_i, up_k, up_e]; omega))) only [up_f, up_s, up_i, up_k, up_e, V_iconst, V_bipush, V_sipush, V_conti, V_contn, V_goto, Option.some.injEq, exists_eq_left', true_and, and_true, m_fit, Option.isSome_some, List.map_nil, List.map_cons, List.sum_nil, List.sum_cons, List.all_nil, List.all_cons, m_cat, decide_true, Bool.and_true, Bool.true_and, Nat.zero_le, Int.toNat_natCast, Int.reduceAdd, Int.reduceSub, Int.reduceMul, Int.reduceNeg, Int.reduceLE, Int.reduceLT, Nat.reduceAdd, Nat.reduceLeDiff, Int.reduceToNat, Int.reduceEq, decide_eq_true_eq, true_or, or_true, exists_and_left, and_self, Nat.reduceMul, Nat.reduceSub, Nat.reduceLT, m_oa, Nat.reduceEqDiff, or_false, false_or, Sum.inl.injEq, Sum.inr.injEq, ↓reduceIte, ne_eq, not_false_eq_true, Int.reduceNe, exists_eq_left, D_120, R_120, X_120, F_120_104, F_120_28, J_120_19, J_120_28, F_120_98, F_120_37, J_120_45, J_120_49, J_120_57, F_120_19, J_120_74, J_120_79, J_120_83, F_120_161, J_120_100, F_120_131, F_120_68, J_120_121, F_120_65, J_120_131, F_120_71, J_120_147, I_120_188, F_120_25, J_120_164, J_120_168, J_120_176, J_120_181, J_120_193, I_120_208, J_120_209, J_120_213, J_120_222, J_120_228, V_iloadn1, V_imul, m_mul_eq, V_aloadn0, G_10_37, A_328, T_a328, B_328, U_iaload, V_iadd, m_add_eq, V_istoren3, V_iloadn2, G_10_9, A_303, T_a303, B_303, V_iloadn3, G_10_35, A_326, T_a326, B_326, G_10_12, A_306, T_a306, B_306, V_istore4, V_iload4, V_isub, m_sub_eq, G_10_6, A_300, T_a300, B_300, V_istore5, V_istore6, V_iload6, G_10_14, G_10_46, A_337, T_a337, B_337, V_istore7, V_iload7, G_10_23, A_316, T_a316, B_316, G_10_22, A_315, T_a315, B_315, U_baload, G_10_24, A_317, T_a317, B_317, T_10, G_10_8, A_302, T_a302, B_302, V_istore8, V_iload5, V_iload8, V_iinc7, V_iinc6, b_120_0, b_120_48, b_120_52, b_120_53, b_120_77, b_120_86, b_120_87, b_120_88, b_120_94, b_120_171, b_120_172, b_120_212, b_120_216, b_120_217, b_120_231, h69, h68, hx, h70, h112, h119, h90, h55, h1])
              all_goals (refine kk _ ?_ _; refine (iP_1 ⟨hO.1, fun p2 h2 h3 => ?_⟩).symm; by_cases h9 : p2 = p; (subst h9; exact hd9); exact hO.2 p2 h2 (by omega))
            · rw [iP_0 hE] at h119
              have hd9 : misQ D N t (D 55 0 (6 * t + k)) m c p := ⟨hA, hB, Or.inr hE⟩
              unfold b_120_112
              repeat' first
                | (refine V_icmp_ge.mpr ?_; first | rw [if_pos (by omega)] | rw [if_neg (by omega)] | split)
                | (refine V_icmp_lt.mpr ?_; first | rw [if_pos (by omega)] | rw [if_neg (by omega)] | split)
                | (refine V_icmp_ne.mpr ?_; first | rw [if_pos (by omega)] | rw [if_neg (by omega)] | split)
                | (refine V_if_eq.mpr ?_; first | rw [if_pos (by omega)] | rw [if_neg (by omega)] | split)
                | (refine V_if_le.mpr ?_; first | rw [if_pos (by omega)] | rw [if_neg (by omega)] | split)
                | (refine V_if_ne.mpr ?_; first | rw [if_pos (by omega)] | rw [if_neg (by omega)] | split)
                | (simp (disch := (first | omega | (simp (disch := omega) only [up_f, up_s, up_i, up_k, up_e]; omega))) only [up_f, up_s, up_i, up_k, up_e, V_iconst, V_bipush, V_sipush, V_conti, V_contn, V_goto, Option.some.injEq, exists_eq_left', true_and, and_true, m_fit, Option.isSome_some, List.map_nil, List.map_cons, List.sum_nil, List.sum_cons, List.all_nil, List.all_cons, m_cat, decide_true, Bool.and_true, Bool.true_and, Nat.zero_le, Int.toNat_natCast, Int.reduceAdd, Int.reduceSub, Int.reduceMul, Int.reduceNeg, Int.reduceLE, Int.reduceLT, Nat.reduceAdd, Nat.reduceLeDiff, Int.reduceToNat, Int.reduceEq, decide_eq_true_eq, true_or, or_true, exists_and_left, and_self, Nat.reduceMul, Nat.reduceSub, Nat.reduceLT, m_oa, Nat.reduceEqDiff, or_false, false_or, Sum.inl.injEq, Sum.inr.injEq, ↓reduceIte, ne_eq, not_false_eq_true, Int.reduceNe, exists_eq_left, D_120, R_120, X_120, F_120_104, F_120_28, J_120_19, J_120_28, F_120_98, F_120_37, J_120_45, J_120_49, J_120_57, F_120_19, J_120_74, J_120_79, J_120_83, F_120_161, J_120_100, F_120_131, F_120_68, J_120_121, F_120_65, J_120_131, F_120_71, J_120_147, I_120_188, F_120_25, J_120_164, J_120_168, J_120_176, J_120_181, J_120_193, I_120_208, J_120_209, J_120_213, J_120_222, J_120_228, V_iloadn1, V_imul, m_mul_eq, V_aloadn0, G_10_37, A_328, T_a328, B_328, U_iaload, V_iadd, m_add_eq, V_istoren3, V_iloadn2, G_10_9, A_303, T_a303, B_303, V_iloadn3, G_10_35, A_326, T_a326, B_326, G_10_12, A_306, T_a306, B_306, V_istore4, V_iload4, V_isub, m_sub_eq, G_10_6, A_300, T_a300, B_300, V_istore5, V_istore6, V_iload6, G_10_14, G_10_46, A_337, T_a337, B_337, V_istore7, V_iload7, G_10_23, A_316, T_a316, B_316, G_10_22, A_315, T_a315, B_315, U_baload, G_10_24, A_317, T_a317, B_317, T_10, G_10_8, A_302, T_a302, B_302, V_istore8, V_iload5, V_iload8, V_iinc7, V_iinc6, b_120_0, b_120_48, b_120_52, b_120_53, b_120_77, b_120_86, b_120_87, b_120_88, b_120_94, b_120_171, b_120_172, b_120_212, b_120_216, b_120_217, b_120_231, h69, h68, hx, h70, h112, h119, h90, h55, h1])
              all_goals (refine kk _ ?_ _; exact (iP_0 (fun z => z.2 p hp (by omega) hd9)).symm)
          · have hd9 : misQ D N t (D 55 0 (6 * t + k)) m c p := ⟨hA, hB, Or.inl hD⟩
            unfold b_120_112
            repeat' first
              | (refine V_icmp_ge.mpr ?_; first | rw [if_pos (by omega)] | rw [if_neg (by omega)] | split)
              | (refine V_icmp_lt.mpr ?_; first | rw [if_pos (by omega)] | rw [if_neg (by omega)] | split)
              | (refine V_icmp_ne.mpr ?_; first | rw [if_pos (by omega)] | rw [if_neg (by omega)] | split)
              | (refine V_if_eq.mpr ?_; first | rw [if_pos (by omega)] | rw [if_neg (by omega)] | split)
              | (refine V_if_le.mpr ?_; first | rw [if_pos (by omega)] | rw [if_neg (by omega)] | split)
              | (refine V_if_ne.mpr ?_; first | rw [if_pos (by omega)] | rw [if_neg (by omega)] | split)
              | (simp (disch := (first | omega | (simp (disch := omega) only [up_f, up_s, up_i, up_k, up_e]; omega))) only [up_f, up_s, up_i, up_k, up_e, V_iconst, V_bipush, V_sipush, V_conti, V_contn, V_goto, Option.some.injEq, exists_eq_left', true_and, and_true, m_fit, Option.isSome_some, List.map_nil, List.map_cons, List.sum_nil, List.sum_cons, List.all_nil, List.all_cons, m_cat, decide_true, Bool.and_true, Bool.true_and, Nat.zero_le, Int.toNat_natCast, Int.reduceAdd, Int.reduceSub, Int.reduceMul, Int.reduceNeg, Int.reduceLE, Int.reduceLT, Nat.reduceAdd, Nat.reduceLeDiff, Int.reduceToNat, Int.reduceEq, decide_eq_true_eq, true_or, or_true, exists_and_left, and_self, Nat.reduceMul, Nat.reduceSub, Nat.reduceLT, m_oa, Nat.reduceEqDiff, or_false, false_or, Sum.inl.injEq, Sum.inr.injEq, ↓reduceIte, ne_eq, not_false_eq_true, Int.reduceNe, exists_eq_left, D_120, R_120, X_120, F_120_104, F_120_28, J_120_19, J_120_28, F_120_98, F_120_37, J_120_45, J_120_49, J_120_57, F_120_19, J_120_74, J_120_79, J_120_83, F_120_161, J_120_100, F_120_131, F_120_68, J_120_121, F_120_65, J_120_131, F_120_71, J_120_147, I_120_188, F_120_25, J_120_164, J_120_168, J_120_176, J_120_181, J_120_193, I_120_208, J_120_209, J_120_213, J_120_222, J_120_228, V_iloadn1, V_imul, m_mul_eq, V_aloadn0, G_10_37, A_328, T_a328, B_328, U_iaload, V_iadd, m_add_eq, V_istoren3, V_iloadn2, G_10_9, A_303, T_a303, B_303, V_iloadn3, G_10_35, A_326, T_a326, B_326, G_10_12, A_306, T_a306, B_306, V_istore4, V_iload4, V_isub, m_sub_eq, G_10_6, A_300, T_a300, B_300, V_istore5, V_istore6, V_iload6, G_10_14, G_10_46, A_337, T_a337, B_337, V_istore7, V_iload7, G_10_23, A_316, T_a316, B_316, G_10_22, A_315, T_a315, B_315, U_baload, G_10_24, A_317, T_a317, B_317, T_10, G_10_8, A_302, T_a302, B_302, V_istore8, V_iload5, V_iload8, V_iinc7, V_iinc6, b_120_0, b_120_48, b_120_52, b_120_53, b_120_77, b_120_86, b_120_87, b_120_88, b_120_94, b_120_171, b_120_172, b_120_212, b_120_216, b_120_217, b_120_231, h69, h68, hx, h70, h112, h119, h90, h55, h1])
            all_goals (refine kk _ ?_ _; exact (iP_0 (fun z => z.2 p hp (by omega) hd9)).symm)
        · have hd9 : ¬ misQ D N t (D 55 0 (6 * t + k)) m c p := fun z => hB z.2.1
          unfold b_120_112
          repeat' first
            | (refine V_icmp_ge.mpr ?_; first | rw [if_pos (by omega)] | rw [if_neg (by omega)] | split)
            | (refine V_icmp_lt.mpr ?_; first | rw [if_pos (by omega)] | rw [if_neg (by omega)] | split)
            | (refine V_icmp_ne.mpr ?_; first | rw [if_pos (by omega)] | rw [if_neg (by omega)] | split)
            | (refine V_if_eq.mpr ?_; first | rw [if_pos (by omega)] | rw [if_neg (by omega)] | split)
            | (refine V_if_le.mpr ?_; first | rw [if_pos (by omega)] | rw [if_neg (by omega)] | split)
            | (refine V_if_ne.mpr ?_; first | rw [if_pos (by omega)] | rw [if_neg (by omega)] | split)
            | (simp (disch := (first | omega | (simp (disch := omega) only [up_f, up_s, up_i, up_k, up_e]; omega))) only [up_f, up_s, up_i, up_k, up_e, V_iconst, V_bipush, V_sipush, V_conti, V_contn, V_goto, Option.some.injEq, exists_eq_left', true_and, and_true, m_fit, Option.isSome_some, List.map_nil, List.map_cons, List.sum_nil, List.sum_cons, List.all_nil, List.all_cons, m_cat, decide_true, Bool.and_true, Bool.true_and, Nat.zero_le, Int.toNat_natCast, Int.reduceAdd, Int.reduceSub, Int.reduceMul, Int.reduceNeg, Int.reduceLE, Int.reduceLT, Nat.reduceAdd, Nat.reduceLeDiff, Int.reduceToNat, Int.reduceEq, decide_eq_true_eq, true_or, or_true, exists_and_left, and_self, Nat.reduceMul, Nat.reduceSub, Nat.reduceLT, m_oa, Nat.reduceEqDiff, or_false, false_or, Sum.inl.injEq, Sum.inr.injEq, ↓reduceIte, ne_eq, not_false_eq_true, Int.reduceNe, exists_eq_left, D_120, R_120, X_120, F_120_104, F_120_28, J_120_19, J_120_28, F_120_98, F_120_37, J_120_45, J_120_49, J_120_57, F_120_19, J_120_74, J_120_79, J_120_83, F_120_161, J_120_100, F_120_131, F_120_68, J_120_121, F_120_65, J_120_131, F_120_71, J_120_147, I_120_188, F_120_25, J_120_164, J_120_168, J_120_176, J_120_181, J_120_193, I_120_208, J_120_209, J_120_213, J_120_222, J_120_228, V_iloadn1, V_imul, m_mul_eq, V_aloadn0, G_10_37, A_328, T_a328, B_328, U_iaload, V_iadd, m_add_eq, V_istoren3, V_iloadn2, G_10_9, A_303, T_a303, B_303, V_iloadn3, G_10_35, A_326, T_a326, B_326, G_10_12, A_306, T_a306, B_306, V_istore4, V_iload4, V_isub, m_sub_eq, G_10_6, A_300, T_a300, B_300, V_istore5, V_istore6, V_iload6, G_10_14, G_10_46, A_337, T_a337, B_337, V_istore7, V_iload7, G_10_23, A_316, T_a316, B_316, G_10_22, A_315, T_a315, B_315, U_baload, G_10_24, A_317, T_a317, B_317, T_10, G_10_8, A_302, T_a302, B_302, V_istore8, V_iload5, V_iload8, V_iinc7, V_iinc6, b_120_0, b_120_48, b_120_52, b_120_53, b_120_77, b_120_86, b_120_87, b_120_88, b_120_94, b_120_171, b_120_172, b_120_212, b_120_216, b_120_217, b_120_231, h69, h68, hx, h70, h112, h119, h90, h55, h1])
          all_goals (refine kk _ ?_ _; refine (iP_1 ⟨hO.1, fun p2 h2 h3 => ?_⟩).symm; by_cases h9 : p2 = p; (subst h9; exact hd9); exact hO.2 p2 h2 (by omega))
      · have hd9 : ¬ misQ D N t (D 55 0 (6 * t + k)) m c p := fun z => hA z.1
        unfold b_120_112
        repeat' first
          | (refine V_icmp_ge.mpr ?_; first | rw [if_pos (by omega)] | rw [if_neg (by omega)] | split)
          | (refine V_icmp_lt.mpr ?_; first | rw [if_pos (by omega)] | rw [if_neg (by omega)] | split)
          | (refine V_icmp_ne.mpr ?_; first | rw [if_pos (by omega)] | rw [if_neg (by omega)] | split)
          | (refine V_if_eq.mpr ?_; first | rw [if_pos (by omega)] | rw [if_neg (by omega)] | split)
          | (refine V_if_le.mpr ?_; first | rw [if_pos (by omega)] | rw [if_neg (by omega)] | split)
          | (refine V_if_ne.mpr ?_; first | rw [if_pos (by omega)] | rw [if_neg (by omega)] | split)
          | (simp (disch := (first | omega | (simp (disch := omega) only [up_f, up_s, up_i, up_k, up_e]; omega))) only [up_f, up_s, up_i, up_k, up_e, V_iconst, V_bipush, V_sipush, V_conti, V_contn, V_goto, Option.some.injEq, exists_eq_left', true_and, and_true, m_fit, Option.isSome_some, List.map_nil, List.map_cons, List.sum_nil, List.sum_cons, List.all_nil, List.all_cons, m_cat, decide_true, Bool.and_true, Bool.true_and, Nat.zero_le, Int.toNat_natCast, Int.reduceAdd, Int.reduceSub, Int.reduceMul, Int.reduceNeg, Int.reduceLE, Int.reduceLT, Nat.reduceAdd, Nat.reduceLeDiff, Int.reduceToNat, Int.reduceEq, decide_eq_true_eq, true_or, or_true, exists_and_left, and_self, Nat.reduceMul, Nat.reduceSub, Nat.reduceLT, m_oa, Nat.reduceEqDiff, or_false, false_or, Sum.inl.injEq, Sum.inr.injEq, ↓reduceIte, ne_eq, not_false_eq_true, Int.reduceNe, exists_eq_left, D_120, R_120, X_120, F_120_104, F_120_28, J_120_19, J_120_28, F_120_98, F_120_37, J_120_45, J_120_49, J_120_57, F_120_19, J_120_74, J_120_79, J_120_83, F_120_161, J_120_100, F_120_131, F_120_68, J_120_121, F_120_65, J_120_131, F_120_71, J_120_147, I_120_188, F_120_25, J_120_164, J_120_168, J_120_176, J_120_181, J_120_193, I_120_208, J_120_209, J_120_213, J_120_222, J_120_228, V_iloadn1, V_imul, m_mul_eq, V_aloadn0, G_10_37, A_328, T_a328, B_328, U_iaload, V_iadd, m_add_eq, V_istoren3, V_iloadn2, G_10_9, A_303, T_a303, B_303, V_iloadn3, G_10_35, A_326, T_a326, B_326, G_10_12, A_306, T_a306, B_306, V_istore4, V_iload4, V_isub, m_sub_eq, G_10_6, A_300, T_a300, B_300, V_istore5, V_istore6, V_iload6, G_10_14, G_10_46, A_337, T_a337, B_337, V_istore7, V_iload7, G_10_23, A_316, T_a316, B_316, G_10_22, A_315, T_a315, B_315, U_baload, G_10_24, A_317, T_a317, B_317, T_10, G_10_8, A_302, T_a302, B_302, V_istore8, V_iload5, V_iload8, V_iinc7, V_iinc6, b_120_0, b_120_48, b_120_52, b_120_53, b_120_77, b_120_86, b_120_87, b_120_88, b_120_94, b_120_171, b_120_172, b_120_212, b_120_216, b_120_217, b_120_231, h69, h68, hx, h70, h112, h119, h90, h55, h1])
        all_goals (refine kk _ ?_ _; refine (iP_1 ⟨hO.1, fun p2 h2 h3 => ?_⟩).symm; by_cases h9 : p2 = p; (subst h9; exact hd9); exact hO.2 p2 h2 (by omega))
    · have h1 := iP_0 hO
      have h2 : ¬ ((∀ c2, c2 < c → ¬ misA D N t (D 55 0 (6 * t + k)) m c2) ∧ ∀ p2 : Nat, N 90 0 c ≤ p2 → (p2 : Int) < ((p : Int) + 1) → ¬ misQ D N t (D 55 0 (6 * t + k)) m c p2) := fun z => hO ⟨z.1, fun p2 h2 h3 => z.2 p2 h2 (by omega)⟩
      unfold b_120_112
      repeat' first
        | (refine V_icmp_ge.mpr ?_; first | rw [if_pos (by omega)] | rw [if_neg (by omega)] | split)
        | (refine V_icmp_lt.mpr ?_; first | rw [if_pos (by omega)] | rw [if_neg (by omega)] | split)
        | (refine V_icmp_ne.mpr ?_; first | rw [if_pos (by omega)] | rw [if_neg (by omega)] | split)
        | (refine V_if_eq.mpr ?_; first | rw [if_pos (by omega)] | rw [if_neg (by omega)] | split)
        | (refine V_if_le.mpr ?_; first | rw [if_pos (by omega)] | rw [if_neg (by omega)] | split)
        | (refine V_if_ne.mpr ?_; first | rw [if_pos (by omega)] | rw [if_neg (by omega)] | split)
        | (simp (disch := (first | omega | (simp (disch := omega) only [up_f, up_s, up_i, up_k, up_e]; omega))) only [up_f, up_s, up_i, up_k, up_e, V_iconst, V_bipush, V_sipush, V_conti, V_contn, V_goto, Option.some.injEq, exists_eq_left', true_and, and_true, m_fit, Option.isSome_some, List.map_nil, List.map_cons, List.sum_nil, List.sum_cons, List.all_nil, List.all_cons, m_cat, decide_true, Bool.and_true, Bool.true_and, Nat.zero_le, Int.toNat_natCast, Int.reduceAdd, Int.reduceSub, Int.reduceMul, Int.reduceNeg, Int.reduceLE, Int.reduceLT, Nat.reduceAdd, Nat.reduceLeDiff, Int.reduceToNat, Int.reduceEq, decide_eq_true_eq, true_or, or_true, exists_and_left, and_self, Nat.reduceMul, Nat.reduceSub, Nat.reduceLT, m_oa, Nat.reduceEqDiff, or_false, false_or, Sum.inl.injEq, Sum.inr.injEq, ↓reduceIte, ne_eq, not_false_eq_true, Int.reduceNe, exists_eq_left, D_120, R_120, X_120, F_120_104, F_120_28, J_120_19, J_120_28, F_120_98, F_120_37, J_120_45, J_120_49, J_120_57, F_120_19, J_120_74, J_120_79, J_120_83, F_120_161, J_120_100, F_120_131, F_120_68, J_120_121, F_120_65, J_120_131, F_120_71, J_120_147, I_120_188, F_120_25, J_120_164, J_120_168, J_120_176, J_120_181, J_120_193, I_120_208, J_120_209, J_120_213, J_120_222, J_120_228, V_iloadn1, V_imul, m_mul_eq, V_aloadn0, G_10_37, A_328, T_a328, B_328, U_iaload, V_iadd, m_add_eq, V_istoren3, V_iloadn2, G_10_9, A_303, T_a303, B_303, V_iloadn3, G_10_35, A_326, T_a326, B_326, G_10_12, A_306, T_a306, B_306, V_istore4, V_iload4, V_isub, m_sub_eq, G_10_6, A_300, T_a300, B_300, V_istore5, V_istore6, V_iload6, G_10_14, G_10_46, A_337, T_a337, B_337, V_istore7, V_iload7, G_10_23, A_316, T_a316, B_316, G_10_22, A_315, T_a315, B_315, U_baload, G_10_24, A_317, T_a317, B_317, T_10, G_10_8, A_302, T_a302, B_302, V_istore8, V_iload5, V_iload8, V_iinc7, V_iinc6, b_120_0, b_120_48, b_120_52, b_120_53, b_120_77, b_120_86, b_120_87, b_120_88, b_120_94, b_120_171, b_120_172, b_120_212, b_120_216, b_120_217, b_120_231, h69, h68, hx, h70, h112, h119, h90, h55, h1])
      all_goals (refine kk _ ?_ _; exact (iP_0 h2).symm)
theorem k_120o {t T C k : Nat} {D S N : Sg} {m : Int} {Q : MOut → MHp → Prop} (wp : WP D T C) (ht : t < 6) (hk : k < 6) (wc : WC D N C) (pm : PM D S) (rm : RM S N)
    (K : Q (.inl (some (vI (iP (∀ c2, c2 < C → ¬ misA D N t (D 55 0 (6 * t + k)) m c2))))) (mk S e)) : ∀ (z c : Nat) (cc : Int) (v w : MV), c + z = C → cc = c → m_ok xs L 120 b_120_94 [vR 296, vI t, vI m, vI (6 * t + k : Nat), vI 0, vI (iP (∀ c2, c2 < c → ¬ misA D N t (D 55 0 (6 * t + k)) m c2)), vI cc, v, w] [] (mk S e) Q
  | 0, c, cc, v, w, hz, hcc => by
    have hc : c = C := by omega
    subst hc
    subst hcc
    have h2014 : S 2014 0 0 = c := by rw [pm.1 2014 _ rfl]; exact wp.2.1
    have hb : iP (∀ c2, c2 < c → ¬ misA D N t (D 55 0 (6 * t + k)) m c2) = 0 ∨ iP (∀ c2, c2 < c → ¬ misA D N t (D 55 0 (6 * t + k)) m c2) = 1 := by
      by_cases h : (∀ c2, c2 < c → ¬ misA D N t (D 55 0 (6 * t + k)) m c2)
      · exact Or.inr (iP_1 h)
      · exact Or.inl (iP_0 h)
    unfold b_120_94
    rcases hb with hb | hb
    · rw [hb] at K ⊢
      repeat' first
        | (refine V_icmp_ge.mpr ?_; first | rw [if_pos (by omega)] | rw [if_neg (by omega)] | split)
        | (refine V_icmp_lt.mpr ?_; first | rw [if_pos (by omega)] | rw [if_neg (by omega)] | split)
        | (refine V_icmp_ne.mpr ?_; first | rw [if_pos (by omega)] | rw [if_neg (by omega)] | split)
        | (refine V_if_eq.mpr ?_; first | rw [if_pos (by omega)] | rw [if_neg (by omega)] | split)
        | (refine V_if_le.mpr ?_; first | rw [if_pos (by omega)] | rw [if_neg (by omega)] | split)
        | (refine V_if_ne.mpr ?_; first | rw [if_pos (by omega)] | rw [if_neg (by omega)] | split)
        | (simp (disch := (first | omega | (simp (disch := omega) only [up_f, up_s, up_i, up_k, up_e]; omega))) only [up_f, up_s, up_i, up_k, up_e, V_iconst, V_bipush, V_sipush, V_conti, V_contn, V_goto, Option.some.injEq, exists_eq_left', true_and, and_true, m_fit, Option.isSome_some, List.map_nil, List.map_cons, List.sum_nil, List.sum_cons, List.all_nil, List.all_cons, m_cat, decide_true, Bool.and_true, Bool.true_and, Nat.zero_le, Int.toNat_natCast, Int.reduceAdd, Int.reduceSub, Int.reduceMul, Int.reduceNeg, Int.reduceLE, Int.reduceLT, Nat.reduceAdd, Nat.reduceLeDiff, Int.reduceToNat, Int.reduceEq, decide_eq_true_eq, true_or, or_true, exists_and_left, and_self, Nat.reduceMul, Nat.reduceSub, Nat.reduceLT, m_oa, Nat.reduceEqDiff, or_false, false_or, Sum.inl.injEq, Sum.inr.injEq, ↓reduceIte, ne_eq, not_false_eq_true, Int.reduceNe, exists_eq_left, D_120, R_120, X_120, F_120_104, F_120_28, J_120_19, J_120_28, F_120_98, F_120_37, J_120_45, J_120_49, J_120_57, F_120_19, J_120_74, J_120_79, J_120_83, F_120_161, J_120_100, F_120_131, F_120_68, J_120_121, F_120_65, J_120_131, F_120_71, J_120_147, I_120_188, F_120_25, J_120_164, J_120_168, J_120_176, J_120_181, J_120_193, I_120_208, J_120_209, J_120_213, J_120_222, J_120_228, V_iloadn1, V_imul, m_mul_eq, V_aloadn0, G_10_37, A_328, T_a328, B_328, U_iaload, V_iadd, m_add_eq, V_istoren3, V_iloadn2, G_10_9, A_303, T_a303, B_303, V_iloadn3, G_10_35, A_326, T_a326, B_326, G_10_12, A_306, T_a306, B_306, V_istore4, V_iload4, V_isub, m_sub_eq, G_10_6, A_300, T_a300, B_300, V_istore5, V_istore6, V_iload6, G_10_14, G_10_46, A_337, T_a337, B_337, V_istore7, V_iload7, G_10_23, A_316, T_a316, B_316, G_10_22, A_315, T_a315, B_315, U_baload, G_10_24, A_317, T_a317, B_317, T_10, G_10_8, A_302, T_a302, B_302, V_istore8, V_iload5, V_iload8, V_iinc7, V_iinc6, b_120_0, b_120_48, b_120_52, b_120_53, b_120_77, b_120_86, b_120_87, b_120_88, b_120_112, b_120_171, b_120_172, b_120_212, b_120_216, b_120_217, b_120_225, b_120_231, h2014])
      all_goals exact K
    · rw [hb] at K ⊢
      repeat' first
        | (refine V_icmp_ge.mpr ?_; first | rw [if_pos (by omega)] | rw [if_neg (by omega)] | split)
        | (refine V_icmp_lt.mpr ?_; first | rw [if_pos (by omega)] | rw [if_neg (by omega)] | split)
        | (refine V_icmp_ne.mpr ?_; first | rw [if_pos (by omega)] | rw [if_neg (by omega)] | split)
        | (refine V_if_eq.mpr ?_; first | rw [if_pos (by omega)] | rw [if_neg (by omega)] | split)
        | (refine V_if_le.mpr ?_; first | rw [if_pos (by omega)] | rw [if_neg (by omega)] | split)
        | (refine V_if_ne.mpr ?_; first | rw [if_pos (by omega)] | rw [if_neg (by omega)] | split)
        | (simp (disch := (first | omega | (simp (disch := omega) only [up_f, up_s, up_i, up_k, up_e]; omega))) only [up_f, up_s, up_i, up_k, up_e, V_iconst, V_bipush, V_sipush, V_conti, V_contn, V_goto, Option.some.injEq, exists_eq_left', true_and, and_true, m_fit, Option.isSome_some, List.map_nil, List.map_cons, List.sum_nil, List.sum_cons, List.all_nil, List.all_cons, m_cat, decide_true, Bool.and_true, Bool.true_and, Nat.zero_le, Int.toNat_natCast, Int.reduceAdd, Int.reduceSub, Int.reduceMul, Int.reduceNeg, Int.reduceLE, Int.reduceLT, Nat.reduceAdd, Nat.reduceLeDiff, Int.reduceToNat, Int.reduceEq, decide_eq_true_eq, true_or, or_true, exists_and_left, and_self, Nat.reduceMul, Nat.reduceSub, Nat.reduceLT, m_oa, Nat.reduceEqDiff, or_false, false_or, Sum.inl.injEq, Sum.inr.injEq, ↓reduceIte, ne_eq, not_false_eq_true, Int.reduceNe, exists_eq_left, D_120, R_120, X_120, F_120_104, F_120_28, J_120_19, J_120_28, F_120_98, F_120_37, J_120_45, J_120_49, J_120_57, F_120_19, J_120_74, J_120_79, J_120_83, F_120_161, J_120_100, F_120_131, F_120_68, J_120_121, F_120_65, J_120_131, F_120_71, J_120_147, I_120_188, F_120_25, J_120_164, J_120_168, J_120_176, J_120_181, J_120_193, I_120_208, J_120_209, J_120_213, J_120_222, J_120_228, V_iloadn1, V_imul, m_mul_eq, V_aloadn0, G_10_37, A_328, T_a328, B_328, U_iaload, V_iadd, m_add_eq, V_istoren3, V_iloadn2, G_10_9, A_303, T_a303, B_303, V_iloadn3, G_10_35, A_326, T_a326, B_326, G_10_12, A_306, T_a306, B_306, V_istore4, V_iload4, V_isub, m_sub_eq, G_10_6, A_300, T_a300, B_300, V_istore5, V_istore6, V_iload6, G_10_14, G_10_46, A_337, T_a337, B_337, V_istore7, V_iload7, G_10_23, A_316, T_a316, B_316, G_10_22, A_315, T_a315, B_315, U_baload, G_10_24, A_317, T_a317, B_317, T_10, G_10_8, A_302, T_a302, B_302, V_istore8, V_iload5, V_iload8, V_iinc7, V_iinc6, b_120_0, b_120_48, b_120_52, b_120_53, b_120_77, b_120_86, b_120_87, b_120_88, b_120_112, b_120_171, b_120_172, b_120_212, b_120_216, b_120_217, b_120_225, b_120_231, h2014])
      all_goals exact K
  | z + 1, c, cc, v, w, hz, hcc => by
    subst hcc
    have hC : C ≤ 10 := wp.2.2.2.1
    have hcC : c < C := by omega
    have hc10 : c < 10 := by omega
    have h2014 : S 2014 0 0 = C := by rw [pm.1 2014 _ rfl]; exact wp.2.1
    have w1 := wc c hcC
    have hpl := wp.2.2.2.2.2.2.1 c hc10
    obtain ⟨d, hd⟩ : ∃ d : Nat, N 90 0 c = d := ⟨(N 90 0 c).toNat, by omega⟩
    have h90 : S 90 0 c = d := by rw [R90 rm hc10, hd]
    have kk := fun (b : Int) (hb : b = iP (∀ c2, c2 < (c + 1) → ¬ misA D N t (D 55 0 (6 * t + k)) m c2)) (v w : MV) => (show m_ok xs L 120 b_120_94 [vR 296, vI t, vI m, vI (6 * t + k : Nat), vI 0, vI b, vI ((c : Int) + 1), v, w] [] (mk S e) Q from by
      rw [hb]
      exact k_120o wp ht hk wc pm rm K z (c + 1) _ v w (by omega) (by omega))
    by_cases ho : D 68 0 c = 0
    · have hi : iP (∀ c2, c2 < c → ¬ misA D N t (D 55 0 (6 * t + k)) m c2) = iP ((∀ c2, c2 < c → ¬ misA D N t (D 55 0 (6 * t + k)) m c2) ∧ ∀ p2 : Nat, N 90 0 c ≤ p2 → (p2 : Int) < d → ¬ misQ D N t (D 55 0 (6 * t + k)) m c p2) := iP_c ⟨fun h => ⟨h, fun p2 h2 h3 => by omega⟩, fun h => h.1⟩
      have hj : iP ((∀ c2, c2 < c → ¬ misA D N t (D 55 0 (6 * t + k)) m c2) ∧ ∀ p2 : Nat, N 90 0 c ≤ p2 → (p2 : Int) < D 69 0 c → ¬ misQ D N t (D 55 0 (6 * t + k)) m c p2) = iP (∀ c2, c2 < (c + 1) → ¬ misA D N t (D 55 0 (6 * t + k)) m c2) := iP_c ⟨fun h c2 hc2 => by
          by_cases h9 : c2 = c
          · subst h9
            exact fun z => by obtain ⟨_, p, h3, h4, h5⟩ := misA_Q.mp z; exact h.2 p h3 h4 h5
          · exact h.1 c2 (by omega), fun h => ⟨fun c2 hc2 => h c2 (by omega), fun p2 h2 h3 h4 => h c (by omega) (misA_Q.mpr ⟨ho, p2, h2, h3, h4⟩)⟩⟩
      rw [hi]
      unfold b_120_94
      repeat' first
        | (refine V_icmp_ge.mpr ?_; first | rw [if_pos (by omega)] | rw [if_neg (by omega)] | split)
        | (refine V_icmp_lt.mpr ?_; first | rw [if_pos (by omega)] | rw [if_neg (by omega)] | split)
        | (refine V_icmp_ne.mpr ?_; first | rw [if_pos (by omega)] | rw [if_neg (by omega)] | split)
        | (refine V_if_eq.mpr ?_; first | rw [if_pos (by omega)] | rw [if_neg (by omega)] | split)
        | (refine V_if_le.mpr ?_; first | rw [if_pos (by omega)] | rw [if_neg (by omega)] | split)
        | (refine V_if_ne.mpr ?_; first | rw [if_pos (by omega)] | rw [if_neg (by omega)] | split)
        | (simp (disch := (first | omega | (simp (disch := omega) only [up_f, up_s, up_i, up_k, up_e]; omega))) only [up_f, up_s, up_i, up_k, up_e, V_iconst, V_bipush, V_sipush, V_conti, V_contn, V_goto, Option.some.injEq, exists_eq_left', true_and, and_true, m_fit, Option.isSome_some, List.map_nil, List.map_cons, List.sum_nil, List.sum_cons, List.all_nil, List.all_cons, m_cat, decide_true, Bool.and_true, Bool.true_and, Nat.zero_le, Int.toNat_natCast, Int.reduceAdd, Int.reduceSub, Int.reduceMul, Int.reduceNeg, Int.reduceLE, Int.reduceLT, Nat.reduceAdd, Nat.reduceLeDiff, Int.reduceToNat, Int.reduceEq, decide_eq_true_eq, true_or, or_true, exists_and_left, and_self, Nat.reduceMul, Nat.reduceSub, Nat.reduceLT, m_oa, Nat.reduceEqDiff, or_false, false_or, Sum.inl.injEq, Sum.inr.injEq, ↓reduceIte, ne_eq, not_false_eq_true, Int.reduceNe, exists_eq_left, D_120, R_120, X_120, F_120_104, F_120_28, J_120_19, J_120_28, F_120_98, F_120_37, J_120_45, J_120_49, J_120_57, F_120_19, J_120_74, J_120_79, J_120_83, F_120_161, J_120_100, F_120_131, F_120_68, J_120_121, F_120_65, J_120_131, F_120_71, J_120_147, I_120_188, F_120_25, J_120_164, J_120_168, J_120_176, J_120_181, J_120_193, I_120_208, J_120_209, J_120_213, J_120_222, J_120_228, V_iloadn1, V_imul, m_mul_eq, V_aloadn0, G_10_37, A_328, T_a328, B_328, U_iaload, V_iadd, m_add_eq, V_istoren3, V_iloadn2, G_10_9, A_303, T_a303, B_303, V_iloadn3, G_10_35, A_326, T_a326, B_326, G_10_12, A_306, T_a306, B_306, V_istore4, V_iload4, V_isub, m_sub_eq, G_10_6, A_300, T_a300, B_300, V_istore5, V_istore6, V_iload6, G_10_14, G_10_46, A_337, T_a337, B_337, V_istore7, V_iload7, G_10_23, A_316, T_a316, B_316, G_10_22, A_315, T_a315, B_315, U_baload, G_10_24, A_317, T_a317, B_317, T_10, G_10_8, A_302, T_a302, B_302, V_istore8, V_iload5, V_iload8, V_iinc7, V_iinc6, b_120_0, b_120_48, b_120_52, b_120_53, b_120_77, b_120_86, b_120_87, b_120_88, b_120_171, b_120_172, b_120_212, b_120_216, b_120_217, b_120_231, h2014, h90])
      refine k_120i wp ht hk hcC pm rm (by omega) ho (fun v w => ?_) (D 69 0 c - d).toNat d d _ (by omega) rfl (by omega)
      rw [hj]
      unfold b_120_225
      repeat' first
        | (refine V_icmp_ge.mpr ?_; first | rw [if_pos (by omega)] | rw [if_neg (by omega)] | split)
        | (refine V_icmp_lt.mpr ?_; first | rw [if_pos (by omega)] | rw [if_neg (by omega)] | split)
        | (refine V_icmp_ne.mpr ?_; first | rw [if_pos (by omega)] | rw [if_neg (by omega)] | split)
        | (refine V_if_eq.mpr ?_; first | rw [if_pos (by omega)] | rw [if_neg (by omega)] | split)
        | (refine V_if_le.mpr ?_; first | rw [if_pos (by omega)] | rw [if_neg (by omega)] | split)
        | (refine V_if_ne.mpr ?_; first | rw [if_pos (by omega)] | rw [if_neg (by omega)] | split)
        | (simp (disch := (first | omega | (simp (disch := omega) only [up_f, up_s, up_i, up_k, up_e]; omega))) only [up_f, up_s, up_i, up_k, up_e, V_iconst, V_bipush, V_sipush, V_conti, V_contn, V_goto, Option.some.injEq, exists_eq_left', true_and, and_true, m_fit, Option.isSome_some, List.map_nil, List.map_cons, List.sum_nil, List.sum_cons, List.all_nil, List.all_cons, m_cat, decide_true, Bool.and_true, Bool.true_and, Nat.zero_le, Int.toNat_natCast, Int.reduceAdd, Int.reduceSub, Int.reduceMul, Int.reduceNeg, Int.reduceLE, Int.reduceLT, Nat.reduceAdd, Nat.reduceLeDiff, Int.reduceToNat, Int.reduceEq, decide_eq_true_eq, true_or, or_true, exists_and_left, and_self, Nat.reduceMul, Nat.reduceSub, Nat.reduceLT, m_oa, Nat.reduceEqDiff, or_false, false_or, Sum.inl.injEq, Sum.inr.injEq, ↓reduceIte, ne_eq, not_false_eq_true, Int.reduceNe, exists_eq_left, D_120, R_120, X_120, F_120_104, F_120_28, J_120_19, J_120_28, F_120_98, F_120_37, J_120_45, J_120_49, J_120_57, F_120_19, J_120_74, J_120_79, J_120_83, F_120_161, J_120_100, F_120_131, F_120_68, J_120_121, F_120_65, J_120_131, F_120_71, J_120_147, I_120_188, F_120_25, J_120_164, J_120_168, J_120_176, J_120_181, J_120_193, I_120_208, J_120_209, J_120_213, J_120_222, J_120_228, V_iloadn1, V_imul, m_mul_eq, V_aloadn0, G_10_37, A_328, T_a328, B_328, U_iaload, V_iadd, m_add_eq, V_istoren3, V_iloadn2, G_10_9, A_303, T_a303, B_303, V_iloadn3, G_10_35, A_326, T_a326, B_326, G_10_12, A_306, T_a306, B_306, V_istore4, V_iload4, V_isub, m_sub_eq, G_10_6, A_300, T_a300, B_300, V_istore5, V_istore6, V_iload6, G_10_14, G_10_46, A_337, T_a337, B_337, V_istore7, V_iload7, G_10_23, A_316, T_a316, B_316, G_10_22, A_315, T_a315, B_315, U_baload, G_10_24, A_317, T_a317, B_317, T_10, G_10_8, A_302, T_a302, B_302, V_istore8, V_iload5, V_iload8, V_iinc7, V_iinc6, b_120_0, b_120_48, b_120_52, b_120_53, b_120_77, b_120_86, b_120_87, b_120_88, b_120_171, b_120_172, b_120_212, b_120_216, b_120_217, b_120_225, b_120_231, h2014, h90])
      exact kk _ rfl _ _
    · have hj : iP (∀ c2, c2 < c → ¬ misA D N t (D 55 0 (6 * t + k)) m c2) = iP (∀ c2, c2 < (c + 1) → ¬ misA D N t (D 55 0 (6 * t + k)) m c2) := iP_c ⟨fun h c2 hc2 => by
          by_cases h9 : c2 = c
          · subst h9
            exact fun z => ho z.1
          · exact h c2 (by omega), fun h c2 hc2 => h c2 (by omega)⟩
      have h68 : ¬ S 68 0 c = 0 := by rw [pm.1 68 _ rfl]; exact ho
      rw [hj]
      unfold b_120_94
      have hq := pm.1 69 c rfl
      by_cases hlt : (d : Int) < S 69 0 c
      · 
        repeat' first
          | (refine V_icmp_ge.mpr ?_; first | rw [if_pos (by omega)] | rw [if_neg (by omega)] | split)
          | (refine V_icmp_lt.mpr ?_; first | rw [if_pos (by omega)] | rw [if_neg (by omega)] | split)
          | (refine V_icmp_ne.mpr ?_; first | rw [if_pos (by omega)] | rw [if_neg (by omega)] | split)
          | (refine V_if_eq.mpr ?_; first | rw [if_pos (by omega)] | rw [if_neg (by omega)] | split)
          | (refine V_if_le.mpr ?_; first | rw [if_pos (by omega)] | rw [if_neg (by omega)] | split)
          | (refine V_if_ne.mpr ?_; first | rw [if_pos (by omega)] | rw [if_neg (by omega)] | split)
          | (simp (disch := (first | omega | (simp (disch := omega) only [up_f, up_s, up_i, up_k, up_e]; omega))) only [up_f, up_s, up_i, up_k, up_e, V_iconst, V_bipush, V_sipush, V_conti, V_contn, V_goto, Option.some.injEq, exists_eq_left', true_and, and_true, m_fit, Option.isSome_some, List.map_nil, List.map_cons, List.sum_nil, List.sum_cons, List.all_nil, List.all_cons, m_cat, decide_true, Bool.and_true, Bool.true_and, Nat.zero_le, Int.toNat_natCast, Int.reduceAdd, Int.reduceSub, Int.reduceMul, Int.reduceNeg, Int.reduceLE, Int.reduceLT, Nat.reduceAdd, Nat.reduceLeDiff, Int.reduceToNat, Int.reduceEq, decide_eq_true_eq, true_or, or_true, exists_and_left, and_self, Nat.reduceMul, Nat.reduceSub, Nat.reduceLT, m_oa, Nat.reduceEqDiff, or_false, false_or, Sum.inl.injEq, Sum.inr.injEq, ↓reduceIte, ne_eq, not_false_eq_true, Int.reduceNe, exists_eq_left, D_120, R_120, X_120, F_120_104, F_120_28, J_120_19, J_120_28, F_120_98, F_120_37, J_120_45, J_120_49, J_120_57, F_120_19, J_120_74, J_120_79, J_120_83, F_120_161, J_120_100, F_120_131, F_120_68, J_120_121, F_120_65, J_120_131, F_120_71, J_120_147, I_120_188, F_120_25, J_120_164, J_120_168, J_120_176, J_120_181, J_120_193, I_120_208, J_120_209, J_120_213, J_120_222, J_120_228, V_iloadn1, V_imul, m_mul_eq, V_aloadn0, G_10_37, A_328, T_a328, B_328, U_iaload, V_iadd, m_add_eq, V_istoren3, V_iloadn2, G_10_9, A_303, T_a303, B_303, V_iloadn3, G_10_35, A_326, T_a326, B_326, G_10_12, A_306, T_a306, B_306, V_istore4, V_iload4, V_isub, m_sub_eq, G_10_6, A_300, T_a300, B_300, V_istore5, V_istore6, V_iload6, G_10_14, G_10_46, A_337, T_a337, B_337, V_istore7, V_iload7, G_10_23, A_316, T_a316, B_316, G_10_22, A_315, T_a315, B_315, U_baload, G_10_24, A_317, T_a317, B_317, T_10, G_10_8, A_302, T_a302, B_302, V_istore8, V_iload5, V_iload8, V_iinc7, V_iinc6, b_120_0, b_120_48, b_120_52, b_120_53, b_120_77, b_120_86, b_120_87, b_120_88, b_120_112, b_120_171, b_120_172, b_120_212, b_120_216, b_120_217, b_120_225, b_120_231, h2014, h90])
        exact kk _ rfl _ _
      · 
        repeat' first
          | (refine V_icmp_ge.mpr ?_; first | rw [if_pos (by omega)] | rw [if_neg (by omega)] | split)
          | (refine V_icmp_lt.mpr ?_; first | rw [if_pos (by omega)] | rw [if_neg (by omega)] | split)
          | (refine V_icmp_ne.mpr ?_; first | rw [if_pos (by omega)] | rw [if_neg (by omega)] | split)
          | (refine V_if_eq.mpr ?_; first | rw [if_pos (by omega)] | rw [if_neg (by omega)] | split)
          | (refine V_if_le.mpr ?_; first | rw [if_pos (by omega)] | rw [if_neg (by omega)] | split)
          | (refine V_if_ne.mpr ?_; first | rw [if_pos (by omega)] | rw [if_neg (by omega)] | split)
          | (simp (disch := (first | omega | (simp (disch := omega) only [up_f, up_s, up_i, up_k, up_e]; omega))) only [up_f, up_s, up_i, up_k, up_e, V_iconst, V_bipush, V_sipush, V_conti, V_contn, V_goto, Option.some.injEq, exists_eq_left', true_and, and_true, m_fit, Option.isSome_some, List.map_nil, List.map_cons, List.sum_nil, List.sum_cons, List.all_nil, List.all_cons, m_cat, decide_true, Bool.and_true, Bool.true_and, Nat.zero_le, Int.toNat_natCast, Int.reduceAdd, Int.reduceSub, Int.reduceMul, Int.reduceNeg, Int.reduceLE, Int.reduceLT, Nat.reduceAdd, Nat.reduceLeDiff, Int.reduceToNat, Int.reduceEq, decide_eq_true_eq, true_or, or_true, exists_and_left, and_self, Nat.reduceMul, Nat.reduceSub, Nat.reduceLT, m_oa, Nat.reduceEqDiff, or_false, false_or, Sum.inl.injEq, Sum.inr.injEq, ↓reduceIte, ne_eq, not_false_eq_true, Int.reduceNe, exists_eq_left, D_120, R_120, X_120, F_120_104, F_120_28, J_120_19, J_120_28, F_120_98, F_120_37, J_120_45, J_120_49, J_120_57, F_120_19, J_120_74, J_120_79, J_120_83, F_120_161, J_120_100, F_120_131, F_120_68, J_120_121, F_120_65, J_120_131, F_120_71, J_120_147, I_120_188, F_120_25, J_120_164, J_120_168, J_120_176, J_120_181, J_120_193, I_120_208, J_120_209, J_120_213, J_120_222, J_120_228, V_iloadn1, V_imul, m_mul_eq, V_aloadn0, G_10_37, A_328, T_a328, B_328, U_iaload, V_iadd, m_add_eq, V_istoren3, V_iloadn2, G_10_9, A_303, T_a303, B_303, V_iloadn3, G_10_35, A_326, T_a326, B_326, G_10_12, A_306, T_a306, B_306, V_istore4, V_iload4, V_isub, m_sub_eq, G_10_6, A_300, T_a300, B_300, V_istore5, V_istore6, V_iload6, G_10_14, G_10_46, A_337, T_a337, B_337, V_istore7, V_iload7, G_10_23, A_316, T_a316, B_316, G_10_22, A_315, T_a315, B_315, U_baload, G_10_24, A_317, T_a317, B_317, T_10, G_10_8, A_302, T_a302, B_302, V_istore8, V_iload5, V_iload8, V_iinc7, V_iinc6, b_120_0, b_120_48, b_120_52, b_120_53, b_120_77, b_120_86, b_120_87, b_120_88, b_120_112, b_120_171, b_120_172, b_120_212, b_120_216, b_120_217, b_120_225, b_120_231, h2014, h90])
        exact kk _ rfl _ _
theorem r_120 {t T C : Nat} {D S N : Sg} {m : Int} (wp : WP D T C) (ht : t < T) (hm : 0 ≤ m ∧ m < 2000) (wt : WT D N T) (wc : WC D N C) (wa : WA N T) (pm : PM D S) (rm : RM S N) (h0 : N 82 0 t = 0) (h1 : N 81 0 t + 2 ≤ D 54 0 t) (Q : MOut → MHp → Prop) :
    m_do xs L 120 [vR 296, vI t, vI m] (mk S e) Q ↔ Q (.inl (some (vI (iP (lev D N t m))))) (mk S e) := by
  have hT : T ≤ 6 := wp.2.2.1
  have ht6 : t < 6 := by omega
  have hC : C ≤ 10 := wp.2.2.2.1
  have w1 := wt t ht
  have w54 := wp.2.2.2.2.1 t ht6
  obtain ⟨k, hk⟩ : ∃ k : Nat, N 81 0 t = k := ⟨(N 81 0 t).toNat, by omega⟩
  have hkn : (N 81 0 t).toNat = k := by omega
  have hk6 : k < 6 := by omega
  have wa1 := (wa t k ht hk6).1 (by omega)
  have kp := wp.2.2.2.2.2.1 (6 * t + k) (by omega)
  have h81 : S 81 0 t = k := by rw [R81 rm ht6, hk]
  have hx : (6 * (t : Int) + (k : Int)).toNat = 6 * t + k := by omega
  have hx2 : 6 * (t : Int) + (k : Int) = (6 * t + k : Nat) := by omega
  have h56 : S 56 0 (6 * t + k) = D 56 0 (6 * t + k) := pm.1 56 _ rfl
  have h59 : S 59 0 (6 * t + k) = D 59 0 (6 * t + k) := pm.1 59 _ rfl
  have h53 : S 53 0 t = D 53 0 t := pm.1 53 _ rfl
  have h79 : S 79 0 (6 * t + k) = N 79 0 (6 * t + k) := R79 rm (by omega)
  have hl : lev D N t m ↔ (D 56 0 (6 * t + k) ≤ m ∧ ¬ (0 < (k : Int) ∧ m < N 79 0 (6 * t + k) + D 59 0 (6 * t + k))) ∧ (D 53 0 t ≤ m - D 56 0 (6 * t + k) ∨ ∀ c2, c2 < C → ¬ misA D N t (D 55 0 (6 * t + k)) m c2) := by
    unfold lev rpe pnd
    rw [hkn, hk, if_pos ⟨h0, by omega⟩]
    have e1 : (D 56 0 (6 * t + k) + D 53 0 t ≤ m) ↔ (D 53 0 t ≤ m - D 56 0 (6 * t + k)) := by omega
    have e2 : (∀ c : Nat, (c : Int) < D 2014 0 0 → ¬ misA D N t (D 55 0 (6 * t + k)) m c) ↔ ∀ c2, c2 < C → ¬ misA D N t (D 55 0 (6 * t + k)) m c2 := by
      have := wp.2.1
      exact ⟨fun h c hc => h c (by omega), fun h c hc => h c (by omega)⟩
    rw [e1, e2]
    refine and_congr_left (fun _ => ?_)
    by_cases hk0 : (k : Int) = 0
    · rw [if_pos hk0]
      have hk9 : D 56 0 (6 * t) = D 56 0 (6 * t + k) := congrArg (D 56 0) (by omega)
      rw [hk9]
      omega
    · rw [if_neg hk0]
      split <;> omega
  refine m_do_eq ?_ Q
  by_cases hA : D 56 0 (6 * t + k) ≤ m ∧ ¬ (0 < (k : Int) ∧ m < N 79 0 (6 * t + k) + D 59 0 (6 * t + k))
  · by_cases hB : D 53 0 t ≤ m - D 56 0 (6 * t + k)
    · rw [iP_1 (hl.mpr ⟨hA, Or.inl hB⟩)]
      by_cases hk0 : (k : Int) ≤ 0
      · 
        repeat' first
          | (refine V_icmp_ge.mpr ?_; first | rw [if_pos (by omega)] | rw [if_neg (by omega)] | split)
          | (refine V_icmp_lt.mpr ?_; first | rw [if_pos (by omega)] | rw [if_neg (by omega)] | split)
          | (refine V_icmp_ne.mpr ?_; first | rw [if_pos (by omega)] | rw [if_neg (by omega)] | split)
          | (refine V_if_eq.mpr ?_; first | rw [if_pos (by omega)] | rw [if_neg (by omega)] | split)
          | (refine V_if_le.mpr ?_; first | rw [if_pos (by omega)] | rw [if_neg (by omega)] | split)
          | (refine V_if_ne.mpr ?_; first | rw [if_pos (by omega)] | rw [if_neg (by omega)] | split)
          | (simp (disch := (first | omega | (simp (disch := omega) only [up_f, up_s, up_i, up_k, up_e]; omega))) only [up_f, up_s, up_i, up_k, up_e, V_iconst, V_bipush, V_sipush, V_conti, V_contn, V_goto, Option.some.injEq, exists_eq_left', true_and, and_true, m_fit, Option.isSome_some, List.map_nil, List.map_cons, List.sum_nil, List.sum_cons, List.all_nil, List.all_cons, m_cat, decide_true, Bool.and_true, Bool.true_and, Nat.zero_le, Int.toNat_natCast, Int.reduceAdd, Int.reduceSub, Int.reduceMul, Int.reduceNeg, Int.reduceLE, Int.reduceLT, Nat.reduceAdd, Nat.reduceLeDiff, Int.reduceToNat, Int.reduceEq, decide_eq_true_eq, true_or, or_true, exists_and_left, and_self, Nat.reduceMul, Nat.reduceSub, Nat.reduceLT, m_oa, Nat.reduceEqDiff, or_false, false_or, Sum.inl.injEq, Sum.inr.injEq, ↓reduceIte, ne_eq, not_false_eq_true, Int.reduceNe, exists_eq_left, D_120, R_120, X_120, F_120_104, F_120_28, J_120_19, J_120_28, F_120_98, F_120_37, J_120_45, J_120_49, J_120_57, F_120_19, J_120_74, J_120_79, J_120_83, F_120_161, J_120_100, F_120_131, F_120_68, J_120_121, F_120_65, J_120_131, F_120_71, J_120_147, I_120_188, F_120_25, J_120_164, J_120_168, J_120_176, J_120_181, J_120_193, I_120_208, J_120_209, J_120_213, J_120_222, J_120_228, V_iloadn1, V_imul, m_mul_eq, V_aloadn0, G_10_37, A_328, T_a328, B_328, U_iaload, V_iadd, m_add_eq, V_istoren3, V_iloadn2, G_10_9, A_303, T_a303, B_303, V_iloadn3, G_10_35, A_326, T_a326, B_326, G_10_12, A_306, T_a306, B_306, V_istore4, V_iload4, V_isub, m_sub_eq, G_10_6, A_300, T_a300, B_300, V_istore5, V_istore6, V_iload6, G_10_14, G_10_46, A_337, T_a337, B_337, V_istore7, V_iload7, G_10_23, A_316, T_a316, B_316, G_10_22, A_315, T_a315, B_315, U_baload, G_10_24, A_317, T_a317, B_317, T_10, G_10_8, A_302, T_a302, B_302, V_istore8, V_iload5, V_iload8, V_iinc7, V_iinc6, b_120_0, b_120_48, b_120_52, b_120_53, b_120_77, b_120_86, b_120_87, b_120_88, b_120_112, b_120_171, b_120_172, b_120_212, b_120_216, b_120_217, b_120_225, b_120_231, h81, hx, hx2, h56, h59, h53, h79])
        all_goals (first | exact ⟨rfl, rfl⟩ | (simp; done) | omega)
      · 
        repeat' first
          | (refine V_icmp_ge.mpr ?_; first | rw [if_pos (by omega)] | rw [if_neg (by omega)] | split)
          | (refine V_icmp_lt.mpr ?_; first | rw [if_pos (by omega)] | rw [if_neg (by omega)] | split)
          | (refine V_icmp_ne.mpr ?_; first | rw [if_pos (by omega)] | rw [if_neg (by omega)] | split)
          | (refine V_if_eq.mpr ?_; first | rw [if_pos (by omega)] | rw [if_neg (by omega)] | split)
          | (refine V_if_le.mpr ?_; first | rw [if_pos (by omega)] | rw [if_neg (by omega)] | split)
          | (refine V_if_ne.mpr ?_; first | rw [if_pos (by omega)] | rw [if_neg (by omega)] | split)
          | (simp (disch := (first | omega | (simp (disch := omega) only [up_f, up_s, up_i, up_k, up_e]; omega))) only [up_f, up_s, up_i, up_k, up_e, V_iconst, V_bipush, V_sipush, V_conti, V_contn, V_goto, Option.some.injEq, exists_eq_left', true_and, and_true, m_fit, Option.isSome_some, List.map_nil, List.map_cons, List.sum_nil, List.sum_cons, List.all_nil, List.all_cons, m_cat, decide_true, Bool.and_true, Bool.true_and, Nat.zero_le, Int.toNat_natCast, Int.reduceAdd, Int.reduceSub, Int.reduceMul, Int.reduceNeg, Int.reduceLE, Int.reduceLT, Nat.reduceAdd, Nat.reduceLeDiff, Int.reduceToNat, Int.reduceEq, decide_eq_true_eq, true_or, or_true, exists_and_left, and_self, Nat.reduceMul, Nat.reduceSub, Nat.reduceLT, m_oa, Nat.reduceEqDiff, or_false, false_or, Sum.inl.injEq, Sum.inr.injEq, ↓reduceIte, ne_eq, not_false_eq_true, Int.reduceNe, exists_eq_left, D_120, R_120, X_120, F_120_104, F_120_28, J_120_19, J_120_28, F_120_98, F_120_37, J_120_45, J_120_49, J_120_57, F_120_19, J_120_74, J_120_79, J_120_83, F_120_161, J_120_100, F_120_131, F_120_68, J_120_121, F_120_65, J_120_131, F_120_71, J_120_147, I_120_188, F_120_25, J_120_164, J_120_168, J_120_176, J_120_181, J_120_193, I_120_208, J_120_209, J_120_213, J_120_222, J_120_228, V_iloadn1, V_imul, m_mul_eq, V_aloadn0, G_10_37, A_328, T_a328, B_328, U_iaload, V_iadd, m_add_eq, V_istoren3, V_iloadn2, G_10_9, A_303, T_a303, B_303, V_iloadn3, G_10_35, A_326, T_a326, B_326, G_10_12, A_306, T_a306, B_306, V_istore4, V_iload4, V_isub, m_sub_eq, G_10_6, A_300, T_a300, B_300, V_istore5, V_istore6, V_iload6, G_10_14, G_10_46, A_337, T_a337, B_337, V_istore7, V_iload7, G_10_23, A_316, T_a316, B_316, G_10_22, A_315, T_a315, B_315, U_baload, G_10_24, A_317, T_a317, B_317, T_10, G_10_8, A_302, T_a302, B_302, V_istore8, V_iload5, V_iload8, V_iinc7, V_iinc6, b_120_0, b_120_48, b_120_52, b_120_53, b_120_77, b_120_86, b_120_87, b_120_88, b_120_112, b_120_171, b_120_172, b_120_212, b_120_216, b_120_217, b_120_225, b_120_231, h81, hx, hx2, h56, h59, h53, h79])
        all_goals (first | exact ⟨rfl, rfl⟩ | (simp; done) | omega)
    · have hi : iP (lev D N t m) = iP (∀ c2, c2 < C → ¬ misA D N t (D 55 0 (6 * t + k)) m c2) := iP_c ⟨fun z => (hl.mp z).2.elim (fun z => absurd z hB) id, fun z => hl.mpr ⟨hA, Or.inr z⟩⟩
      have h9 : iP (∀ c2, c2 < 0 → ¬ misA D N t (D 55 0 (6 * t + k)) m c2) = 1 := iP_1 (fun c2 hc2 => by omega)
      have kk := fun (v w : MV) => k_120o (xs := xs) (L := L) (e := e) (Q := fun a b => a = .inl (some (vI (iP (∀ c2, c2 < C → ¬ misA D N t (D 55 0 (6 * t + k)) m c2)))) ∧ b = mk S e) wp ht6 hk6 wc pm rm ⟨rfl, rfl⟩ C 0 0 v w (by omega) rfl
      rw [h9] at kk
      rw [hi]
      by_cases hk0 : (k : Int) ≤ 0
      · 
        repeat' first
          | (refine V_icmp_ge.mpr ?_; first | rw [if_pos (by omega)] | rw [if_neg (by omega)] | split)
          | (refine V_icmp_lt.mpr ?_; first | rw [if_pos (by omega)] | rw [if_neg (by omega)] | split)
          | (refine V_icmp_ne.mpr ?_; first | rw [if_pos (by omega)] | rw [if_neg (by omega)] | split)
          | (refine V_if_eq.mpr ?_; first | rw [if_pos (by omega)] | rw [if_neg (by omega)] | split)
          | (refine V_if_le.mpr ?_; first | rw [if_pos (by omega)] | rw [if_neg (by omega)] | split)
          | (refine V_if_ne.mpr ?_; first | rw [if_pos (by omega)] | rw [if_neg (by omega)] | split)
          | (simp (disch := (first | omega | (simp (disch := omega) only [up_f, up_s, up_i, up_k, up_e]; omega))) only [up_f, up_s, up_i, up_k, up_e, V_iconst, V_bipush, V_sipush, V_conti, V_contn, V_goto, Option.some.injEq, exists_eq_left', true_and, and_true, m_fit, Option.isSome_some, List.map_nil, List.map_cons, List.sum_nil, List.sum_cons, List.all_nil, List.all_cons, m_cat, decide_true, Bool.and_true, Bool.true_and, Nat.zero_le, Int.toNat_natCast, Int.reduceAdd, Int.reduceSub, Int.reduceMul, Int.reduceNeg, Int.reduceLE, Int.reduceLT, Nat.reduceAdd, Nat.reduceLeDiff, Int.reduceToNat, Int.reduceEq, decide_eq_true_eq, true_or, or_true, exists_and_left, and_self, Nat.reduceMul, Nat.reduceSub, Nat.reduceLT, m_oa, Nat.reduceEqDiff, or_false, false_or, Sum.inl.injEq, Sum.inr.injEq, ↓reduceIte, ne_eq, not_false_eq_true, Int.reduceNe, exists_eq_left, D_120, R_120, X_120, F_120_104, F_120_28, J_120_19, J_120_28, F_120_98, F_120_37, J_120_45, J_120_49, J_120_57, F_120_19, J_120_74, J_120_79, J_120_83, F_120_161, J_120_100, F_120_131, F_120_68, J_120_121, F_120_65, J_120_131, F_120_71, J_120_147, I_120_188, F_120_25, J_120_164, J_120_168, J_120_176, J_120_181, J_120_193, I_120_208, J_120_209, J_120_213, J_120_222, J_120_228, V_iloadn1, V_imul, m_mul_eq, V_aloadn0, G_10_37, A_328, T_a328, B_328, U_iaload, V_iadd, m_add_eq, V_istoren3, V_iloadn2, G_10_9, A_303, T_a303, B_303, V_iloadn3, G_10_35, A_326, T_a326, B_326, G_10_12, A_306, T_a306, B_306, V_istore4, V_iload4, V_isub, m_sub_eq, G_10_6, A_300, T_a300, B_300, V_istore5, V_istore6, V_iload6, G_10_14, G_10_46, A_337, T_a337, B_337, V_istore7, V_iload7, G_10_23, A_316, T_a316, B_316, G_10_22, A_315, T_a315, B_315, U_baload, G_10_24, A_317, T_a317, B_317, T_10, G_10_8, A_302, T_a302, B_302, V_istore8, V_iload5, V_iload8, V_iinc7, V_iinc6, b_120_0, b_120_48, b_120_52, b_120_53, b_120_77, b_120_86, b_120_87, b_120_88, b_120_112, b_120_171, b_120_172, b_120_212, b_120_216, b_120_217, b_120_225, b_120_231, h81, hx, hx2, h56, h59, h53, h79])
        exact kk _ _
      · 
        repeat' first
          | (refine V_icmp_ge.mpr ?_; first | rw [if_pos (by omega)] | rw [if_neg (by omega)] | split)
          | (refine V_icmp_lt.mpr ?_; first | rw [if_pos (by omega)] | rw [if_neg (by omega)] | split)
          | (refine V_icmp_ne.mpr ?_; first | rw [if_pos (by omega)] | rw [if_neg (by omega)] | split)
          | (refine V_if_eq.mpr ?_; first | rw [if_pos (by omega)] | rw [if_neg (by omega)] | split)
          | (refine V_if_le.mpr ?_; first | rw [if_pos (by omega)] | rw [if_neg (by omega)] | split)
          | (refine V_if_ne.mpr ?_; first | rw [if_pos (by omega)] | rw [if_neg (by omega)] | split)
          | (simp (disch := (first | omega | (simp (disch := omega) only [up_f, up_s, up_i, up_k, up_e]; omega))) only [up_f, up_s, up_i, up_k, up_e, V_iconst, V_bipush, V_sipush, V_conti, V_contn, V_goto, Option.some.injEq, exists_eq_left', true_and, and_true, m_fit, Option.isSome_some, List.map_nil, List.map_cons, List.sum_nil, List.sum_cons, List.all_nil, List.all_cons, m_cat, decide_true, Bool.and_true, Bool.true_and, Nat.zero_le, Int.toNat_natCast, Int.reduceAdd, Int.reduceSub, Int.reduceMul, Int.reduceNeg, Int.reduceLE, Int.reduceLT, Nat.reduceAdd, Nat.reduceLeDiff, Int.reduceToNat, Int.reduceEq, decide_eq_true_eq, true_or, or_true, exists_and_left, and_self, Nat.reduceMul, Nat.reduceSub, Nat.reduceLT, m_oa, Nat.reduceEqDiff, or_false, false_or, Sum.inl.injEq, Sum.inr.injEq, ↓reduceIte, ne_eq, not_false_eq_true, Int.reduceNe, exists_eq_left, D_120, R_120, X_120, F_120_104, F_120_28, J_120_19, J_120_28, F_120_98, F_120_37, J_120_45, J_120_49, J_120_57, F_120_19, J_120_74, J_120_79, J_120_83, F_120_161, J_120_100, F_120_131, F_120_68, J_120_121, F_120_65, J_120_131, F_120_71, J_120_147, I_120_188, F_120_25, J_120_164, J_120_168, J_120_176, J_120_181, J_120_193, I_120_208, J_120_209, J_120_213, J_120_222, J_120_228, V_iloadn1, V_imul, m_mul_eq, V_aloadn0, G_10_37, A_328, T_a328, B_328, U_iaload, V_iadd, m_add_eq, V_istoren3, V_iloadn2, G_10_9, A_303, T_a303, B_303, V_iloadn3, G_10_35, A_326, T_a326, B_326, G_10_12, A_306, T_a306, B_306, V_istore4, V_iload4, V_isub, m_sub_eq, G_10_6, A_300, T_a300, B_300, V_istore5, V_istore6, V_iload6, G_10_14, G_10_46, A_337, T_a337, B_337, V_istore7, V_iload7, G_10_23, A_316, T_a316, B_316, G_10_22, A_315, T_a315, B_315, U_baload, G_10_24, A_317, T_a317, B_317, T_10, G_10_8, A_302, T_a302, B_302, V_istore8, V_iload5, V_iload8, V_iinc7, V_iinc6, b_120_0, b_120_48, b_120_52, b_120_53, b_120_77, b_120_86, b_120_87, b_120_88, b_120_112, b_120_171, b_120_172, b_120_212, b_120_216, b_120_217, b_120_225, b_120_231, h81, hx, hx2, h56, h59, h53, h79])
        exact kk _ _
  · rw [iP_0 (fun z => hA (hl.mp z).1)]
    by_cases hA1 : m < D 56 0 (6 * t + k)
    · 
      repeat' first
        | (refine V_icmp_ge.mpr ?_; first | rw [if_pos (by omega)] | rw [if_neg (by omega)] | split)
        | (refine V_icmp_lt.mpr ?_; first | rw [if_pos (by omega)] | rw [if_neg (by omega)] | split)
        | (refine V_icmp_ne.mpr ?_; first | rw [if_pos (by omega)] | rw [if_neg (by omega)] | split)
        | (refine V_if_eq.mpr ?_; first | rw [if_pos (by omega)] | rw [if_neg (by omega)] | split)
        | (refine V_if_le.mpr ?_; first | rw [if_pos (by omega)] | rw [if_neg (by omega)] | split)
        | (refine V_if_ne.mpr ?_; first | rw [if_pos (by omega)] | rw [if_neg (by omega)] | split)
        | (simp (disch := (first | omega | (simp (disch := omega) only [up_f, up_s, up_i, up_k, up_e]; omega))) only [up_f, up_s, up_i, up_k, up_e, V_iconst, V_bipush, V_sipush, V_conti, V_contn, V_goto, Option.some.injEq, exists_eq_left', true_and, and_true, m_fit, Option.isSome_some, List.map_nil, List.map_cons, List.sum_nil, List.sum_cons, List.all_nil, List.all_cons, m_cat, decide_true, Bool.and_true, Bool.true_and, Nat.zero_le, Int.toNat_natCast, Int.reduceAdd, Int.reduceSub, Int.reduceMul, Int.reduceNeg, Int.reduceLE, Int.reduceLT, Nat.reduceAdd, Nat.reduceLeDiff, Int.reduceToNat, Int.reduceEq, decide_eq_true_eq, true_or, or_true, exists_and_left, and_self, Nat.reduceMul, Nat.reduceSub, Nat.reduceLT, m_oa, Nat.reduceEqDiff, or_false, false_or, Sum.inl.injEq, Sum.inr.injEq, ↓reduceIte, ne_eq, not_false_eq_true, Int.reduceNe, exists_eq_left, D_120, R_120, X_120, F_120_104, F_120_28, J_120_19, J_120_28, F_120_98, F_120_37, J_120_45, J_120_49, J_120_57, F_120_19, J_120_74, J_120_79, J_120_83, F_120_161, J_120_100, F_120_131, F_120_68, J_120_121, F_120_65, J_120_131, F_120_71, J_120_147, I_120_188, F_120_25, J_120_164, J_120_168, J_120_176, J_120_181, J_120_193, I_120_208, J_120_209, J_120_213, J_120_222, J_120_228, V_iloadn1, V_imul, m_mul_eq, V_aloadn0, G_10_37, A_328, T_a328, B_328, U_iaload, V_iadd, m_add_eq, V_istoren3, V_iloadn2, G_10_9, A_303, T_a303, B_303, V_iloadn3, G_10_35, A_326, T_a326, B_326, G_10_12, A_306, T_a306, B_306, V_istore4, V_iload4, V_isub, m_sub_eq, G_10_6, A_300, T_a300, B_300, V_istore5, V_istore6, V_iload6, G_10_14, G_10_46, A_337, T_a337, B_337, V_istore7, V_iload7, G_10_23, A_316, T_a316, B_316, G_10_22, A_315, T_a315, B_315, U_baload, G_10_24, A_317, T_a317, B_317, T_10, G_10_8, A_302, T_a302, B_302, V_istore8, V_iload5, V_iload8, V_iinc7, V_iinc6, b_120_0, b_120_48, b_120_52, b_120_53, b_120_77, b_120_86, b_120_87, b_120_88, b_120_112, b_120_171, b_120_172, b_120_212, b_120_216, b_120_217, b_120_225, b_120_231, h81, hx, hx2, h56, h59, h53, h79])
      all_goals (first | exact ⟨rfl, rfl⟩ | (simp; done) | omega)
    · have hA2 : 0 < (k : Int) ∧ m < N 79 0 (6 * t + k) + D 59 0 (6 * t + k) := by omega
      repeat' first
        | (refine V_icmp_ge.mpr ?_; first | rw [if_pos (by omega)] | rw [if_neg (by omega)] | split)
        | (refine V_icmp_lt.mpr ?_; first | rw [if_pos (by omega)] | rw [if_neg (by omega)] | split)
        | (refine V_icmp_ne.mpr ?_; first | rw [if_pos (by omega)] | rw [if_neg (by omega)] | split)
        | (refine V_if_eq.mpr ?_; first | rw [if_pos (by omega)] | rw [if_neg (by omega)] | split)
        | (refine V_if_le.mpr ?_; first | rw [if_pos (by omega)] | rw [if_neg (by omega)] | split)
        | (refine V_if_ne.mpr ?_; first | rw [if_pos (by omega)] | rw [if_neg (by omega)] | split)
        | (simp (disch := (first | omega | (simp (disch := omega) only [up_f, up_s, up_i, up_k, up_e]; omega))) only [up_f, up_s, up_i, up_k, up_e, V_iconst, V_bipush, V_sipush, V_conti, V_contn, V_goto, Option.some.injEq, exists_eq_left', true_and, and_true, m_fit, Option.isSome_some, List.map_nil, List.map_cons, List.sum_nil, List.sum_cons, List.all_nil, List.all_cons, m_cat, decide_true, Bool.and_true, Bool.true_and, Nat.zero_le, Int.toNat_natCast, Int.reduceAdd, Int.reduceSub, Int.reduceMul, Int.reduceNeg, Int.reduceLE, Int.reduceLT, Nat.reduceAdd, Nat.reduceLeDiff, Int.reduceToNat, Int.reduceEq, decide_eq_true_eq, true_or, or_true, exists_and_left, and_self, Nat.reduceMul, Nat.reduceSub, Nat.reduceLT, m_oa, Nat.reduceEqDiff, or_false, false_or, Sum.inl.injEq, Sum.inr.injEq, ↓reduceIte, ne_eq, not_false_eq_true, Int.reduceNe, exists_eq_left, D_120, R_120, X_120, F_120_104, F_120_28, J_120_19, J_120_28, F_120_98, F_120_37, J_120_45, J_120_49, J_120_57, F_120_19, J_120_74, J_120_79, J_120_83, F_120_161, J_120_100, F_120_131, F_120_68, J_120_121, F_120_65, J_120_131, F_120_71, J_120_147, I_120_188, F_120_25, J_120_164, J_120_168, J_120_176, J_120_181, J_120_193, I_120_208, J_120_209, J_120_213, J_120_222, J_120_228, V_iloadn1, V_imul, m_mul_eq, V_aloadn0, G_10_37, A_328, T_a328, B_328, U_iaload, V_iadd, m_add_eq, V_istoren3, V_iloadn2, G_10_9, A_303, T_a303, B_303, V_iloadn3, G_10_35, A_326, T_a326, B_326, G_10_12, A_306, T_a306, B_306, V_istore4, V_iload4, V_isub, m_sub_eq, G_10_6, A_300, T_a300, B_300, V_istore5, V_istore6, V_iload6, G_10_14, G_10_46, A_337, T_a337, B_337, V_istore7, V_iload7, G_10_23, A_316, T_a316, B_316, G_10_22, A_315, T_a315, B_315, U_baload, G_10_24, A_317, T_a317, B_317, T_10, G_10_8, A_302, T_a302, B_302, V_istore8, V_iload5, V_iload8, V_iinc7, V_iinc6, b_120_0, b_120_48, b_120_52, b_120_53, b_120_77, b_120_86, b_120_87, b_120_88, b_120_112, b_120_171, b_120_172, b_120_212, b_120_216, b_120_217, b_120_225, b_120_231, h81, hx, hx2, h56, h59, h53, h79])
      all_goals (first | exact ⟨rfl, rfl⟩ | (simp; done) | omega)
end V
