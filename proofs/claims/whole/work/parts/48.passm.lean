/-! ===== a minute passes (class) ===== -/
theorem mis_iff {n T C t c : Nat} {D S : Sg} {s : St} {S0 : Sg} {here m : Int} (hn : n < 3) (hh : 0 ≤ here) (wp : WP D T C) (hc : c < C) (w : WN D T C s) (cr : CR n T C D S0 S s) : ¬ misJ S n c t here m = 0 ↔ misA D s.1 t here m c := by
  have hC : C ≤ 10 := wp.2.2.2.1
  have hc10 : c < 10 := by omega
  have wc := w.2.2.1 c hc
  have rw0 := cr.2.1 c hc
  have hpl := wp.2.2.2.2.2.2.1 c hc10
  have e1 := PC_1108 cr.1 hc10
  have e2 := PC_1109 cr.1 hc10
  unfold misJ misI misA
  rw [rw0.2.2.1, e1, e2]
  have hz : ∀ p : Prop, ¬ (@ite Int p (Classical.propDecidable _) 1 0 = 0) ↔ p := fun p => by
    by_cases hp : p
    · rw [if_pos hp]; simp [hp]
    · rw [if_neg hp]; simp [hp]
  rw [hz]
  refine and_congr_right (fun _ => exists_congr (fun p => ?_))
  by_cases hp : (p : Int) < D 69 0 c
  · have hp3 : p < 3 := by omega
    unfold misP
    rw [PC_20 cr.1 hc10 hp3, PC_21 cr.1 hc10 hp3 hp, rw0.1, rw0.2.1]
    have hr : (s.1 88 0 c = here ∧ rdc s.1 c ≤ m) ↔ (s.1 88 0 c = here ∧ s.1 89 0 c ≤ m) := by
      refine and_congr_right (fun h9 => ?_)
      have : rdc s.1 c = s.1 89 0 c := if_neg (by omega)
      rw [this]
    rw [hr]
    constructor
    · rintro ⟨a1, a2, a3, a4, a5⟩
      exact ⟨by omega, hp, a3, a4, a5.imp (fun z => by omega) id⟩
    · rintro ⟨a1, a2, a3, a4, a5⟩
      exact ⟨by omega, by omega, a3, a4, a5.imp (fun z => by omega) id⟩
  · constructor
    · rintro ⟨a1, a2, _⟩; omega
    · rintro ⟨a1, a2, _⟩; omega
section V
variable {xs : Nat → Int32} {L : Nat} {e : Nat}
theorem r_29 {n t T C : Nat} {D S S0 : Sg} {s : St} {m : Int} (hn : n < 3) (wp : WP D T C) (ht : t < T) (w : WN D T C s) (cr : CR n T C D S0 S s) (hr : rpe D s.1 t ≤ m) (Q : MOut → MHp → Prop) :
    m_do xs L 29 [vR (nt n), vR (ru n t), vI m] (mk S e) Q ↔ Q (.inl (some (vI (@ite _ (lev D s.1 t m) (Classical.propDecidable _) 1 0)))) (mk S e) := by
  have hT : T ≤ 6 := wp.2.2.1
  have ht6 : t < 6 := by omega
  have hC : C ≤ 10 := wp.2.2.2.1
  have w1 := w.1 t ht
  have w54 := wp.2.2.2.2.1 t ht6
  have rr := cr.2.2.1 t ht
  obtain ⟨k, hk⟩ : ∃ k : Nat, s.1 81 0 t = k := ⟨(s.1 81 0 t).toNat, by omega⟩
  have hkn : (s.1 81 0 t).toNat = k := by omega
  have e11 := PC_11 cr.1 ht6 (show k < 6 by omega)
  have e10 := PC_10 cr.1 ht6 (show k < 6 by omega)
  have kp := wp.2.2.2.2.2.1 (6 * t + k) (by omega)
  have hw : wgOk S n C := fun j hj => by
    have a1 := w.2.2.1 j hj
    have a2 := (cr.2.1 j hj).2.2.1
    have a3 := PC_1109 cr.1 (show j < 10 by omega)
    have a4 := wp.2.2.2.2.2.2.1 j (by omega)
    omega
  have hc : S 1405 0 0 = C := by rw [PC_1405 cr.1]; exact wp.2.1
  rw [s_29 (s := k) hn ht6 (by omega) (by rw [rr.2.1, hk]) (by rw [e11]; omega) (by rw [rr.1]; omega) hw hc hC]
  have hg : goes S n t k C m ↔ lev D s.1 t m := by
    unfold goes lev pnd
    rw [hkn, e11, e10, rr.1, PC_1500 cr.1 hn ht6]
    constructor
    · rintro (h | h)
      · exact ⟨hr, Or.inl h⟩
      · refine ⟨hr, Or.inr (fun c hc2 hm => h ⟨c, by omega, by have := wp.2.1; omega, (mis_iff hn (by omega) wp (by have := wp.2.1; omega) w cr).mpr hm⟩)⟩
    · rintro ⟨_, h | h⟩
      · exact Or.inl h
      · refine Or.inr (fun ⟨c, _, hc2, hm⟩ => h c (by have := wp.2.1; omega) ((mis_iff hn (by omega) wp hc2 w cr).mp hm))
  unfold goesI
  by_cases h : lev D s.1 t m
  · rw [if_pos h, if_pos (hg.mpr h)]
  · rw [if_neg h, if_neg (fun z => h (hg.mp z))]
theorem k_26a {n T C : Nat} {D S0 : Sg} {s : St} {m : Int} {Q : MOut → MHp → Prop} (hn : n < 3) (wp : WP D T C) (hm : 0 ≤ m ∧ m < 2000) (w : WN D T C s) (K : ∀ S2 ii, CR n T C D S0 S2 (arA D m T s) → m_ok xs L 26 b_26_43 [vR (nt n), vI m, vI ii] [] (mk S2 e) Q) : ∀ (z t : Nat) (ii : Int) (S : Sg), t + z = T → ii = t → CR n T C D S0 S (arA D m t s) → m_ok xs L 26 b_26_2 [vR (nt n), vI m, vI ii] [] (mk S e) Q
  | 0, t, ii, S, hz, hii, cr => by
    have ht : t = T := by omega
    subst ht
    subst hii
    have h1403 : S 1403 0 0 = t := by rw [PC_1403 cr.1]; exact wp.1
    have k := K S t cr
    unfold b_26_2
    repeat' first
      | (refine V_icmp_ge.mpr ?_; first | rw [if_pos (by omega)] | rw [if_neg (by omega)] | split)
      | (refine V_icmp_gt.mpr ?_; first | rw [if_pos (by omega)] | rw [if_neg (by omega)] | split)
      | (refine V_icmp_ne.mpr ?_; first | rw [if_pos (by omega)] | rw [if_neg (by omega)] | split)
      | (refine V_if_eq.mpr ?_; first | rw [if_pos (by omega)] | rw [if_neg (by omega)] | split)
      | (simp (disch := (first | omega | (simp (disch := omega) only [up_f, up_s, up_i, up_k, up_e]; omega))) only [up_f, up_s, up_i, up_k, up_e, V_iconst, V_bipush, V_sipush, V_conti, V_contn, V_goto, Option.some.injEq, exists_eq_left', true_and, and_true, m_fit, Option.isSome_some, List.map_nil, List.map_cons, List.sum_nil, List.sum_cons, List.all_nil, List.all_cons, m_cat, decide_true, Bool.and_true, Bool.true_and, Nat.zero_le, Int.toNat_natCast, Int.reduceAdd, Int.reduceSub, Int.reduceMul, Int.reduceNeg, Int.reduceLE, Int.reduceLT, Nat.reduceAdd, Nat.reduceLeDiff, Int.reduceToNat, Int.reduceEq, decide_eq_true_eq, true_or, or_true, exists_and_left, and_self, Nat.reduceMul, Nat.reduceSub, Nat.reduceLT, m_oa, Nat.reduceEqDiff, or_false, false_or, Sum.inl.injEq, Sum.inr.injEq, ↓reduceIte, ne_eq, not_false_eq_true, Int.reduceNe, exists_eq_left, D_26, R_26, X_26, F_26_31, F_26_79, J_26_10, F_26_11, F_26_97, J_26_23, I_26_114, J_26_40, J_26_53, F_26_104, J_26_66, I_26_118, J_26_80, I_26_122, J_26_97, V_istoren2, V_iloadn2, V_aloadn0, G_2_0, G_4_3, G_2_1, A_ntR, T_antR, U_aaload, G_5_4, V_iloadn1, T_2, V_iinc2, m_add_eq, G_5_5, b_26_0, b_26_37, b_26_45, b_26_94, b_26_100, h1403])
    all_goals exact k
  | z + 1, t, ii, S, hz, hii, cr => by
    subst hii
    have hT : T ≤ 6 := wp.2.2.1
    have ht : t < T := by omega
    have h1403 : S 1403 0 0 = T := by rw [PC_1403 cr.1]; exact wp.1
    have w1 := WN_arA wp hm t s (by omega) w
    have h1504 := (cr.2.2.1 t ht).2.2.1
    by_cases hd : due (arA D m t s).1 t = m
    · have hE : arA D m (t + 1) s = arr D (arA D m t s) t m := by rw [arA, if_pos hd]
      obtain ⟨S2, c2, i27⟩ := m_do_ex (r_27 (xs := xs) (L := L) (e := e) hn wp ht hm hd w1 cr)
      have hd2 : S 1504 (6 * n + t) 0 = m := by rw [h1504]; exact hd
      unfold b_26_2
      repeat' first
        | (refine V_icmp_ge.mpr ?_; first | rw [if_pos (by omega)] | rw [if_neg (by omega)] | split)
        | (refine V_icmp_gt.mpr ?_; first | rw [if_pos (by omega)] | rw [if_neg (by omega)] | split)
        | (refine V_icmp_ne.mpr ?_; first | rw [if_pos (by omega)] | rw [if_neg (by omega)] | split)
        | (refine V_if_eq.mpr ?_; first | rw [if_pos (by omega)] | rw [if_neg (by omega)] | split)
        | (simp (disch := (first | omega | (simp (disch := omega) only [up_f, up_s, up_i, up_k, up_e]; omega))) only [up_f, up_s, up_i, up_k, up_e, V_iconst, V_bipush, V_sipush, V_conti, V_contn, V_goto, Option.some.injEq, exists_eq_left', true_and, and_true, m_fit, Option.isSome_some, List.map_nil, List.map_cons, List.sum_nil, List.sum_cons, List.all_nil, List.all_cons, m_cat, decide_true, Bool.and_true, Bool.true_and, Nat.zero_le, Int.toNat_natCast, Int.reduceAdd, Int.reduceSub, Int.reduceMul, Int.reduceNeg, Int.reduceLE, Int.reduceLT, Nat.reduceAdd, Nat.reduceLeDiff, Int.reduceToNat, Int.reduceEq, decide_eq_true_eq, true_or, or_true, exists_and_left, and_self, Nat.reduceMul, Nat.reduceSub, Nat.reduceLT, m_oa, Nat.reduceEqDiff, or_false, false_or, Sum.inl.injEq, Sum.inr.injEq, ↓reduceIte, ne_eq, not_false_eq_true, Int.reduceNe, exists_eq_left, D_26, R_26, X_26, F_26_31, F_26_79, J_26_10, F_26_11, F_26_97, J_26_23, I_26_114, J_26_40, J_26_53, F_26_104, J_26_66, I_26_118, J_26_80, I_26_122, J_26_97, V_istoren2, V_iloadn2, V_aloadn0, G_2_0, G_4_3, G_2_1, A_ntR, T_antR, U_aaload, G_5_4, V_iloadn1, T_2, V_iinc2, m_add_eq, G_5_5, b_26_0, b_26_37, b_26_45, b_26_94, b_26_100, h1403, hd2, i27])
      exact k_26a hn wp hm w K z (t + 1) _ S2 (by omega) (by omega) (by rw [hE]; exact c2)
    · have hE : arA D m (t + 1) s = arA D m t s := by rw [arA, if_neg hd]
      have hd2 : ¬ S 1504 (6 * n + t) 0 = m := by rw [h1504]; exact hd
      unfold b_26_2
      repeat' first
        | (refine V_icmp_ge.mpr ?_; first | rw [if_pos (by omega)] | rw [if_neg (by omega)] | split)
        | (refine V_icmp_gt.mpr ?_; first | rw [if_pos (by omega)] | rw [if_neg (by omega)] | split)
        | (refine V_icmp_ne.mpr ?_; first | rw [if_pos (by omega)] | rw [if_neg (by omega)] | split)
        | (refine V_if_eq.mpr ?_; first | rw [if_pos (by omega)] | rw [if_neg (by omega)] | split)
        | (simp (disch := (first | omega | (simp (disch := omega) only [up_f, up_s, up_i, up_k, up_e]; omega))) only [up_f, up_s, up_i, up_k, up_e, V_iconst, V_bipush, V_sipush, V_conti, V_contn, V_goto, Option.some.injEq, exists_eq_left', true_and, and_true, m_fit, Option.isSome_some, List.map_nil, List.map_cons, List.sum_nil, List.sum_cons, List.all_nil, List.all_cons, m_cat, decide_true, Bool.and_true, Bool.true_and, Nat.zero_le, Int.toNat_natCast, Int.reduceAdd, Int.reduceSub, Int.reduceMul, Int.reduceNeg, Int.reduceLE, Int.reduceLT, Nat.reduceAdd, Nat.reduceLeDiff, Int.reduceToNat, Int.reduceEq, decide_eq_true_eq, true_or, or_true, exists_and_left, and_self, Nat.reduceMul, Nat.reduceSub, Nat.reduceLT, m_oa, Nat.reduceEqDiff, or_false, false_or, Sum.inl.injEq, Sum.inr.injEq, ↓reduceIte, ne_eq, not_false_eq_true, Int.reduceNe, exists_eq_left, D_26, R_26, X_26, F_26_31, F_26_79, J_26_10, F_26_11, F_26_97, J_26_23, I_26_114, J_26_40, J_26_53, F_26_104, J_26_66, I_26_118, J_26_80, I_26_122, J_26_97, V_istoren2, V_iloadn2, V_aloadn0, G_2_0, G_4_3, G_2_1, A_ntR, T_antR, U_aaload, G_5_4, V_iloadn1, T_2, V_iinc2, m_add_eq, G_5_5, b_26_0, b_26_37, b_26_45, b_26_94, b_26_100, h1403, hd2])
      exact k_26a hn wp hm w K z (t + 1) _ S (by omega) (by omega) (by rw [hE]; exact cr)
theorem k_26b {n T C : Nat} {D S0 : Sg} {s : St} {m : Int} {Q : MOut → MHp → Prop} (hn : n < 3) (wp : WP D T C) (hm : 0 ≤ m ∧ m < 2000) (w : WN D T C s) (K : ∀ S2, CR n T C D S0 S2 (deA D m T s) → Q (.inl none) (mk S2 e)) : ∀ (z t : Nat) (ii : Int) (S : Sg), t + z = T → ii = t → CR n T C D S0 S (deA D m t s) → m_ok xs L 26 b_26_45 [vR (nt n), vI m, vI ii] [] (mk S e) Q
  | 0, t, ii, S, hz, hii, cr => by
    have ht : t = T := by omega
    subst ht
    subst hii
    have h1403 : S 1403 0 0 = t := by rw [PC_1403 cr.1]; exact wp.1
    have k := K S cr
    unfold b_26_45
    repeat' first
      | (refine V_icmp_ge.mpr ?_; first | rw [if_pos (by omega)] | rw [if_neg (by omega)] | split)
      | (refine V_icmp_gt.mpr ?_; first | rw [if_pos (by omega)] | rw [if_neg (by omega)] | split)
      | (refine V_icmp_ne.mpr ?_; first | rw [if_pos (by omega)] | rw [if_neg (by omega)] | split)
      | (refine V_if_eq.mpr ?_; first | rw [if_pos (by omega)] | rw [if_neg (by omega)] | split)
      | (simp (disch := (first | omega | (simp (disch := omega) only [up_f, up_s, up_i, up_k, up_e]; omega))) only [up_f, up_s, up_i, up_k, up_e, V_iconst, V_bipush, V_sipush, V_conti, V_contn, V_goto, Option.some.injEq, exists_eq_left', true_and, and_true, m_fit, Option.isSome_some, List.map_nil, List.map_cons, List.sum_nil, List.sum_cons, List.all_nil, List.all_cons, m_cat, decide_true, Bool.and_true, Bool.true_and, Nat.zero_le, Int.toNat_natCast, Int.reduceAdd, Int.reduceSub, Int.reduceMul, Int.reduceNeg, Int.reduceLE, Int.reduceLT, Nat.reduceAdd, Nat.reduceLeDiff, Int.reduceToNat, Int.reduceEq, decide_eq_true_eq, true_or, or_true, exists_and_left, and_self, Nat.reduceMul, Nat.reduceSub, Nat.reduceLT, m_oa, Nat.reduceEqDiff, or_false, false_or, Sum.inl.injEq, Sum.inr.injEq, ↓reduceIte, ne_eq, not_false_eq_true, Int.reduceNe, exists_eq_left, D_26, R_26, X_26, F_26_31, F_26_79, J_26_10, F_26_11, F_26_97, J_26_23, I_26_114, J_26_40, J_26_53, F_26_104, J_26_66, I_26_118, J_26_80, I_26_122, J_26_97, V_istoren2, V_iloadn2, V_aloadn0, G_2_0, G_4_3, G_2_1, A_ntR, T_antR, U_aaload, G_5_4, V_iloadn1, T_2, V_iinc2, m_add_eq, G_5_5, b_26_0, b_26_2, b_26_37, b_26_43, b_26_94, b_26_100, h1403])
    all_goals exact k
  | z + 1, t, ii, S, hz, hii, cr => by
    subst hii
    have hT : T ≤ 6 := wp.2.2.1
    have ht : t < T := by omega
    have h1403 : S 1403 0 0 = T := by rw [PC_1403 cr.1]; exact wp.1
    have w1 := WN_deA wp hm t s (by omega) w
    have h1505 := (cr.2.2.1 t ht).2.2.2.1
    by_cases hr : rpe D (deA D m t s).1 t ≤ m
    · have i29 := r_29 (xs := xs) (L := L) (e := e) hn wp ht w1 cr hr
      have hr2 : S 1505 (6 * n + t) 0 ≤ m := by rw [h1505]; exact hr
      by_cases hl : lev D (deA D m t s).1 t m
      · have hE : deA D m (t + 1) s = dep D (deA D m t s) t m := by rw [deA, if_pos hl]
        obtain ⟨l0, l1⟩ := lev_1 hl hm.2
        obtain ⟨S2, c2, i30⟩ := m_do_ex (r_30 (xs := xs) (L := L) (e := e) hn wp ht hm l1 w1 cr)
        simp only [if_pos hl] at i29
        unfold b_26_45
        repeat' first
          | (refine V_icmp_ge.mpr ?_; first | rw [if_pos (by omega)] | rw [if_neg (by omega)] | split)
          | (refine V_icmp_gt.mpr ?_; first | rw [if_pos (by omega)] | rw [if_neg (by omega)] | split)
          | (refine V_icmp_ne.mpr ?_; first | rw [if_pos (by omega)] | rw [if_neg (by omega)] | split)
          | (refine V_if_eq.mpr ?_; first | rw [if_pos (by omega)] | rw [if_neg (by omega)] | split)
          | (simp (disch := (first | omega | (simp (disch := omega) only [up_f, up_s, up_i, up_k, up_e]; omega))) only [up_f, up_s, up_i, up_k, up_e, V_iconst, V_bipush, V_sipush, V_conti, V_contn, V_goto, Option.some.injEq, exists_eq_left', true_and, and_true, m_fit, Option.isSome_some, List.map_nil, List.map_cons, List.sum_nil, List.sum_cons, List.all_nil, List.all_cons, m_cat, decide_true, Bool.and_true, Bool.true_and, Nat.zero_le, Int.toNat_natCast, Int.reduceAdd, Int.reduceSub, Int.reduceMul, Int.reduceNeg, Int.reduceLE, Int.reduceLT, Nat.reduceAdd, Nat.reduceLeDiff, Int.reduceToNat, Int.reduceEq, decide_eq_true_eq, true_or, or_true, exists_and_left, and_self, Nat.reduceMul, Nat.reduceSub, Nat.reduceLT, m_oa, Nat.reduceEqDiff, or_false, false_or, Sum.inl.injEq, Sum.inr.injEq, ↓reduceIte, ne_eq, not_false_eq_true, Int.reduceNe, exists_eq_left, D_26, R_26, X_26, F_26_31, F_26_79, J_26_10, F_26_11, F_26_97, J_26_23, I_26_114, J_26_40, J_26_53, F_26_104, J_26_66, I_26_118, J_26_80, I_26_122, J_26_97, V_istoren2, V_iloadn2, V_aloadn0, G_2_0, G_4_3, G_2_1, A_ntR, T_antR, U_aaload, G_5_4, V_iloadn1, T_2, V_iinc2, m_add_eq, G_5_5, b_26_0, b_26_2, b_26_37, b_26_43, b_26_94, b_26_100, h1403, hr2, i29, i30])
        exact k_26b hn wp hm w K z (t + 1) _ S2 (by omega) (by omega) (by rw [hE]; exact c2)
      · have hE : deA D m (t + 1) s = deA D m t s := by rw [deA, if_neg hl]
        simp only [if_neg hl] at i29
        unfold b_26_45
        repeat' first
          | (refine V_icmp_ge.mpr ?_; first | rw [if_pos (by omega)] | rw [if_neg (by omega)] | split)
          | (refine V_icmp_gt.mpr ?_; first | rw [if_pos (by omega)] | rw [if_neg (by omega)] | split)
          | (refine V_icmp_ne.mpr ?_; first | rw [if_pos (by omega)] | rw [if_neg (by omega)] | split)
          | (refine V_if_eq.mpr ?_; first | rw [if_pos (by omega)] | rw [if_neg (by omega)] | split)
          | (simp (disch := (first | omega | (simp (disch := omega) only [up_f, up_s, up_i, up_k, up_e]; omega))) only [up_f, up_s, up_i, up_k, up_e, V_iconst, V_bipush, V_sipush, V_conti, V_contn, V_goto, Option.some.injEq, exists_eq_left', true_and, and_true, m_fit, Option.isSome_some, List.map_nil, List.map_cons, List.sum_nil, List.sum_cons, List.all_nil, List.all_cons, m_cat, decide_true, Bool.and_true, Bool.true_and, Nat.zero_le, Int.toNat_natCast, Int.reduceAdd, Int.reduceSub, Int.reduceMul, Int.reduceNeg, Int.reduceLE, Int.reduceLT, Nat.reduceAdd, Nat.reduceLeDiff, Int.reduceToNat, Int.reduceEq, decide_eq_true_eq, true_or, or_true, exists_and_left, and_self, Nat.reduceMul, Nat.reduceSub, Nat.reduceLT, m_oa, Nat.reduceEqDiff, or_false, false_or, Sum.inl.injEq, Sum.inr.injEq, ↓reduceIte, ne_eq, not_false_eq_true, Int.reduceNe, exists_eq_left, D_26, R_26, X_26, F_26_31, F_26_79, J_26_10, F_26_11, F_26_97, J_26_23, I_26_114, J_26_40, J_26_53, F_26_104, J_26_66, I_26_118, J_26_80, I_26_122, J_26_97, V_istoren2, V_iloadn2, V_aloadn0, G_2_0, G_4_3, G_2_1, A_ntR, T_antR, U_aaload, G_5_4, V_iloadn1, T_2, V_iinc2, m_add_eq, G_5_5, b_26_0, b_26_2, b_26_37, b_26_43, b_26_94, b_26_100, h1403, hr2, i29])
        exact k_26b hn wp hm w K z (t + 1) _ S (by omega) (by omega) (by rw [hE]; exact cr)
    · have hl : ¬ lev D (deA D m t s).1 t m := fun z => hr z.1
      have hE : deA D m (t + 1) s = deA D m t s := by rw [deA, if_neg hl]
      have hr2 : ¬ S 1505 (6 * n + t) 0 ≤ m := by rw [h1505]; exact hr
      unfold b_26_45
      repeat' first
        | (refine V_icmp_ge.mpr ?_; first | rw [if_pos (by omega)] | rw [if_neg (by omega)] | split)
        | (refine V_icmp_gt.mpr ?_; first | rw [if_pos (by omega)] | rw [if_neg (by omega)] | split)
        | (refine V_icmp_ne.mpr ?_; first | rw [if_pos (by omega)] | rw [if_neg (by omega)] | split)
        | (refine V_if_eq.mpr ?_; first | rw [if_pos (by omega)] | rw [if_neg (by omega)] | split)
        | (simp (disch := (first | omega | (simp (disch := omega) only [up_f, up_s, up_i, up_k, up_e]; omega))) only [up_f, up_s, up_i, up_k, up_e, V_iconst, V_bipush, V_sipush, V_conti, V_contn, V_goto, Option.some.injEq, exists_eq_left', true_and, and_true, m_fit, Option.isSome_some, List.map_nil, List.map_cons, List.sum_nil, List.sum_cons, List.all_nil, List.all_cons, m_cat, decide_true, Bool.and_true, Bool.true_and, Nat.zero_le, Int.toNat_natCast, Int.reduceAdd, Int.reduceSub, Int.reduceMul, Int.reduceNeg, Int.reduceLE, Int.reduceLT, Nat.reduceAdd, Nat.reduceLeDiff, Int.reduceToNat, Int.reduceEq, decide_eq_true_eq, true_or, or_true, exists_and_left, and_self, Nat.reduceMul, Nat.reduceSub, Nat.reduceLT, m_oa, Nat.reduceEqDiff, or_false, false_or, Sum.inl.injEq, Sum.inr.injEq, ↓reduceIte, ne_eq, not_false_eq_true, Int.reduceNe, exists_eq_left, D_26, R_26, X_26, F_26_31, F_26_79, J_26_10, F_26_11, F_26_97, J_26_23, I_26_114, J_26_40, J_26_53, F_26_104, J_26_66, I_26_118, J_26_80, I_26_122, J_26_97, V_istoren2, V_iloadn2, V_aloadn0, G_2_0, G_4_3, G_2_1, A_ntR, T_antR, U_aaload, G_5_4, V_iloadn1, T_2, V_iinc2, m_add_eq, G_5_5, b_26_0, b_26_2, b_26_37, b_26_43, b_26_94, b_26_100, h1403, hr2])
      exact k_26b hn wp hm w K z (t + 1) _ S (by omega) (by omega) (by rw [hE]; exact cr)
theorem r_26 {n T C : Nat} {D S0 S : Sg} {s : St} {m : Int} (hn : n < 3) (wp : WP D T C) (hm : 0 ≤ m ∧ m < 2000) (w : WN D T C s) (cr : CR n T C D S0 S s) :
    ∃ S2, CR n T C D S0 S2 (mnA D m s) ∧ ∀ Q, m_do xs L 26 [vR (nt n), vI m] (mk S e) Q ↔ Q (.inl none) (mk S2 e) := by
  have hT : (D 2004 0 0).toNat = T := by have := wp.1; omega
  refine m_do_ex ?_
  repeat' first
    | (refine V_icmp_ge.mpr ?_; first | rw [if_pos (by omega)] | rw [if_neg (by omega)] | split)
    | (refine V_icmp_gt.mpr ?_; first | rw [if_pos (by omega)] | rw [if_neg (by omega)] | split)
    | (refine V_icmp_ne.mpr ?_; first | rw [if_pos (by omega)] | rw [if_neg (by omega)] | split)
    | (refine V_if_eq.mpr ?_; first | rw [if_pos (by omega)] | rw [if_neg (by omega)] | split)
    | (simp (disch := (first | omega | (simp (disch := omega) only [up_f, up_s, up_i, up_k, up_e]; omega))) only [up_f, up_s, up_i, up_k, up_e, V_iconst, V_bipush, V_sipush, V_conti, V_contn, V_goto, Option.some.injEq, exists_eq_left', true_and, and_true, m_fit, Option.isSome_some, List.map_nil, List.map_cons, List.sum_nil, List.sum_cons, List.all_nil, List.all_cons, m_cat, decide_true, Bool.and_true, Bool.true_and, Nat.zero_le, Int.toNat_natCast, Int.reduceAdd, Int.reduceSub, Int.reduceMul, Int.reduceNeg, Int.reduceLE, Int.reduceLT, Nat.reduceAdd, Nat.reduceLeDiff, Int.reduceToNat, Int.reduceEq, decide_eq_true_eq, true_or, or_true, exists_and_left, and_self, Nat.reduceMul, Nat.reduceSub, Nat.reduceLT, m_oa, Nat.reduceEqDiff, or_false, false_or, Sum.inl.injEq, Sum.inr.injEq, ↓reduceIte, ne_eq, not_false_eq_true, Int.reduceNe, exists_eq_left, D_26, R_26, X_26, F_26_31, F_26_79, J_26_10, F_26_11, F_26_97, J_26_23, I_26_114, J_26_40, J_26_53, F_26_104, J_26_66, I_26_118, J_26_80, I_26_122, J_26_97, V_istoren2, V_iloadn2, V_aloadn0, G_2_0, G_4_3, G_2_1, A_ntR, T_antR, U_aaload, G_5_4, V_iloadn1, T_2, V_iinc2, m_add_eq, G_5_5, b_26_0, b_26_37, b_26_45, b_26_94, b_26_100])
  refine k_26a hn wp hm w (fun S2 ii c2 => ?_) T 0 0 S (by omega) rfl cr
  unfold b_26_43
  repeat' first
    | (refine V_icmp_ge.mpr ?_; first | rw [if_pos (by omega)] | rw [if_neg (by omega)] | split)
    | (refine V_icmp_gt.mpr ?_; first | rw [if_pos (by omega)] | rw [if_neg (by omega)] | split)
    | (refine V_icmp_ne.mpr ?_; first | rw [if_pos (by omega)] | rw [if_neg (by omega)] | split)
    | (refine V_if_eq.mpr ?_; first | rw [if_pos (by omega)] | rw [if_neg (by omega)] | split)
    | (simp (disch := (first | omega | (simp (disch := omega) only [up_f, up_s, up_i, up_k, up_e]; omega))) only [up_f, up_s, up_i, up_k, up_e, V_iconst, V_bipush, V_sipush, V_conti, V_contn, V_goto, Option.some.injEq, exists_eq_left', true_and, and_true, m_fit, Option.isSome_some, List.map_nil, List.map_cons, List.sum_nil, List.sum_cons, List.all_nil, List.all_cons, m_cat, decide_true, Bool.and_true, Bool.true_and, Nat.zero_le, Int.toNat_natCast, Int.reduceAdd, Int.reduceSub, Int.reduceMul, Int.reduceNeg, Int.reduceLE, Int.reduceLT, Nat.reduceAdd, Nat.reduceLeDiff, Int.reduceToNat, Int.reduceEq, decide_eq_true_eq, true_or, or_true, exists_and_left, and_self, Nat.reduceMul, Nat.reduceSub, Nat.reduceLT, m_oa, Nat.reduceEqDiff, or_false, false_or, Sum.inl.injEq, Sum.inr.injEq, ↓reduceIte, ne_eq, not_false_eq_true, Int.reduceNe, exists_eq_left, D_26, R_26, X_26, F_26_31, F_26_79, J_26_10, F_26_11, F_26_97, J_26_23, I_26_114, J_26_40, J_26_53, F_26_104, J_26_66, I_26_118, J_26_80, I_26_122, J_26_97, V_istoren2, V_iloadn2, V_aloadn0, G_2_0, G_4_3, G_2_1, A_ntR, T_antR, U_aaload, G_5_4, V_iloadn1, T_2, V_iinc2, m_add_eq, G_5_5, b_26_0, b_26_2, b_26_37, b_26_43, b_26_94, b_26_100])
  refine k_26b hn wp hm (WN_arA wp hm T s (by omega) w) (fun S3 c3 => ⟨rfl, S3, rfl, ?_⟩) T 0 0 S2 (by omega) rfl c2
  unfold mnA
  rw [hT]
  exact c3
end V
