/-! ===== swap of class and model ===== -/
theorem swB_at {B : Sg} {i j c r b c2 r2 b2 : Nat} (hij : ¬ i = j) : swB B i j c r b c2 r2 b2 76 0 i = c2 ∧ swB B i j c r b c2 r2 b2 77 0 i = 10 * r2 + b2 ∧ swB B i j c r b c2 r2 b2 76 0 j = c ∧ swB B i j c r b c2 r2 b2 77 0 j = 10 * r + b := by
  unfold swB
  simp (disch := omega) only [up_f, up_k, up_s]
  exact ⟨trivial, trivial, trivial, trivial⟩
theorem swB_ran {S0 B : Sg} {P i j c r b c2 r2 b2 : Nat} (h : PPx S0 B P) (hi : i < 40) (hj : j < 40) : ∀ x, x < 180 → -1 ≤ swB B i j c r b c2 r2 b2 78 0 x ∧ swB B i j c r b c2 r2 b2 78 0 x < 40 := fun x hx => by
  have := bed_78 h x hx
  rw [swB_78]
  split
  · omega
  · split <;> omega
theorem swB_q {S0 B : Sg} {P i j c r b c2 r2 b2 x : Nat} (h : PPx S0 B P) (hi : i < 40) (hj : j < 40) (hx : x + 2 < 180) : ∀ a, a < 3 → (swB B i j c r b c2 r2 b2 72 0 (swB B i j c r b c2 r2 b2 78 0 (x + a)).toNat = 0 ∨ swB B i j c r b c2 r2 b2 72 0 (swB B i j c r b c2 r2 b2 78 0 (x + a)).toNat = 1) ∧ 0 ≤ swB B i j c r b c2 r2 b2 74 0 (swB B i j c r b c2 r2 b2 78 0 (x + a)).toNat := fun a ha => by
  have h1 := swB_ran (i := i) (j := j) (c := c) (r := r) (b := b) (c2 := c2) (r2 := r2) (b2 := b2) h hi hj (x + a) (by omega)
  have h2 := h.2.1 (swB B i j c r b c2 r2 b2 78 0 (x + a)).toNat (by omega)
  have g72 : ∀ k, swB B i j c r b c2 r2 b2 72 0 k = B 72 0 k := fun k => swB_f (by omega)
  have g74 : ∀ k, swB B i j c r b c2 r2 b2 74 0 k = B 74 0 k := fun k => swB_f (by omega)
  rw [g72, g74]
  exact ⟨h2.2.2.2.2.2.1, h2.2.2.2.2.2.2.2.2.1⟩
/-- changed and changed back -/
theorem swB_back {S0 B : Sg} {i j c r b c2 r2 b2 : Nat} (hij : ¬ i = j) (ha : ats S0 B i c r b) (hd : ats S0 B j c2 r2 b2) : ∀ f k, swB (swB B i j c r b c2 r2 b2) i j c2 r2 b2 c r b f 0 k = B f 0 k := fun f k => by
  obtain ⟨a1, a2, a3, a4, a5, a6, a7, a8, a9⟩ := ha
  obtain ⟨d1, d2, d3, d4, d5, d6, d7, d8, d9⟩ := hd
  by_cases h78 : f = 78
  · subst h78
    rw [swB_78, swB_78]
    by_cases h1 : k = 18 * c + 3 * r + b
    · subst h1; rw [if_pos rfl, a9]
    · rw [if_neg h1]
      by_cases h2 : k = 18 * c2 + 3 * r2 + b2
      · subst h2; rw [if_pos rfl, d9]
      · rw [if_neg h2, if_neg h2, if_neg h1]
  · by_cases h76 : f = 76
    · subst h76
      by_cases hki : k = i
      · subst hki
        rw [(swB_at hij).1, a4]
      · by_cases hkj : k = j
        · subst hkj
          rw [(swB_at hij).2.2.1, d4]
        · unfold swB
          simp (disch := omega) only [up_f, up_k]
    · by_cases h77 : f = 77
      · subst h77
        by_cases hki : k = i
        · subst hki
          rw [(swB_at hij).2.1, a5]
        · by_cases hkj : k = j
          · subst hkj
            rw [(swB_at hij).2.2.2, d5]
          · unfold swB
            simp (disch := omega) only [up_f, up_k]
      · rw [swB_f ⟨h76, h77, h78⟩, swB_f ⟨h76, h77, h78⟩]
section V
variable {xs : Nat → Int32} {L : Nat} {S : Sg} {e : Nat}
theorem c_74a {P : Nat} {i j : Int} (hP : S 1001 0 0 = P) (hP40 : P ≤ 40) (h : ¬ (0 ≤ i ∧ i < P)) (Q : MOut → MHp → Prop) : m_do xs L 74 [vR 0, vI i, vI j] (mk S e) Q ↔ Q (.inr 0) (mk S (e + 1)) := by
  refine m_do_eq ?_ Q
  repeat' first
    | (refine V_icmp_ne.mpr ?_; first | rw [if_pos (by omega)] | rw [if_neg (by omega)] | split)
    | (refine V_if_ne.mpr ?_; first | rw [if_pos (by omega)] | rw [if_neg (by omega)] | split)
    | (simp (disch := (first | omega | (simp (disch := omega) only [up_f, up_s, up_i, up_k, up_e]; omega))) only [up_f, up_s, up_i, up_k, up_e, V_iconst, V_bipush, V_sipush, V_conti, V_contn, V_goto, Option.some.injEq, exists_eq_left', true_and, and_true, m_fit, Option.isSome_some, List.map_nil, List.map_cons, List.sum_nil, List.sum_cons, List.all_nil, List.all_cons, m_cat, decide_true, Bool.and_true, Bool.true_and, Nat.zero_le, Int.toNat_natCast, Int.reduceAdd, Int.reduceSub, Int.reduceMul, Int.reduceNeg, Int.reduceLE, Int.reduceLT, Nat.reduceAdd, Nat.reduceLeDiff, Int.reduceToNat, Int.reduceEq, decide_eq_true_eq, true_or, or_true, exists_and_left, and_self, Nat.reduceMul, Nat.reduceSub, Nat.reduceLT, m_oa, Nat.reduceEqDiff, or_false, false_or, Sum.inl.injEq, Sum.inr.injEq, ↓reduceIte, ne_eq, not_false_eq_true, Int.reduceNe, exists_eq_left, D_74, R_74, X_74, I_74_211, J_74_12, N_74_15, F_74_34, F_74_214, I_74_238, J_74_50, N_74_53, I_74_244, V_aloadn0, V_iloadn1, T_9, V_iloadn2, V_dup_vI, V_dup_vR, G_9_4, G_0_0, A_254, T_a254, U_aaload, T_0, b_74_0, b_74_25, b_74_63, s_88, t_88, s_89, t_89, s_91, t_91, s_92, t_92, s_93, t_93, mk_ex])
  all_goals first | exact ⟨rfl, rfl⟩ | rfl
theorem c_74b {P : Nat} {i j : Int} (hP : S 1001 0 0 = P) (hP40 : P ≤ 40) (hi : 0 ≤ i ∧ i < P) (h : ¬ (0 ≤ j ∧ j < P)) (Q : MOut → MHp → Prop) : m_do xs L 74 [vR 0, vI i, vI j] (mk S e) Q ↔ Q (.inr 0) (mk S (e + 1)) := by
  refine m_do_eq ?_ Q
  repeat' first
    | (refine V_icmp_ne.mpr ?_; first | rw [if_pos (by omega)] | rw [if_neg (by omega)] | split)
    | (refine V_if_ne.mpr ?_; first | rw [if_pos (by omega)] | rw [if_neg (by omega)] | split)
    | (simp (disch := (first | omega | (simp (disch := omega) only [up_f, up_s, up_i, up_k, up_e]; omega))) only [up_f, up_s, up_i, up_k, up_e, V_iconst, V_bipush, V_sipush, V_conti, V_contn, V_goto, Option.some.injEq, exists_eq_left', true_and, and_true, m_fit, Option.isSome_some, List.map_nil, List.map_cons, List.sum_nil, List.sum_cons, List.all_nil, List.all_cons, m_cat, decide_true, Bool.and_true, Bool.true_and, Nat.zero_le, Int.toNat_natCast, Int.reduceAdd, Int.reduceSub, Int.reduceMul, Int.reduceNeg, Int.reduceLE, Int.reduceLT, Nat.reduceAdd, Nat.reduceLeDiff, Int.reduceToNat, Int.reduceEq, decide_eq_true_eq, true_or, or_true, exists_and_left, and_self, Nat.reduceMul, Nat.reduceSub, Nat.reduceLT, m_oa, Nat.reduceEqDiff, or_false, false_or, Sum.inl.injEq, Sum.inr.injEq, ↓reduceIte, ne_eq, not_false_eq_true, Int.reduceNe, exists_eq_left, D_74, R_74, X_74, I_74_211, J_74_12, N_74_15, F_74_34, F_74_214, I_74_238, J_74_50, N_74_53, I_74_244, V_aloadn0, V_iloadn1, T_9, V_iloadn2, V_dup_vI, V_dup_vR, G_9_4, G_0_0, A_254, T_a254, U_aaload, T_0, b_74_0, b_74_25, b_74_63, s_88, t_88, s_89, t_89, s_91, t_91, s_92, t_92, s_93, t_93, mk_ex])
  all_goals first | exact ⟨rfl, rfl⟩ | rfl
theorem c_74c {P : Nat} {i : Int} (hP : S 1001 0 0 = P) (hP40 : P ≤ 40) (hi : 0 ≤ i ∧ i < P) (Q : MOut → MHp → Prop) : m_do xs L 74 [vR 0, vI i, vI i] (mk S e) Q ↔ Q (.inr 1) (mk S (e + 1)) := by
  refine m_do_eq ?_ Q
  repeat' first
    | (refine V_icmp_ne.mpr ?_; first | rw [if_pos (by omega)] | rw [if_neg (by omega)] | split)
    | (refine V_if_ne.mpr ?_; first | rw [if_pos (by omega)] | rw [if_neg (by omega)] | split)
    | (simp (disch := (first | omega | (simp (disch := omega) only [up_f, up_s, up_i, up_k, up_e]; omega))) only [up_f, up_s, up_i, up_k, up_e, V_iconst, V_bipush, V_sipush, V_conti, V_contn, V_goto, Option.some.injEq, exists_eq_left', true_and, and_true, m_fit, Option.isSome_some, List.map_nil, List.map_cons, List.sum_nil, List.sum_cons, List.all_nil, List.all_cons, m_cat, decide_true, Bool.and_true, Bool.true_and, Nat.zero_le, Int.toNat_natCast, Int.reduceAdd, Int.reduceSub, Int.reduceMul, Int.reduceNeg, Int.reduceLE, Int.reduceLT, Nat.reduceAdd, Nat.reduceLeDiff, Int.reduceToNat, Int.reduceEq, decide_eq_true_eq, true_or, or_true, exists_and_left, and_self, Nat.reduceMul, Nat.reduceSub, Nat.reduceLT, m_oa, Nat.reduceEqDiff, or_false, false_or, Sum.inl.injEq, Sum.inr.injEq, ↓reduceIte, ne_eq, not_false_eq_true, Int.reduceNe, exists_eq_left, D_74, R_74, X_74, I_74_211, J_74_12, N_74_15, F_74_34, F_74_214, I_74_238, J_74_50, N_74_53, I_74_244, V_aloadn0, V_iloadn1, T_9, V_iloadn2, V_dup_vI, V_dup_vR, G_9_4, G_0_0, A_254, T_a254, U_aaload, T_0, b_74_0, b_74_25, b_74_63, s_88, t_88, s_89, t_89, s_91, t_91, s_92, t_92, s_93, t_93, mk_ex])
  all_goals first | exact ⟨rfl, rfl⟩ | rfl
theorem c_74d {i j P : Nat} (hP : S 1001 0 0 = P) (hP40 : P ≤ 40) (hi : i < P) (hj : j < P) (hij : ¬ i = j) (h : S 1304 i 0 = -1 ∨ S 1304 j 0 = -1) (Q : MOut → MHp → Prop) : m_do xs L 74 [vR 0, vI i, vI j] (mk S e) Q ↔ Q (.inr 2) (mk S (e + 1)) := by
  have h10 := s_10n (xs := xs) (L := L) (S := S) (e := e) (show i < 40 by omega) (show j < 40 by omega) h
  have hne : ¬ (i : Int) = j := by omega
  refine m_do_eq ?_ Q
  repeat' first
    | (refine V_icmp_ne.mpr ?_; first | rw [if_pos (by omega)] | rw [if_neg (by omega)] | split)
    | (refine V_if_ne.mpr ?_; first | rw [if_pos (by omega)] | rw [if_neg (by omega)] | split)
    | (simp (disch := (first | omega | (simp (disch := omega) only [up_f, up_s, up_i, up_k, up_e]; omega))) only [up_f, up_s, up_i, up_k, up_e, V_iconst, V_bipush, V_sipush, V_conti, V_contn, V_goto, Option.some.injEq, exists_eq_left', true_and, and_true, m_fit, Option.isSome_some, List.map_nil, List.map_cons, List.sum_nil, List.sum_cons, List.all_nil, List.all_cons, m_cat, decide_true, Bool.and_true, Bool.true_and, Nat.zero_le, Int.toNat_natCast, Int.reduceAdd, Int.reduceSub, Int.reduceMul, Int.reduceNeg, Int.reduceLE, Int.reduceLT, Nat.reduceAdd, Nat.reduceLeDiff, Int.reduceToNat, Int.reduceEq, decide_eq_true_eq, true_or, or_true, exists_and_left, and_self, Nat.reduceMul, Nat.reduceSub, Nat.reduceLT, m_oa, Nat.reduceEqDiff, or_false, false_or, Sum.inl.injEq, Sum.inr.injEq, ↓reduceIte, ne_eq, not_false_eq_true, Int.reduceNe, exists_eq_left, D_74, R_74, X_74, I_74_211, J_74_12, N_74_15, F_74_34, F_74_214, I_74_238, J_74_50, N_74_53, I_74_244, V_aloadn0, V_iloadn1, T_9, V_iloadn2, V_dup_vI, V_dup_vR, G_9_4, G_0_0, A_254, T_a254, U_aaload, T_0, b_74_0, b_74_25, b_74_63, s_88, t_88, s_89, t_89, s_91, t_91, s_92, t_92, s_93, t_93, mk_ex, h10, hne])
  all_goals first | exact ⟨rfl, rfl⟩ | rfl
theorem c_74 {B : Sg} {i j c r b c2 r2 b2 P : Nat} (h : PPx S B P) (hP : S 1001 0 0 = P) (hi : i < P) (hj : j < P) (hij : ¬ i = j) (ha : ats S B i c r b) (hd : ats S B j c2 r2 b2) (hc : ((oneR (swB B i j c r b c2 r2 b2) 72 (18 * c + 3 * r) ∨ oneR (swB B i j c r b c2 r2 b2) 74 (18 * c + 3 * r)) ∧ (oneR (swB B i j c r b c2 r2 b2) 72 (18 * c2 + 3 * r2) ∨ oneR (swB B i j c r b c2 r2 b2) 74 (18 * c2 + 3 * r2)))) (Q : MOut → MHp → Prop) : m_do xs L 74 [vR 0, vI i, vI j] (mk S e) Q ↔ Q (.inl none) (mk (swS S i j c r b c2 r2 b2) e) := by
  have hne : ¬ (i : Int) = j := by omega
  have hP40 := h.1
  have q1 := (h.2.1 i (by omega)).1
  have q2 := (h.2.1 j (by omega)).1
  have h92 := s_92 (xs := xs) (L := L) (S := S) (e := e) (a := (i : Int)) (by omega)
  have h92b := s_92 (xs := xs) (L := L) (S := S) (e := e) (a := (j : Int)) (by omega)
  have hl10 := s_10 (xs := xs) (L := L) (S := S) (e := e) (show i < 40 by omega) (show j < 40 by omega) ha.2.2.2.2.2.1 ha.2.2.2.2.2.2.1 ha.2.2.2.2.2.2.2.1 hd.2.2.2.2.2.1 hd.2.2.2.2.2.2.1 hd.2.2.2.2.2.2.2.1 ha.1 ha.2.1 ha.2.2.1 hd.1 hd.2.1 hd.2.2.1 (bed_40 h)
  have hl11 := s_11 (xs := xs) (L := L) (S := S) (e := e) (show i < 40 by omega) (show j < 40 by omega) hij ha.2.2.2.2.2.1 ha.2.2.2.2.2.2.1 ha.2.2.2.2.2.2.2.1 hd.2.2.2.2.2.1 hd.2.2.2.2.2.2.1 hd.2.2.2.2.2.2.2.1 ha.1 ha.2.1 ha.2.2.1 hd.1 hd.2.1 hd.2.2.1
  rw [q1, q2] at hl11
  have hm := may_iff h hi hj hij ha hd
  have i10 : ∀ Q, m_do xs L 10 [vR 253, vR (pe i), vR (pe j)] (mk S e) Q ↔ Q (.inl (some (vI 1))) (mk S e) := fun Q => by rw [hl10, if_pos (hm.mpr hc)]
  have i11 : ∀ Q, m_do xs L 11 [vR 253, vR (pe i), vR (pe j)] (mk S e) Q ↔ Q (.inl none) (mk (swS S i j c r b c2 r2 b2) e) := hl11
  refine m_do_eq ?_ Q
  repeat' first
    | (refine V_icmp_ne.mpr ?_; first | rw [if_pos (by omega)] | rw [if_neg (by omega)] | split)
    | (refine V_if_ne.mpr ?_; first | rw [if_pos (by omega)] | rw [if_neg (by omega)] | split)
    | (simp (disch := (first | omega | (simp (disch := omega) only [up_f, up_s, up_i, up_k, up_e]; omega))) only [up_f, up_s, up_i, up_k, up_e, V_iconst, V_bipush, V_sipush, V_conti, V_contn, V_goto, Option.some.injEq, exists_eq_left', true_and, and_true, m_fit, Option.isSome_some, List.map_nil, List.map_cons, List.sum_nil, List.sum_cons, List.all_nil, List.all_cons, m_cat, decide_true, Bool.and_true, Bool.true_and, Nat.zero_le, Int.toNat_natCast, Int.reduceAdd, Int.reduceSub, Int.reduceMul, Int.reduceNeg, Int.reduceLE, Int.reduceLT, Nat.reduceAdd, Nat.reduceLeDiff, Int.reduceToNat, Int.reduceEq, decide_eq_true_eq, true_or, or_true, exists_and_left, and_self, Nat.reduceMul, Nat.reduceSub, Nat.reduceLT, m_oa, Nat.reduceEqDiff, or_false, false_or, Sum.inl.injEq, Sum.inr.injEq, ↓reduceIte, ne_eq, not_false_eq_true, Int.reduceNe, exists_eq_left, D_74, R_74, X_74, I_74_211, J_74_12, N_74_15, F_74_34, F_74_214, I_74_238, J_74_50, N_74_53, I_74_244, V_aloadn0, V_iloadn1, T_9, V_iloadn2, V_dup_vI, V_dup_vR, G_9_4, G_0_0, A_254, T_a254, U_aaload, T_0, b_74_0, b_74_25, b_74_63, h92, h92b, i10, i11, hne])
theorem c_74e {B : Sg} {i j c r b c2 r2 b2 P : Nat} (h : PPx S B P) (hP : S 1001 0 0 = P) (hi : i < P) (hj : j < P) (hij : ¬ i = j) (ha : ats S B i c r b) (hd : ats S B j c2 r2 b2) (hc : ¬ ((oneR (swB B i j c r b c2 r2 b2) 72 (18 * c + 3 * r) ∨ oneR (swB B i j c r b c2 r2 b2) 74 (18 * c + 3 * r)) ∧ (oneR (swB B i j c r b c2 r2 b2) 72 (18 * c2 + 3 * r2) ∨ oneR (swB B i j c r b c2 r2 b2) 74 (18 * c2 + 3 * r2)))) (Q : MOut → MHp → Prop) : m_do xs L 74 [vR 0, vI i, vI j] (mk S e) Q ↔ Q (.inr 2) (mk S (e + 1)) := by
  have hne : ¬ (i : Int) = j := by omega
  have hP40 := h.1
  have q1 := (h.2.1 i (by omega)).1
  have q2 := (h.2.1 j (by omega)).1
  have h92 := s_92 (xs := xs) (L := L) (S := S) (e := e) (a := (i : Int)) (by omega)
  have h92b := s_92 (xs := xs) (L := L) (S := S) (e := e) (a := (j : Int)) (by omega)
  have hl10 := s_10 (xs := xs) (L := L) (S := S) (e := e) (show i < 40 by omega) (show j < 40 by omega) ha.2.2.2.2.2.1 ha.2.2.2.2.2.2.1 ha.2.2.2.2.2.2.2.1 hd.2.2.2.2.2.1 hd.2.2.2.2.2.2.1 hd.2.2.2.2.2.2.2.1 ha.1 ha.2.1 ha.2.2.1 hd.1 hd.2.1 hd.2.2.1 (bed_40 h)
  have hl11 := s_11 (xs := xs) (L := L) (S := S) (e := e) (show i < 40 by omega) (show j < 40 by omega) hij ha.2.2.2.2.2.1 ha.2.2.2.2.2.2.1 ha.2.2.2.2.2.2.2.1 hd.2.2.2.2.2.1 hd.2.2.2.2.2.2.1 hd.2.2.2.2.2.2.2.1 ha.1 ha.2.1 ha.2.2.1 hd.1 hd.2.1 hd.2.2.1
  rw [q1, q2] at hl11
  have hm := may_iff h hi hj hij ha hd
  have i10 : ∀ Q, m_do xs L 10 [vR 253, vR (pe i), vR (pe j)] (mk S e) Q ↔ Q (.inl (some (vI 0))) (mk S e) := fun Q => by rw [hl10, if_neg (fun z => hc (hm.mp z))]
  refine m_do_eq ?_ Q
  repeat' first
    | (refine V_icmp_ne.mpr ?_; first | rw [if_pos (by omega)] | rw [if_neg (by omega)] | split)
    | (refine V_if_ne.mpr ?_; first | rw [if_pos (by omega)] | rw [if_neg (by omega)] | split)
    | (simp (disch := (first | omega | (simp (disch := omega) only [up_f, up_s, up_i, up_k, up_e]; omega))) only [up_f, up_s, up_i, up_k, up_e, V_iconst, V_bipush, V_sipush, V_conti, V_contn, V_goto, Option.some.injEq, exists_eq_left', true_and, and_true, m_fit, Option.isSome_some, List.map_nil, List.map_cons, List.sum_nil, List.sum_cons, List.all_nil, List.all_cons, m_cat, decide_true, Bool.and_true, Bool.true_and, Nat.zero_le, Int.toNat_natCast, Int.reduceAdd, Int.reduceSub, Int.reduceMul, Int.reduceNeg, Int.reduceLE, Int.reduceLT, Nat.reduceAdd, Nat.reduceLeDiff, Int.reduceToNat, Int.reduceEq, decide_eq_true_eq, true_or, or_true, exists_and_left, and_self, Nat.reduceMul, Nat.reduceSub, Nat.reduceLT, m_oa, Nat.reduceEqDiff, or_false, false_or, Sum.inl.injEq, Sum.inr.injEq, ↓reduceIte, ne_eq, not_false_eq_true, Int.reduceNe, exists_eq_left, D_74, R_74, X_74, I_74_211, J_74_12, N_74_15, F_74_34, F_74_214, I_74_238, J_74_50, N_74_53, I_74_244, V_aloadn0, V_iloadn1, T_9, V_iloadn2, V_dup_vI, V_dup_vR, G_9_4, G_0_0, A_254, T_a254, U_aaload, T_0, b_74_0, b_74_25, b_74_63, h92, h92b, i10, hne, mk_ex])
theorem m_137a {P : Nat} {i j : Int} (hP : S 2026 0 0 = P) (hP40 : P ≤ 40) (h : ¬ (0 ≤ i ∧ i < P)) (Q : MOut → MHp → Prop) : m_do xs L 137 [vR 296, vI i, vI j] (mk S e) Q ↔ Q (.inl none) (mk (up S 2000 0 0 1) e) := by
  refine m_do_eq ?_ Q
  repeat' first
    | (refine V_icmp_eq.mpr ?_; first | rw [if_pos (by omega)] | rw [if_neg (by omega)] | split)
    | (refine V_icmp_ne.mpr ?_; first | rw [if_pos (by omega)] | rw [if_neg (by omega)] | split)
    | (refine V_if_eq.mpr ?_; first | rw [if_pos (by omega)] | rw [if_neg (by omega)] | split)
    | (refine V_if_ne.mpr ?_; first | rw [if_pos (by omega)] | rw [if_neg (by omega)] | split)
    | (simp (disch := (first | omega | (simp (disch := omega) only [up_f, up_s, up_i, up_k, up_e]; omega))) only [up_f, up_s, up_i, up_k, up_e, V_iconst, V_bipush, V_sipush, V_conti, V_contn, V_goto, Option.some.injEq, exists_eq_left', true_and, and_true, m_fit, Option.isSome_some, List.map_nil, List.map_cons, List.sum_nil, List.sum_cons, List.all_nil, List.all_cons, m_cat, decide_true, Bool.and_true, Bool.true_and, Nat.zero_le, Int.toNat_natCast, Int.reduceAdd, Int.reduceSub, Int.reduceMul, Int.reduceNeg, Int.reduceLE, Int.reduceLT, Nat.reduceAdd, Nat.reduceLeDiff, Int.reduceToNat, Int.reduceEq, decide_eq_true_eq, true_or, or_true, exists_and_left, and_self, Nat.reduceMul, Nat.reduceSub, Nat.reduceLT, m_oa, Nat.reduceEqDiff, or_false, false_or, Sum.inl.injEq, Sum.inr.injEq, ↓reduceIte, ne_eq, not_false_eq_true, Int.reduceNe, exists_eq_left, D_137, R_137, X_137, I_137_251, J_137_5, J_137_13, J_137_17, J_137_23, J_137_28, F_137_89, J_137_38, J_137_48, J_137_52, J_137_63, I_137_254, F_137_92, I_137_233, J_137_93, J_137_117, J_137_121, J_137_129, J_137_140, J_137_144, J_137_149, J_137_153, J_137_158, J_137_162, I_137_167, V_aloadn0, V_iloadn1, T_10, V_iloadn2, V_istoren3, V_iloadn3, G_10_31, A_323, T_a323, B_323, U_iaload, V_istore4, V_istore5, V_iload4, G_10_32, A_324, T_a324, B_324, V_idiv, V_iload5, V_pop_vI, b_137_0, b_137_20, b_137_21, b_137_55, b_137_56, b_137_124, b_137_125, b_137_138, b_137_147, b_137_156, b_137_165, b_137_166, in1, in0, st1, st0, tr1, tr0, co1, co0, pe1, pe0, refu0, refu1])
  all_goals first | exact ⟨rfl, rfl⟩ | rfl
theorem m_137b {P : Nat} {i j : Int} (hP : S 2026 0 0 = P) (hP40 : P ≤ 40) (hi : 0 ≤ i ∧ i < P) (h : ¬ (0 ≤ j ∧ j < P)) (Q : MOut → MHp → Prop) : m_do xs L 137 [vR 296, vI i, vI j] (mk S e) Q ↔ Q (.inl none) (mk (up S 2000 0 0 1) e) := by
  refine m_do_eq ?_ Q
  repeat' first
    | (refine V_icmp_eq.mpr ?_; first | rw [if_pos (by omega)] | rw [if_neg (by omega)] | split)
    | (refine V_icmp_ne.mpr ?_; first | rw [if_pos (by omega)] | rw [if_neg (by omega)] | split)
    | (refine V_if_eq.mpr ?_; first | rw [if_pos (by omega)] | rw [if_neg (by omega)] | split)
    | (refine V_if_ne.mpr ?_; first | rw [if_pos (by omega)] | rw [if_neg (by omega)] | split)
    | (simp (disch := (first | omega | (simp (disch := omega) only [up_f, up_s, up_i, up_k, up_e]; omega))) only [up_f, up_s, up_i, up_k, up_e, V_iconst, V_bipush, V_sipush, V_conti, V_contn, V_goto, Option.some.injEq, exists_eq_left', true_and, and_true, m_fit, Option.isSome_some, List.map_nil, List.map_cons, List.sum_nil, List.sum_cons, List.all_nil, List.all_cons, m_cat, decide_true, Bool.and_true, Bool.true_and, Nat.zero_le, Int.toNat_natCast, Int.reduceAdd, Int.reduceSub, Int.reduceMul, Int.reduceNeg, Int.reduceLE, Int.reduceLT, Nat.reduceAdd, Nat.reduceLeDiff, Int.reduceToNat, Int.reduceEq, decide_eq_true_eq, true_or, or_true, exists_and_left, and_self, Nat.reduceMul, Nat.reduceSub, Nat.reduceLT, m_oa, Nat.reduceEqDiff, or_false, false_or, Sum.inl.injEq, Sum.inr.injEq, ↓reduceIte, ne_eq, not_false_eq_true, Int.reduceNe, exists_eq_left, D_137, R_137, X_137, I_137_251, J_137_5, J_137_13, J_137_17, J_137_23, J_137_28, F_137_89, J_137_38, J_137_48, J_137_52, J_137_63, I_137_254, F_137_92, I_137_233, J_137_93, J_137_117, J_137_121, J_137_129, J_137_140, J_137_144, J_137_149, J_137_153, J_137_158, J_137_162, I_137_167, V_aloadn0, V_iloadn1, T_10, V_iloadn2, V_istoren3, V_iloadn3, G_10_31, A_323, T_a323, B_323, U_iaload, V_istore4, V_istore5, V_iload4, G_10_32, A_324, T_a324, B_324, V_idiv, V_iload5, V_pop_vI, b_137_0, b_137_20, b_137_21, b_137_55, b_137_56, b_137_124, b_137_125, b_137_138, b_137_147, b_137_156, b_137_165, b_137_166, in1, in0, st1, st0, tr1, tr0, co1, co0, pe1, pe0, refu0, refu1])
  all_goals first | exact ⟨rfl, rfl⟩ | rfl
theorem m_137c {P : Nat} {i : Int} (hP : S 2026 0 0 = P) (hP40 : P ≤ 40) (hi : 0 ≤ i ∧ i < P) (Q : MOut → MHp → Prop) : m_do xs L 137 [vR 296, vI i, vI i] (mk S e) Q ↔ Q (.inl none) (mk (up S 2000 0 0 2) e) := by
  refine m_do_eq ?_ Q
  repeat' first
    | (refine V_icmp_eq.mpr ?_; first | rw [if_pos (by omega)] | rw [if_neg (by omega)] | split)
    | (refine V_icmp_ne.mpr ?_; first | rw [if_pos (by omega)] | rw [if_neg (by omega)] | split)
    | (refine V_if_eq.mpr ?_; first | rw [if_pos (by omega)] | rw [if_neg (by omega)] | split)
    | (refine V_if_ne.mpr ?_; first | rw [if_pos (by omega)] | rw [if_neg (by omega)] | split)
    | (simp (disch := (first | omega | (simp (disch := omega) only [up_f, up_s, up_i, up_k, up_e]; omega))) only [up_f, up_s, up_i, up_k, up_e, V_iconst, V_bipush, V_sipush, V_conti, V_contn, V_goto, Option.some.injEq, exists_eq_left', true_and, and_true, m_fit, Option.isSome_some, List.map_nil, List.map_cons, List.sum_nil, List.sum_cons, List.all_nil, List.all_cons, m_cat, decide_true, Bool.and_true, Bool.true_and, Nat.zero_le, Int.toNat_natCast, Int.reduceAdd, Int.reduceSub, Int.reduceMul, Int.reduceNeg, Int.reduceLE, Int.reduceLT, Nat.reduceAdd, Nat.reduceLeDiff, Int.reduceToNat, Int.reduceEq, decide_eq_true_eq, true_or, or_true, exists_and_left, and_self, Nat.reduceMul, Nat.reduceSub, Nat.reduceLT, m_oa, Nat.reduceEqDiff, or_false, false_or, Sum.inl.injEq, Sum.inr.injEq, ↓reduceIte, ne_eq, not_false_eq_true, Int.reduceNe, exists_eq_left, D_137, R_137, X_137, I_137_251, J_137_5, J_137_13, J_137_17, J_137_23, J_137_28, F_137_89, J_137_38, J_137_48, J_137_52, J_137_63, I_137_254, F_137_92, I_137_233, J_137_93, J_137_117, J_137_121, J_137_129, J_137_140, J_137_144, J_137_149, J_137_153, J_137_158, J_137_162, I_137_167, V_aloadn0, V_iloadn1, T_10, V_iloadn2, V_istoren3, V_iloadn3, G_10_31, A_323, T_a323, B_323, U_iaload, V_istore4, V_istore5, V_iload4, G_10_32, A_324, T_a324, B_324, V_idiv, V_iload5, V_pop_vI, b_137_0, b_137_20, b_137_21, b_137_55, b_137_56, b_137_124, b_137_125, b_137_138, b_137_147, b_137_156, b_137_165, b_137_166, in1, in0, st1, st0, tr1, tr0, co1, co0, pe1, pe0, refu0, refu1])
  all_goals first | exact ⟨rfl, rfl⟩ | rfl
theorem m_137d {i j P : Nat} (hP : S 2026 0 0 = P) (hP40 : P ≤ 40) (hi : i < P) (hj : j < P) (hij : ¬ i = j) (h : S 76 0 i = -1 ∨ S 76 0 j = -1) (Q : MOut → MHp → Prop) : m_do xs L 137 [vR 296, vI i, vI j] (mk S e) Q ↔ Q (.inl none) (mk (up S 2000 0 0 3) e) := by
  have hne : ¬ (i : Int) = j := by omega
  refine m_do_eq ?_ Q
  by_cases g1 : S 76 0 i = -1
  ·
    repeat' first
      | (refine V_icmp_eq.mpr ?_; first | rw [if_pos (by omega)] | rw [if_neg (by omega)] | split)
      | (refine V_icmp_ne.mpr ?_; first | rw [if_pos (by omega)] | rw [if_neg (by omega)] | split)
      | (refine V_if_eq.mpr ?_; first | rw [if_pos (by omega)] | rw [if_neg (by omega)] | split)
      | (refine V_if_ne.mpr ?_; first | rw [if_pos (by omega)] | rw [if_neg (by omega)] | split)
      | (simp (disch := (first | omega | (simp (disch := omega) only [up_f, up_s, up_i, up_k, up_e]; omega))) only [up_f, up_s, up_i, up_k, up_e, V_iconst, V_bipush, V_sipush, V_conti, V_contn, V_goto, Option.some.injEq, exists_eq_left', true_and, and_true, m_fit, Option.isSome_some, List.map_nil, List.map_cons, List.sum_nil, List.sum_cons, List.all_nil, List.all_cons, m_cat, decide_true, Bool.and_true, Bool.true_and, Nat.zero_le, Int.toNat_natCast, Int.reduceAdd, Int.reduceSub, Int.reduceMul, Int.reduceNeg, Int.reduceLE, Int.reduceLT, Nat.reduceAdd, Nat.reduceLeDiff, Int.reduceToNat, Int.reduceEq, decide_eq_true_eq, true_or, or_true, exists_and_left, and_self, Nat.reduceMul, Nat.reduceSub, Nat.reduceLT, m_oa, Nat.reduceEqDiff, or_false, false_or, Sum.inl.injEq, Sum.inr.injEq, ↓reduceIte, ne_eq, not_false_eq_true, Int.reduceNe, exists_eq_left, D_137, R_137, X_137, I_137_251, J_137_5, J_137_13, J_137_17, J_137_23, J_137_28, F_137_89, J_137_38, J_137_48, J_137_52, J_137_63, I_137_254, F_137_92, I_137_233, J_137_93, J_137_117, J_137_121, J_137_129, J_137_140, J_137_144, J_137_149, J_137_153, J_137_158, J_137_162, I_137_167, V_aloadn0, V_iloadn1, T_10, V_iloadn2, V_istoren3, V_iloadn3, G_10_31, A_323, T_a323, B_323, U_iaload, V_istore4, V_istore5, V_iload4, G_10_32, A_324, T_a324, B_324, V_idiv, V_iload5, V_pop_vI, b_137_0, b_137_20, b_137_21, b_137_55, b_137_56, b_137_124, b_137_125, b_137_138, b_137_147, b_137_156, b_137_165, b_137_166, in1, in0, st1, st0, tr1, tr0, co1, co0, pe1, pe0, refu0, refu1, hne])
    all_goals first | exact ⟨rfl, rfl⟩ | rfl
  ·
    repeat' first
      | (refine V_icmp_eq.mpr ?_; first | rw [if_pos (by omega)] | rw [if_neg (by omega)] | split)
      | (refine V_icmp_ne.mpr ?_; first | rw [if_pos (by omega)] | rw [if_neg (by omega)] | split)
      | (refine V_if_eq.mpr ?_; first | rw [if_pos (by omega)] | rw [if_neg (by omega)] | split)
      | (refine V_if_ne.mpr ?_; first | rw [if_pos (by omega)] | rw [if_neg (by omega)] | split)
      | (simp (disch := (first | omega | (simp (disch := omega) only [up_f, up_s, up_i, up_k, up_e]; omega))) only [up_f, up_s, up_i, up_k, up_e, V_iconst, V_bipush, V_sipush, V_conti, V_contn, V_goto, Option.some.injEq, exists_eq_left', true_and, and_true, m_fit, Option.isSome_some, List.map_nil, List.map_cons, List.sum_nil, List.sum_cons, List.all_nil, List.all_cons, m_cat, decide_true, Bool.and_true, Bool.true_and, Nat.zero_le, Int.toNat_natCast, Int.reduceAdd, Int.reduceSub, Int.reduceMul, Int.reduceNeg, Int.reduceLE, Int.reduceLT, Nat.reduceAdd, Nat.reduceLeDiff, Int.reduceToNat, Int.reduceEq, decide_eq_true_eq, true_or, or_true, exists_and_left, and_self, Nat.reduceMul, Nat.reduceSub, Nat.reduceLT, m_oa, Nat.reduceEqDiff, or_false, false_or, Sum.inl.injEq, Sum.inr.injEq, ↓reduceIte, ne_eq, not_false_eq_true, Int.reduceNe, exists_eq_left, D_137, R_137, X_137, I_137_251, J_137_5, J_137_13, J_137_17, J_137_23, J_137_28, F_137_89, J_137_38, J_137_48, J_137_52, J_137_63, I_137_254, F_137_92, I_137_233, J_137_93, J_137_117, J_137_121, J_137_129, J_137_140, J_137_144, J_137_149, J_137_153, J_137_158, J_137_162, I_137_167, V_aloadn0, V_iloadn1, T_10, V_iloadn2, V_istoren3, V_iloadn3, G_10_31, A_323, T_a323, B_323, U_iaload, V_istore4, V_istore5, V_iload4, G_10_32, A_324, T_a324, B_324, V_idiv, V_iload5, V_pop_vI, b_137_0, b_137_20, b_137_21, b_137_55, b_137_56, b_137_124, b_137_125, b_137_138, b_137_147, b_137_156, b_137_165, b_137_166, in1, in0, st1, st0, tr1, tr0, co1, co0, pe1, pe0, refu0, refu1, hne])
    all_goals first | exact ⟨rfl, rfl⟩ | rfl
theorem m_137 {S0 : Sg} {i j c r b c2 r2 b2 P : Nat} (h : PPx S0 S P) (hP : S 2026 0 0 = P) (hi : i < P) (hj : j < P) (hij : ¬ i = j) (ha : ats S0 S i c r b) (hd : ats S0 S j c2 r2 b2) (hc : ((oneR (swB S i j c r b c2 r2 b2) 72 (18 * c + 3 * r) ∨ oneR (swB S i j c r b c2 r2 b2) 74 (18 * c + 3 * r)) ∧ (oneR (swB S i j c r b c2 r2 b2) 72 (18 * c2 + 3 * r2) ∨ oneR (swB S i j c r b c2 r2 b2) 74 (18 * c2 + 3 * r2)))) (Q : MOut → MHp → Prop) : m_do xs L 137 [vR 296, vI i, vI j] (mk S e) Q ↔ Q (.inl none) (mk (up (swB S i j c r b c2 r2 b2) 2000 0 0 0) e) := by
  have hne : ¬ (i : Int) = j := by omega
  have hP40 := h.1
  have a4 := ha.2.2.2.1
  have a5 := ha.2.2.2.2.1
  have d4 := hd.2.2.2.1
  have d5 := hd.2.2.2.2.1
  have h136 : ∀ Q, m_do xs L 136 [vR 296, vI i, vI j] (mk S e) Q ↔ Q (.inl none) (mk (swB S i j c r b c2 r2 b2) e) := s_136 (xs := xs) (L := L) (S := S) (e := e) (show i < 40 by omega) (show j < 40 by omega) ha.1 ha.2.1 ha.2.2.1 hd.1 hd.2.1 hd.2.2.1 a4 a5 d4 d5
  have w := swB_at (B := S) (c := c) (r := r) (b := b) (c2 := c2) (r2 := r2) (b2 := b2) hij
  have w1 := w.1
  have w2 := w.2.1
  have w3 := w.2.2.1
  have w4 := w.2.2.2
  have hran := swB_ran (i := i) (j := j) (c := c) (r := r) (b := b) (c2 := c2) (r2 := r2) (b2 := b2) h (show i < 40 by omega) (show j < 40 by omega)
  have c10 := ha.1
  have r6 := ha.2.1
  have b3 := ha.2.2.1
  have c102 := hd.1
  have r62 := hd.2.1
  have b32 := hd.2.2.1
  have hm1 : mhP (swB S i j c r b c2 r2 b2) (18 * c + 3 * r) (-1) (-1) ↔ oneR (swB S i j c r b c2 r2 b2) 72 (18 * c + 3 * r) ∨ oneR (swB S i j c r b c2 r2 b2) 74 (18 * c + 3 * r) := mhP_two (swB_q h (by omega) (by omega) (by omega))
  have hm2 : mhP (swB S i j c r b c2 r2 b2) (18 * c2 + 3 * r2) (-1) (-1) ↔ oneR (swB S i j c r b c2 r2 b2) 72 (18 * c2 + 3 * r2) ∨ oneR (swB S i j c r b c2 r2 b2) 74 (18 * c2 + 3 * r2) := mhP_two (swB_q h (by omega) (by omega) (by omega))
  have i1 := s_127 (xs := xs) (L := L) (S := swB S i j c r b c2 r2 b2) (e := e) (c := c) (r := r) (w := -1) (p := -1) ha.1 ha.2.1 hran
  have i2 := s_127 (xs := xs) (L := L) (S := swB S i j c r b c2 r2 b2) (e := e) (c := c2) (r := r2) (w := -1) (p := -1) hd.1 hd.2.1 hran
  have hq1 : (10 * (r : Int) + (b : Int)) / 10 = r := by omega
  have hq2 : (10 * (r2 : Int) + (b2 : Int)) / 10 = r2 := by omega
  have hna : ¬ S 76 0 i = -1 := by omega
  have hnb : ¬ S 76 0 j = -1 := by omega
  have g2026 : swB S i j c r b c2 r2 b2 2026 0 0 = P := by rw [swB_f (by omega)]; exact hP
  have h136b : ∀ Q, m_do xs L 136 [vR 296, vI i, vI j] (mk (swB S i j c r b c2 r2 b2) e) Q ↔ Q (.inl none) (mk (swB (swB S i j c r b c2 r2 b2) i j c2 r2 b2 c r b) e) := s_136 (xs := xs) (L := L) (S := swB S i j c r b c2 r2 b2) (e := e) (show i < 40 by omega) (show j < 40 by omega) hd.1 hd.2.1 hd.2.2.1 ha.1 ha.2.1 ha.2.2.1 w1 w2 w3 w4
  have mh1 : ∀ p : Prop, p → @ite Int p (Classical.propDecidable _) 1 0 = 1 := fun p hp => if_pos hp
  have mh0 : ∀ p : Prop, ¬ p → @ite Int p (Classical.propDecidable _) 1 0 = 0 := fun p hp => if_neg hp
  have e1 : mh (swB S i j c r b c2 r2 b2) (18 * c + 3 * r) (-1) (-1) = 1 := mh1 _ (hm1.mpr hc.1)
  have e2 : mh (swB S i j c r b c2 r2 b2) (18 * c2 + 3 * r2) (-1) (-1) = 1 := mh1 _ (hm2.mpr hc.2)
  refine m_do_eq ?_ Q
  repeat' first
    | (refine V_icmp_eq.mpr ?_; first | rw [if_pos (by omega)] | rw [if_neg (by omega)] | split)
    | (refine V_icmp_ne.mpr ?_; first | rw [if_pos (by omega)] | rw [if_neg (by omega)] | split)
    | (refine V_if_eq.mpr ?_; first | rw [if_pos (by omega)] | rw [if_neg (by omega)] | split)
    | (refine V_if_ne.mpr ?_; first | rw [if_pos (by omega)] | rw [if_neg (by omega)] | split)
    | (simp (disch := (first | omega | (simp (disch := omega) only [up_f, up_s, up_i, up_k, up_e]; omega))) only [up_f, up_s, up_i, up_k, up_e, V_iconst, V_bipush, V_sipush, V_conti, V_contn, V_goto, Option.some.injEq, exists_eq_left', true_and, and_true, m_fit, Option.isSome_some, List.map_nil, List.map_cons, List.sum_nil, List.sum_cons, List.all_nil, List.all_cons, m_cat, decide_true, Bool.and_true, Bool.true_and, Nat.zero_le, Int.toNat_natCast, Int.reduceAdd, Int.reduceSub, Int.reduceMul, Int.reduceNeg, Int.reduceLE, Int.reduceLT, Nat.reduceAdd, Nat.reduceLeDiff, Int.reduceToNat, Int.reduceEq, decide_eq_true_eq, true_or, or_true, exists_and_left, and_self, Nat.reduceMul, Nat.reduceSub, Nat.reduceLT, m_oa, Nat.reduceEqDiff, or_false, false_or, Sum.inl.injEq, Sum.inr.injEq, ↓reduceIte, ne_eq, not_false_eq_true, Int.reduceNe, exists_eq_left, D_137, R_137, X_137, I_137_251, J_137_5, J_137_13, J_137_17, J_137_23, J_137_28, F_137_89, J_137_38, J_137_48, J_137_52, J_137_63, I_137_254, F_137_92, I_137_233, J_137_93, J_137_117, J_137_121, J_137_129, J_137_140, J_137_144, J_137_149, J_137_153, J_137_158, J_137_162, I_137_167, V_aloadn0, V_iloadn1, T_10, V_iloadn2, V_istoren3, V_iloadn3, G_10_31, A_323, T_a323, B_323, U_iaload, V_istore4, V_istore5, V_iload4, G_10_32, A_324, T_a324, B_324, V_idiv, V_iload5, V_pop_vI, b_137_0, b_137_20, b_137_21, b_137_55, b_137_56, b_137_124, b_137_125, b_137_138, b_137_147, b_137_156, b_137_165, b_137_166, in1, in0, st1, st0, tr1, tr0, co1, co0, pe1, pe0, refu0, refu1, hne, a4, a5, d4, d5, h136, w1, w2, w3, w4, i1, i2, hq1, hq2, m_div_eq, hna, hnb, h136b, e1, e2])
theorem m_137e {S0 : Sg} {i j c r b c2 r2 b2 P : Nat} (h : PPx S0 S P) (hP : S 2026 0 0 = P) (hi : i < P) (hj : j < P) (hij : ¬ i = j) (ha : ats S0 S i c r b) (hd : ats S0 S j c2 r2 b2) (hc : ¬ ((oneR (swB S i j c r b c2 r2 b2) 72 (18 * c + 3 * r) ∨ oneR (swB S i j c r b c2 r2 b2) 74 (18 * c + 3 * r)) ∧ (oneR (swB S i j c r b c2 r2 b2) 72 (18 * c2 + 3 * r2) ∨ oneR (swB S i j c r b c2 r2 b2) 74 (18 * c2 + 3 * r2)))) (Q : MOut → MHp → Prop) : m_do xs L 137 [vR 296, vI i, vI j] (mk S e) Q ↔ Q (.inl none) (mk (up (swB (swB S i j c r b c2 r2 b2) i j c2 r2 b2 c r b) 2000 0 0 3) e) := by
  have hne : ¬ (i : Int) = j := by omega
  have hP40 := h.1
  have a4 := ha.2.2.2.1
  have a5 := ha.2.2.2.2.1
  have d4 := hd.2.2.2.1
  have d5 := hd.2.2.2.2.1
  have h136 : ∀ Q, m_do xs L 136 [vR 296, vI i, vI j] (mk S e) Q ↔ Q (.inl none) (mk (swB S i j c r b c2 r2 b2) e) := s_136 (xs := xs) (L := L) (S := S) (e := e) (show i < 40 by omega) (show j < 40 by omega) ha.1 ha.2.1 ha.2.2.1 hd.1 hd.2.1 hd.2.2.1 a4 a5 d4 d5
  have w := swB_at (B := S) (c := c) (r := r) (b := b) (c2 := c2) (r2 := r2) (b2 := b2) hij
  have w1 := w.1
  have w2 := w.2.1
  have w3 := w.2.2.1
  have w4 := w.2.2.2
  have hran := swB_ran (i := i) (j := j) (c := c) (r := r) (b := b) (c2 := c2) (r2 := r2) (b2 := b2) h (show i < 40 by omega) (show j < 40 by omega)
  have c10 := ha.1
  have r6 := ha.2.1
  have b3 := ha.2.2.1
  have c102 := hd.1
  have r62 := hd.2.1
  have b32 := hd.2.2.1
  have hm1 : mhP (swB S i j c r b c2 r2 b2) (18 * c + 3 * r) (-1) (-1) ↔ oneR (swB S i j c r b c2 r2 b2) 72 (18 * c + 3 * r) ∨ oneR (swB S i j c r b c2 r2 b2) 74 (18 * c + 3 * r) := mhP_two (swB_q h (by omega) (by omega) (by omega))
  have hm2 : mhP (swB S i j c r b c2 r2 b2) (18 * c2 + 3 * r2) (-1) (-1) ↔ oneR (swB S i j c r b c2 r2 b2) 72 (18 * c2 + 3 * r2) ∨ oneR (swB S i j c r b c2 r2 b2) 74 (18 * c2 + 3 * r2) := mhP_two (swB_q h (by omega) (by omega) (by omega))
  have i1 := s_127 (xs := xs) (L := L) (S := swB S i j c r b c2 r2 b2) (e := e) (c := c) (r := r) (w := -1) (p := -1) ha.1 ha.2.1 hran
  have i2 := s_127 (xs := xs) (L := L) (S := swB S i j c r b c2 r2 b2) (e := e) (c := c2) (r := r2) (w := -1) (p := -1) hd.1 hd.2.1 hran
  have hq1 : (10 * (r : Int) + (b : Int)) / 10 = r := by omega
  have hq2 : (10 * (r2 : Int) + (b2 : Int)) / 10 = r2 := by omega
  have hna : ¬ S 76 0 i = -1 := by omega
  have hnb : ¬ S 76 0 j = -1 := by omega
  have g2026 : swB S i j c r b c2 r2 b2 2026 0 0 = P := by rw [swB_f (by omega)]; exact hP
  have h136b : ∀ Q, m_do xs L 136 [vR 296, vI i, vI j] (mk (swB S i j c r b c2 r2 b2) e) Q ↔ Q (.inl none) (mk (swB (swB S i j c r b c2 r2 b2) i j c2 r2 b2 c r b) e) := s_136 (xs := xs) (L := L) (S := swB S i j c r b c2 r2 b2) (e := e) (show i < 40 by omega) (show j < 40 by omega) hd.1 hd.2.1 hd.2.2.1 ha.1 ha.2.1 ha.2.2.1 w1 w2 w3 w4
  have mh1 : ∀ p : Prop, p → @ite Int p (Classical.propDecidable _) 1 0 = 1 := fun p hp => if_pos hp
  have mh0 : ∀ p : Prop, ¬ p → @ite Int p (Classical.propDecidable _) 1 0 = 0 := fun p hp => if_neg hp
  refine m_do_eq ?_ Q
  by_cases h2 : oneR (swB S i j c r b c2 r2 b2) 72 (18 * c2 + 3 * r2) ∨ oneR (swB S i j c r b c2 r2 b2) 74 (18 * c2 + 3 * r2)
  · have e1 : mh (swB S i j c r b c2 r2 b2) (18 * c + 3 * r) (-1) (-1) = 0 := mh0 _ (fun z => hc ⟨hm1.mp z, h2⟩)
    have e2 : mh (swB S i j c r b c2 r2 b2) (18 * c2 + 3 * r2) (-1) (-1) = 1 := mh1 _ (hm2.mpr h2)
    repeat' first
      | (refine V_icmp_eq.mpr ?_; first | rw [if_pos (by omega)] | rw [if_neg (by omega)] | split)
      | (refine V_icmp_ne.mpr ?_; first | rw [if_pos (by omega)] | rw [if_neg (by omega)] | split)
      | (refine V_if_eq.mpr ?_; first | rw [if_pos (by omega)] | rw [if_neg (by omega)] | split)
      | (refine V_if_ne.mpr ?_; first | rw [if_pos (by omega)] | rw [if_neg (by omega)] | split)
      | (simp (disch := (first | omega | (simp (disch := omega) only [up_f, up_s, up_i, up_k, up_e]; omega))) only [up_f, up_s, up_i, up_k, up_e, V_iconst, V_bipush, V_sipush, V_conti, V_contn, V_goto, Option.some.injEq, exists_eq_left', true_and, and_true, m_fit, Option.isSome_some, List.map_nil, List.map_cons, List.sum_nil, List.sum_cons, List.all_nil, List.all_cons, m_cat, decide_true, Bool.and_true, Bool.true_and, Nat.zero_le, Int.toNat_natCast, Int.reduceAdd, Int.reduceSub, Int.reduceMul, Int.reduceNeg, Int.reduceLE, Int.reduceLT, Nat.reduceAdd, Nat.reduceLeDiff, Int.reduceToNat, Int.reduceEq, decide_eq_true_eq, true_or, or_true, exists_and_left, and_self, Nat.reduceMul, Nat.reduceSub, Nat.reduceLT, m_oa, Nat.reduceEqDiff, or_false, false_or, Sum.inl.injEq, Sum.inr.injEq, ↓reduceIte, ne_eq, not_false_eq_true, Int.reduceNe, exists_eq_left, D_137, R_137, X_137, I_137_251, J_137_5, J_137_13, J_137_17, J_137_23, J_137_28, F_137_89, J_137_38, J_137_48, J_137_52, J_137_63, I_137_254, F_137_92, I_137_233, J_137_93, J_137_117, J_137_121, J_137_129, J_137_140, J_137_144, J_137_149, J_137_153, J_137_158, J_137_162, I_137_167, V_aloadn0, V_iloadn1, T_10, V_iloadn2, V_istoren3, V_iloadn3, G_10_31, A_323, T_a323, B_323, U_iaload, V_istore4, V_istore5, V_iload4, G_10_32, A_324, T_a324, B_324, V_idiv, V_iload5, V_pop_vI, b_137_0, b_137_20, b_137_21, b_137_55, b_137_56, b_137_124, b_137_125, b_137_138, b_137_147, b_137_156, b_137_165, b_137_166, in1, in0, st1, st0, tr1, tr0, co1, co0, pe1, pe0, refu0, refu1, hne, a4, a5, d4, d5, h136, w1, w2, w3, w4, i1, i2, hq1, hq2, m_div_eq, hna, hnb, h136b, e1, e2])
    all_goals first | exact ⟨rfl, rfl⟩ | rfl
  · have e2 : mh (swB S i j c r b c2 r2 b2) (18 * c2 + 3 * r2) (-1) (-1) = 0 := mh0 _ (fun z => h2 (hm2.mp z))
    repeat' first
      | (refine V_icmp_eq.mpr ?_; first | rw [if_pos (by omega)] | rw [if_neg (by omega)] | split)
      | (refine V_icmp_ne.mpr ?_; first | rw [if_pos (by omega)] | rw [if_neg (by omega)] | split)
      | (refine V_if_eq.mpr ?_; first | rw [if_pos (by omega)] | rw [if_neg (by omega)] | split)
      | (refine V_if_ne.mpr ?_; first | rw [if_pos (by omega)] | rw [if_neg (by omega)] | split)
      | (simp (disch := (first | omega | (simp (disch := omega) only [up_f, up_s, up_i, up_k, up_e]; omega))) only [up_f, up_s, up_i, up_k, up_e, V_iconst, V_bipush, V_sipush, V_conti, V_contn, V_goto, Option.some.injEq, exists_eq_left', true_and, and_true, m_fit, Option.isSome_some, List.map_nil, List.map_cons, List.sum_nil, List.sum_cons, List.all_nil, List.all_cons, m_cat, decide_true, Bool.and_true, Bool.true_and, Nat.zero_le, Int.toNat_natCast, Int.reduceAdd, Int.reduceSub, Int.reduceMul, Int.reduceNeg, Int.reduceLE, Int.reduceLT, Nat.reduceAdd, Nat.reduceLeDiff, Int.reduceToNat, Int.reduceEq, decide_eq_true_eq, true_or, or_true, exists_and_left, and_self, Nat.reduceMul, Nat.reduceSub, Nat.reduceLT, m_oa, Nat.reduceEqDiff, or_false, false_or, Sum.inl.injEq, Sum.inr.injEq, ↓reduceIte, ne_eq, not_false_eq_true, Int.reduceNe, exists_eq_left, D_137, R_137, X_137, I_137_251, J_137_5, J_137_13, J_137_17, J_137_23, J_137_28, F_137_89, J_137_38, J_137_48, J_137_52, J_137_63, I_137_254, F_137_92, I_137_233, J_137_93, J_137_117, J_137_121, J_137_129, J_137_140, J_137_144, J_137_149, J_137_153, J_137_158, J_137_162, I_137_167, V_aloadn0, V_iloadn1, T_10, V_iloadn2, V_istoren3, V_iloadn3, G_10_31, A_323, T_a323, B_323, U_iaload, V_istore4, V_istore5, V_iload4, G_10_32, A_324, T_a324, B_324, V_idiv, V_iload5, V_pop_vI, b_137_0, b_137_20, b_137_21, b_137_55, b_137_56, b_137_124, b_137_125, b_137_138, b_137_147, b_137_156, b_137_165, b_137_166, in1, in0, st1, st0, tr1, tr0, co1, co0, pe1, pe0, refu0, refu1, hne, a4, a5, d4, d5, h136, w1, w2, w3, w4, i1, i2, hq1, hq2, m_div_eq, hna, hnb, h136b, e2])
    all_goals first | exact ⟨rfl, rfl⟩ | rfl
end V
