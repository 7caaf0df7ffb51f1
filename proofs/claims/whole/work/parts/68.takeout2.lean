/-! ===== a coach is taken out (class and model) ===== -/
def FPe (S S2 : Sg) : Prop := ∀ f i j, peF f = false → S2 f i j = S f i j
theorem FPe_refl {S : Sg} : FPe S S := fun _ _ _ _ => rfl
theorem FPe_trans {S S1 S2 : Sg} (h : FPe S S1) (k : FPe S1 S2) : FPe S S2 := fun f i j hf => (k f i j hf).trans (h f i j hf)
theorem FPe_up {S S2 : Sg} {F I K : Nat} {a : Int} (h : FPe S S2) (hF : peF F = true) : FPe S (up S2 F I K a) := fun f i j hf => by
  rw [up_f (fun z => by rw [z, hF] at hf; cases hf)]
  exact h f i j hf
theorem bed_eq {S B : Sg} {P i k r : Nat} (h : PPx S B P) (hi : i < P) (hk : k < 10) (hr : r < 6) : bedI S i k r = bedB B (B 73 0 i) (18 * k + 3 * r) := by
  have hP := h.1
  have q := (h.2.1 i (by omega)).2.2.1
  have e := fb_c (f := fun b => S 40 0 (18 * k + 3 * r + b)) (g := fun b => B 78 0 (18 * k + 3 * r + b)) (fun a ha => (h.2.2.2.1 k r a hk hr ha).1)
  unfold bedI bedB
  rw [q, e.1, e.2]
/-- may the coach k take those of the coach c? class beside model -/
def PL (S B : Sg) (c : Nat) : Prop := ∀ k, k < 10 → ((S 1108 k 0 = 0 ∧ S 1103 c 0 ≤ S 1103 k 0 ∧ 0 < S 1109 k 0 ∧ 0 < S 1109 c 0 ∧ S 20 k 0 = S 20 c 0 ∧ S 21 k 0 = S 21 c 0) ↔ rep B k c)
theorem PL_ext {S S2 B B2 : Sg} {c : Nat} (h : PL S B c) (k1 : FPe S S2) (k2 : ∀ f j, stF f → B2 f 0 j = B f 0 j) : PL S2 B2 c := fun k hk => by
  unfold rep
  rw [k1 1108 _ _ rfl, k1 1103 _ _ rfl, k1 1103 _ _ rfl, k1 1109 _ _ rfl, k1 1109 _ _ rfl, k1 20 _ _ rfl, k1 20 _ _ rfl, k1 21 _ _ rfl, k1 21 _ _ rfl, k2 69 _ (Or.inl (by decide)), k2 69 _ (Or.inl (by decide)), k2 68 _ (Or.inl (by decide)), k2 63 _ (Or.inl (by decide)), k2 63 _ (Or.inl (by decide)), k2 70 _ (Or.inl (by decide)), k2 70 _ (Or.inl (by decide)), k2 61 _ (Or.inl (by decide)), k2 61 _ (Or.inl (by decide))]
  exact h k hk
section V
variable {xs : Nat → Int32} {L : Nat} {e : Nat}
theorem k_95 {S B : Sg} {P i c C : Nat} {Q : MOut → MHp → Prop} (h : PPx S B P) (hi : i < P) (hn : nwh S B i) (h75 : B 75 0 i = 0) (hC : S 1405 0 0 = C) (hC10 : C ≤ 10) (hc : c < 10) (pl : PL S B c)
    (K0 : (∀ j, j < C → ¬ tkc B i c j) → Q (.inl (some (vI 0))) (mk S e)) (K1 : ∀ (k : Nat) (S2 : Sg), k < C → tkc B i c k → (∀ j, j < k → ¬ tkc B i c j) → PPx S2 (sla B i k) P → FPe S S2 → Q (.inl (some (vI 1))) (mk S2 e)) : ∀ (z k : Nat) (kk : Int) (v : MV), k + z = C → kk = k → (∀ j, j < k → ¬ tkc B i c j) → m_ok xs L 95 b_95_2 [vR 0, vR (pe i), vR (co c), vI kk, v] [] (mk S e) Q
  | 0, k, kk, v, hz, hkk, hno => by
    have hk : k = C := by omega
    subst hk
    subst hkk
    have k0 := K0 hno
    unfold b_95_2
    repeat' first
      | (refine V_icmp_eq.mpr ?_; first | rw [if_pos (by omega)] | rw [if_neg (by omega)] | split)
      | (refine V_icmp_ge.mpr ?_; first | rw [if_pos (by omega)] | rw [if_neg (by omega)] | split)
      | (refine V_if_eq.mpr ?_; first | rw [if_pos (by omega)] | rw [if_neg (by omega)] | split)
      | (simp (disch := (first | omega | (simp (disch := omega) only [up_f, up_s, up_i, up_k, up_e]; omega))) only [up_f, up_s, up_i, up_k, up_e, V_iconst, V_bipush, V_sipush, V_conti, V_contn, V_goto, Option.some.injEq, exists_eq_left', true_and, and_true, m_fit, Option.isSome_some, List.map_nil, List.map_cons, List.sum_nil, List.sum_cons, List.all_nil, List.all_cons, m_cat, decide_true, Bool.and_true, Bool.true_and, Nat.zero_le, Int.toNat_natCast, Int.reduceAdd, Int.reduceSub, Int.reduceMul, Int.reduceNeg, Int.reduceLE, Int.reduceLT, Nat.reduceAdd, Nat.reduceLeDiff, Int.reduceToNat, Int.reduceEq, decide_eq_true_eq, true_or, or_true, exists_and_left, and_self, Nat.reduceMul, Nat.reduceSub, Nat.reduceLT, m_oa, Nat.reduceEqDiff, or_false, false_or, Sum.inl.injEq, Sum.inr.injEq, ↓reduceIte, ne_eq, not_false_eq_true, Int.reduceNe, exists_eq_left, D_95, R_95, X_95, F_95_10, F_95_110, J_95_10, F_95_149, I_95_332, J_95_26, F_95_34, F_95_195, F_95_203, I_95_185, J_95_50, I_95_206, J_95_69, V_istoren3, V_iloadn3, V_aloadn0, G_9_0, G_4_5, G_4_4, A_4, T_a4, U_aaload, V_aloadn2, T_1, G_9_4, V_aloadn1, G_3_1, G_3_3, T_0, V_istore4, V_iload4, V_iinc3, m_add_eq, b_95_0, b_95_66, b_95_72, hC])
    all_goals exact k0
  | z + 1, k, kk, v, hz, hkk, hno => by
    subst hkk
    have hP := h.1
    have hk10 : k < 10 := by omega
    have hkC : k < C := by omega
    have q2 := h.2.1 i (by omega)
    have h16 := s_16 (xs := xs) (L := L) (S := S) (e := e) hk10 hc
    have h3 := s_3 (xs := xs) (L := L) (S := S) (e := e) (c := k) (w := S 1301 i 0) (p := S 1303 i 0) hk10 (bed_40 h)
    rw [q2.2.1, q2.2.2.2.1, rf_eq h hk10 q2.2.2.2.2.2.1 q2.2.2.2.2.2.2.2.2.1] at h3
    have h1301 := q2.2.1
    have h1303 := q2.2.2.2.1
    have hw01 := q2.2.2.2.2.2.1
    by_cases hr : rep B k c
    · have hcond := (pl k hk10).mpr hr
      have i16 : ∀ Q, m_do xs L 16 [vR (co k), vR (co c)] (mk S e) Q ↔ Q (.inl (some (vI 1))) (mk S e) := fun Q => by rw [h16, if_pos hcond]
      by_cases hf : rfM B k (B 72 0 i) (B 74 0 i) = -1
      · have kk := fun v => k_95 h hi hn h75 hC hC10 hc pl K0 K1 z (k + 1) ((k : Int) + 1) v (by omega) (by omega) (fun j hj => by
          by_cases hjk : j = k
          · subst hjk; exact fun z => z.2 hf
          · exact hno j (by omega))
        unfold b_95_2
        repeat' first
          | (refine V_icmp_eq.mpr ?_; first | rw [if_pos (by omega)] | rw [if_neg (by omega)] | split)
          | (refine V_icmp_ge.mpr ?_; first | rw [if_pos (by omega)] | rw [if_neg (by omega)] | split)
          | (refine V_if_eq.mpr ?_; first | rw [if_pos (by omega)] | rw [if_neg (by omega)] | split)
          | (simp (disch := (first | omega | (simp (disch := omega) only [up_f, up_s, up_i, up_k, up_e]; omega))) only [up_f, up_s, up_i, up_k, up_e, V_iconst, V_bipush, V_sipush, V_conti, V_contn, V_goto, Option.some.injEq, exists_eq_left', true_and, and_true, m_fit, Option.isSome_some, List.map_nil, List.map_cons, List.sum_nil, List.sum_cons, List.all_nil, List.all_cons, m_cat, decide_true, Bool.and_true, Bool.true_and, Nat.zero_le, Int.toNat_natCast, Int.reduceAdd, Int.reduceSub, Int.reduceMul, Int.reduceNeg, Int.reduceLE, Int.reduceLT, Nat.reduceAdd, Nat.reduceLeDiff, Int.reduceToNat, Int.reduceEq, decide_eq_true_eq, true_or, or_true, exists_and_left, and_self, Nat.reduceMul, Nat.reduceSub, Nat.reduceLT, m_oa, Nat.reduceEqDiff, or_false, false_or, Sum.inl.injEq, Sum.inr.injEq, ↓reduceIte, ne_eq, not_false_eq_true, Int.reduceNe, exists_eq_left, D_95, R_95, X_95, F_95_10, F_95_110, J_95_10, F_95_149, I_95_332, J_95_26, F_95_34, F_95_195, F_95_203, I_95_185, J_95_50, I_95_206, J_95_69, V_istoren3, V_iloadn3, V_aloadn0, G_9_0, G_4_5, G_4_4, A_4, T_a4, U_aaload, V_aloadn2, T_1, G_9_4, V_aloadn1, G_3_1, G_3_3, T_0, V_istore4, V_iload4, V_iinc3, m_add_eq, b_95_0, b_95_66, b_95_72, hC, i16, h1301, h1303, h3, hf])
        exact kk _
      · obtain ⟨s1, s2, s3, s4, s5, s6⟩ := sla_ok h hi hk10 hf
        have hbed := bed_eq h hi hk10 s1
        rw [s4] at hbed
        have h6 := s_6 (xs := xs) (L := L) (S := S) (e := e) (show i < 40 by omega) hk10 s1 s3 hbed
        rw [q2.1] at h6
        have hfin := K1 k _ hkC ⟨hr, hf⟩ hno (PP_place h hi hn h75 hk10 s1 s3 s5 s6) (FPe_up (FPe_up (FPe_up (FPe_up FPe_refl rfl) rfl) rfl) rfl)
        have hr0 : ¬ (slR B i k : Int) = -1 := by omega
        unfold b_95_2
        repeat' first
          | (refine V_icmp_eq.mpr ?_; first | rw [if_pos (by omega)] | rw [if_neg (by omega)] | split)
          | (refine V_icmp_ge.mpr ?_; first | rw [if_pos (by omega)] | rw [if_neg (by omega)] | split)
          | (refine V_if_eq.mpr ?_; first | rw [if_pos (by omega)] | rw [if_neg (by omega)] | split)
          | (simp (disch := (first | omega | (simp (disch := omega) only [up_f, up_s, up_i, up_k, up_e]; omega))) only [up_f, up_s, up_i, up_k, up_e, V_iconst, V_bipush, V_sipush, V_conti, V_contn, V_goto, Option.some.injEq, exists_eq_left', true_and, and_true, m_fit, Option.isSome_some, List.map_nil, List.map_cons, List.sum_nil, List.sum_cons, List.all_nil, List.all_cons, m_cat, decide_true, Bool.and_true, Bool.true_and, Nat.zero_le, Int.toNat_natCast, Int.reduceAdd, Int.reduceSub, Int.reduceMul, Int.reduceNeg, Int.reduceLE, Int.reduceLT, Nat.reduceAdd, Nat.reduceLeDiff, Int.reduceToNat, Int.reduceEq, decide_eq_true_eq, true_or, or_true, exists_and_left, and_self, Nat.reduceMul, Nat.reduceSub, Nat.reduceLT, m_oa, Nat.reduceEqDiff, or_false, false_or, Sum.inl.injEq, Sum.inr.injEq, ↓reduceIte, ne_eq, not_false_eq_true, Int.reduceNe, exists_eq_left, D_95, R_95, X_95, F_95_10, F_95_110, J_95_10, F_95_149, I_95_332, J_95_26, F_95_34, F_95_195, F_95_203, I_95_185, J_95_50, I_95_206, J_95_69, V_istoren3, V_iloadn3, V_aloadn0, G_9_0, G_4_5, G_4_4, A_4, T_a4, U_aaload, V_aloadn2, T_1, G_9_4, V_aloadn1, G_3_1, G_3_3, T_0, V_istore4, V_iload4, V_iinc3, m_add_eq, b_95_0, b_95_66, b_95_72, hC, i16, h1301, h1303, h3, s2, h6])
        all_goals exact hfin
    · have i16 : ∀ Q, m_do xs L 16 [vR (co k), vR (co c)] (mk S e) Q ↔ Q (.inl (some (vI 0))) (mk S e) := fun Q => by rw [h16, if_neg (fun z => hr ((pl k hk10).mp z))]
      have kk := fun v => k_95 h hi hn h75 hC hC10 hc pl K0 K1 z (k + 1) ((k : Int) + 1) v (by omega) (by omega) (fun j hj => by
          by_cases hjk : j = k
          · subst hjk; exact fun z => hr z.1
          · exact hno j (by omega))
      unfold b_95_2
      repeat' first
        | (refine V_icmp_eq.mpr ?_; first | rw [if_pos (by omega)] | rw [if_neg (by omega)] | split)
        | (refine V_icmp_ge.mpr ?_; first | rw [if_pos (by omega)] | rw [if_neg (by omega)] | split)
        | (refine V_if_eq.mpr ?_; first | rw [if_pos (by omega)] | rw [if_neg (by omega)] | split)
        | (simp (disch := (first | omega | (simp (disch := omega) only [up_f, up_s, up_i, up_k, up_e]; omega))) only [up_f, up_s, up_i, up_k, up_e, V_iconst, V_bipush, V_sipush, V_conti, V_contn, V_goto, Option.some.injEq, exists_eq_left', true_and, and_true, m_fit, Option.isSome_some, List.map_nil, List.map_cons, List.sum_nil, List.sum_cons, List.all_nil, List.all_cons, m_cat, decide_true, Bool.and_true, Bool.true_and, Nat.zero_le, Int.toNat_natCast, Int.reduceAdd, Int.reduceSub, Int.reduceMul, Int.reduceNeg, Int.reduceLE, Int.reduceLT, Nat.reduceAdd, Nat.reduceLeDiff, Int.reduceToNat, Int.reduceEq, decide_eq_true_eq, true_or, or_true, exists_and_left, and_self, Nat.reduceMul, Nat.reduceSub, Nat.reduceLT, m_oa, Nat.reduceEqDiff, or_false, false_or, Sum.inl.injEq, Sum.inr.injEq, ↓reduceIte, ne_eq, not_false_eq_true, Int.reduceNe, exists_eq_left, D_95, R_95, X_95, F_95_10, F_95_110, J_95_10, F_95_149, I_95_332, J_95_26, F_95_34, F_95_195, F_95_203, I_95_185, J_95_50, I_95_206, J_95_69, V_istoren3, V_iloadn3, V_aloadn0, G_9_0, G_4_5, G_4_4, A_4, T_a4, U_aaload, V_aloadn2, T_1, G_9_4, V_aloadn1, G_3_1, G_3_3, T_0, V_istore4, V_iload4, V_iinc3, m_add_eq, b_95_0, b_95_66, b_95_72, hC, i16])
      exact kk _
theorem r_95 {S B : Sg} {P i c C : Nat} (h : PPx S B P) (hi : i < P) (hn : nwh S B i) (h75 : B 75 0 i = 0) (hC : S 1405 0 0 = C) (hC10 : C ≤ 10) (hc : c < 10) (pl : PL S B c) :
    (lo (tkc B i c) C = -1 ∧ ∀ Q, m_do xs L 95 [vR 0, vR (pe i), vR (co c)] (mk S e) Q ↔ Q (.inl (some (vI 0))) (mk S e)) ∨
    (¬ lo (tkc B i c) C = -1 ∧ ∃ S2, (PPx S2 (sla B i (lo (tkc B i c) C).toNat) P ∧ FPe S S2) ∧ ∀ Q, m_do xs L 95 [vR 0, vR (pe i), vR (co c)] (mk S e) Q ↔ Q (.inl (some (vI 1))) (mk S2 e)) := by
  rcases lo_spec (p := tkc B i c) C with ⟨z1, z2⟩ | ⟨j, z1, z2, z3, z4⟩
  · refine Or.inl ⟨z1, fun Q => m_do_eq ?_ Q⟩
    repeat' first
      | (refine V_icmp_eq.mpr ?_; first | rw [if_pos (by omega)] | rw [if_neg (by omega)] | split)
      | (refine V_icmp_ge.mpr ?_; first | rw [if_pos (by omega)] | rw [if_neg (by omega)] | split)
      | (refine V_if_eq.mpr ?_; first | rw [if_pos (by omega)] | rw [if_neg (by omega)] | split)
      | (simp (disch := (first | omega | (simp (disch := omega) only [up_f, up_s, up_i, up_k, up_e]; omega))) only [up_f, up_s, up_i, up_k, up_e, V_iconst, V_bipush, V_sipush, V_conti, V_contn, V_goto, Option.some.injEq, exists_eq_left', true_and, and_true, m_fit, Option.isSome_some, List.map_nil, List.map_cons, List.sum_nil, List.sum_cons, List.all_nil, List.all_cons, m_cat, decide_true, Bool.and_true, Bool.true_and, Nat.zero_le, Int.toNat_natCast, Int.reduceAdd, Int.reduceSub, Int.reduceMul, Int.reduceNeg, Int.reduceLE, Int.reduceLT, Nat.reduceAdd, Nat.reduceLeDiff, Int.reduceToNat, Int.reduceEq, decide_eq_true_eq, true_or, or_true, exists_and_left, and_self, Nat.reduceMul, Nat.reduceSub, Nat.reduceLT, m_oa, Nat.reduceEqDiff, or_false, false_or, Sum.inl.injEq, Sum.inr.injEq, ↓reduceIte, ne_eq, not_false_eq_true, Int.reduceNe, exists_eq_left, D_95, R_95, X_95, F_95_10, F_95_110, J_95_10, F_95_149, I_95_332, J_95_26, F_95_34, F_95_195, F_95_203, I_95_185, J_95_50, I_95_206, J_95_69, V_istoren3, V_iloadn3, V_aloadn0, G_9_0, G_4_5, G_4_4, A_4, T_a4, U_aaload, V_aloadn2, T_1, G_9_4, V_aloadn1, G_3_1, G_3_3, T_0, V_istore4, V_iload4, V_iinc3, m_add_eq, b_95_0, b_95_66, b_95_72])
    exact k_95 h hi hn h75 hC hC10 hc pl (fun _ => ⟨rfl, rfl⟩) (fun k S2 k1 k2 _ _ _ => absurd k2 (z2 k k1)) C 0 0 _ (by omega) rfl (fun j hj => by omega)
  · refine Or.inr ⟨by omega, m_do_ex ?_⟩
    rw [z2, Int.toNat_natCast]
    repeat' first
      | (refine V_icmp_eq.mpr ?_; first | rw [if_pos (by omega)] | rw [if_neg (by omega)] | split)
      | (refine V_icmp_ge.mpr ?_; first | rw [if_pos (by omega)] | rw [if_neg (by omega)] | split)
      | (refine V_if_eq.mpr ?_; first | rw [if_pos (by omega)] | rw [if_neg (by omega)] | split)
      | (simp (disch := (first | omega | (simp (disch := omega) only [up_f, up_s, up_i, up_k, up_e]; omega))) only [up_f, up_s, up_i, up_k, up_e, V_iconst, V_bipush, V_sipush, V_conti, V_contn, V_goto, Option.some.injEq, exists_eq_left', true_and, and_true, m_fit, Option.isSome_some, List.map_nil, List.map_cons, List.sum_nil, List.sum_cons, List.all_nil, List.all_cons, m_cat, decide_true, Bool.and_true, Bool.true_and, Nat.zero_le, Int.toNat_natCast, Int.reduceAdd, Int.reduceSub, Int.reduceMul, Int.reduceNeg, Int.reduceLE, Int.reduceLT, Nat.reduceAdd, Nat.reduceLeDiff, Int.reduceToNat, Int.reduceEq, decide_eq_true_eq, true_or, or_true, exists_and_left, and_self, Nat.reduceMul, Nat.reduceSub, Nat.reduceLT, m_oa, Nat.reduceEqDiff, or_false, false_or, Sum.inl.injEq, Sum.inr.injEq, ↓reduceIte, ne_eq, not_false_eq_true, Int.reduceNe, exists_eq_left, D_95, R_95, X_95, F_95_10, F_95_110, J_95_10, F_95_149, I_95_332, J_95_26, F_95_34, F_95_195, F_95_203, I_95_185, J_95_50, I_95_206, J_95_69, V_istoren3, V_iloadn3, V_aloadn0, G_9_0, G_4_5, G_4_4, A_4, T_a4, U_aaload, V_aloadn2, T_1, G_9_4, V_aloadn1, G_3_1, G_3_3, T_0, V_istore4, V_iload4, V_iinc3, m_add_eq, b_95_0, b_95_66, b_95_72])
    refine k_95 h hi hn h75 hC hC10 hc pl (fun hz => absurd z3 (hz j z1)) (fun k S2 k1 k2 k3 k4 k5 => ?_) C 0 0 _ (by omega) rfl (fun j hj => by omega)
    have hkj : k = j := by
      have : ¬ k < j := fun z => z4 k z k2
      have : ¬ j < k := fun z => k3 j z z3
      omega
    subst hkj
    exact ⟨rfl, S2, rfl, k4, k5⟩
theorem k_94 {S0 B : Sg} {P c C : Nat} {Q : MOut → MHp → Prop} (hC10 : C ≤ 10) (hc : c < 10) (hP0 : S0 1001 0 0 = P) (hC0 : S0 1405 0 0 = C) (h1100 : S0 1100 c 0 = c) (h1109 : S0 1109 c 0 = B 69 0 c) (h69 : 0 ≤ B 69 0 c ∧ B 69 0 c ≤ 3) (pl0 : PL S0 B c)
    (K : ∀ S2 : Sg, PPx S2 (tkA B c C P).1 P → FPe S0 S2 → Q (.inl (some (vI (tkA B c C P).2))) (mk S2 e)) : ∀ (z i : Nat) (ll ii : Int) (v : MV) (S : Sg), i + z = P → ii = i → ll = (tkA B c C i).2 → PPx S (tkA B c C i).1 P → FPe S0 S → m_ok xs L 94 b_94_4 [vR 0, vR (co c), vI ll, vI ii, v] [] (mk S e) Q
  | 0, i, ll, ii, v, S, hz, hii, hll, h, fp => by
    have hi : i = P := by omega
    subst hi
    subst hii hll
    have hP : S 1001 0 0 = i := by rw [fp 1001 _ _ rfl]; exact hP0
    have kk := K S h fp
    unfold b_94_4
    repeat' first
      | (refine V_icmp_ge.mpr ?_; first | rw [if_pos (by omega)] | rw [if_neg (by omega)] | split)
      | (refine V_icmp_ne.mpr ?_; first | rw [if_pos (by omega)] | rw [if_neg (by omega)] | split)
      | (refine V_if_ne.mpr ?_; first | rw [if_pos (by omega)] | rw [if_neg (by omega)] | split)
      | (simp (disch := (first | omega | (simp (disch := omega) only [up_f, up_s, up_i, up_k, up_e]; omega))) only [up_f, up_s, up_i, up_k, up_e, V_iconst, V_bipush, V_sipush, V_conti, V_contn, V_goto, Option.some.injEq, exists_eq_left', true_and, and_true, m_fit, Option.isSome_some, List.map_nil, List.map_cons, List.sum_nil, List.sum_cons, List.all_nil, List.all_cons, m_cat, decide_true, Bool.and_true, Bool.true_and, Nat.zero_le, Int.toNat_natCast, Int.reduceAdd, Int.reduceSub, Int.reduceMul, Int.reduceNeg, Int.reduceLE, Int.reduceLT, Nat.reduceAdd, Nat.reduceLeDiff, Int.reduceToNat, Int.reduceEq, decide_eq_true_eq, true_or, or_true, exists_and_left, and_self, Nat.reduceMul, Nat.reduceSub, Nat.reduceLT, m_oa, Nat.reduceEqDiff, or_false, false_or, Sum.inl.injEq, Sum.inr.injEq, ↓reduceIte, ne_eq, not_false_eq_true, Int.reduceNe, exists_eq_left, D_94, R_94, X_94, F_94_34, F_94_180, J_94_12, F_94_214, F_94_218, F_94_143, J_94_35, I_94_229, I_94_324, J_94_54, F_94_153, I_94_328, J_94_79, V_istoren2, V_istoren3, V_iloadn3, V_aloadn0, G_9_4, G_0_1, G_0_0, A_254, T_a254, U_aaload, V_astore4, V_aload4, G_3_4, V_aloadn1, G_1_0, T_0, T_9, G_1_9, V_imul, m_mul_eq, V_iinc2, m_add_eq, V_iinc3, V_iloadn2, b_94_0, b_94_76, b_94_82, hP])
    all_goals exact kk
  | z + 1, i, ll, ii, v, S, hz, hii, hll, h, fp => by
    subst hii hll
    have hP40 := h.1
    have hiP : i < P := by omega
    have hP : S 1001 0 0 = P := by rw [fp 1001 _ _ rfl]; exact hP0
    have hC : S 1405 0 0 = C := by rw [fp 1405 _ _ rfl]; exact hC0
    have h11 : S 1100 c 0 = c := by rw [fp 1100 _ _ rfl]; exact h1100
    have h09 : S 1109 c 0 = B 69 0 c := by rw [fp 1109 _ _ rfl]; exact h1109
    have hst : ∀ f j, stF f → (tkA B c C i).1 f 0 j = B f 0 j := fun f j hf => tkA_f hf i
    have pl : PL S (tkA B c C i).1 c := PL_ext pl0 fp hst
    have e69 : (tkA B c C i).1 69 0 c = B 69 0 c := hst 69 _ (Or.inl (by decide))
    have t2 := tkA_2 (B := B) (c := c) (C := C) i
    have e1 : (tkA B c C (i + 1)).1 = (tkS (tkA B c C i).1 c C i).1 := rfl
    have e2 : (tkA B c C (i + 1)).2 = (tkA B c C i).2 + (tkS (tkA B c C i).1 c C i).2 := rfl
    generalize hBi : (tkA B c C i).1 = Bi at *
    by_cases hcc : Bi 76 0 i = c
    · obtain ⟨h75, r, b, ha, hp⟩ := at_of h hiP hcc
      have hf := PP_free h hiP ha
      rw [← fre_eq hp] at hf
      have h8 := s_8 (xs := xs) (L := L) (S := S) (e := e) (show i < 40 by omega) hc ha.2.1 ha.2.2.1 ha.2.2.2.2.2.1 ha.2.2.2.2.2.2.1 ha.2.2.2.2.2.2.2.1
      have h1304 := ha.2.2.2.2.2.1
      have fp1 : FPe S (up (up (up (up S 40 0 (18 * c + 3 * r + b) (-1)) 1304 i 0 (-1)) 1305 i 0 (-1)) 1306 i 0 (-1)) := FPe_up (FPe_up (FPe_up (FPe_up FPe_refl rfl) rfl) rfl) rfl
      generalize hS1 : up (up (up (up S 40 0 (18 * c + 3 * r + b) (-1)) 1304 i 0 (-1)) 1305 i 0 (-1)) 1306 i 0 (-1) = S1 at *
      have hn : nwh S1 (fre Bi i) i := by
        rw [fre_eq hp, ← hS1]
        unfold nwh
        simp (disch := omega) only [up_f, up_s]
        exact ⟨trivial, trivial, trivial, trivial⟩
      have hfst : ∀ f j, stF f → fre Bi i f 0 j = Bi f 0 j := fun f j hf9 => by
        unfold stF at hf9
        rw [fre_eq hp, up_f (by omega), up_f (by omega)]
      have e75 : fre Bi i 75 0 i = 0 := by
        rw [fre_eq hp]
        simp (disch := omega) only [up_f]
        exact h75
      have pl1 : PL S1 (fre Bi i) c := PL_ext pl fp1 hfst
      have g09 : S1 1109 c 0 = B 69 0 c := by rw [fp1 1109 _ _ rfl]; exact h09
      rcases r_95 (xs := xs) (L := L) (e := e) hf hiP hn e75 (by rw [fp1 1405 _ _ rfl]; exact hC) hC10 hc pl1 with ⟨z1, i95⟩ | ⟨z1, S2, ⟨z2, z3⟩, i95⟩
      · have q1 := hf.2.1 i (by omega)
        have q5 := hf.2.2.2.2.1
        have qr := psum_ran hf.2.1 P hP40
        have h9 := s_9 (xs := xs) (L := L) (S := S1) (e := e) (p := i) (m := 50 * B 69 0 c) (by omega) (by rw [q1.2.2.2.2.1, e75]; omega) (by rw [q5]; omega)
        have hT : tkS Bi c C i = (up (fre Bi i) 75 0 i (fre Bi i 75 0 i + 50 * Bi 69 0 c), 1) := by
          unfold tkS
          rw [if_pos hcc, if_pos z1]
        rw [hT, e69] at e1
        rw [hT] at e2
        have hpay := PP_pay hf hiP hn (v := 50 * B 69 0 c) (by omega) e75
        have e1b : (tkA B c C (i + 1)).1 = up (fre Bi i) 75 0 i (fre Bi i 75 0 i + 50 * B 69 0 c) := e1
        rw [← e1b] at hpay
        have kk := fun v => k_94 hC10 hc hP0 hC0 h1100 h1109 h69 pl0 K z (i + 1) ((tkA B c C i).2 + 1) ((i : Int) + 1) v _ (by omega) (by omega) e2.symm hpay (FPe_trans fp (FPe_up (FPe_up fp1 rfl) rfl))
        unfold b_94_4
        repeat' first
          | (refine V_icmp_ge.mpr ?_; first | rw [if_pos (by omega)] | rw [if_neg (by omega)] | split)
          | (refine V_icmp_ne.mpr ?_; first | rw [if_pos (by omega)] | rw [if_neg (by omega)] | split)
          | (refine V_if_ne.mpr ?_; first | rw [if_pos (by omega)] | rw [if_neg (by omega)] | split)
          | (simp (disch := (first | omega | (simp (disch := omega) only [up_f, up_s, up_i, up_k, up_e]; omega))) only [up_f, up_s, up_i, up_k, up_e, V_iconst, V_bipush, V_sipush, V_conti, V_contn, V_goto, Option.some.injEq, exists_eq_left', true_and, and_true, m_fit, Option.isSome_some, List.map_nil, List.map_cons, List.sum_nil, List.sum_cons, List.all_nil, List.all_cons, m_cat, decide_true, Bool.and_true, Bool.true_and, Nat.zero_le, Int.toNat_natCast, Int.reduceAdd, Int.reduceSub, Int.reduceMul, Int.reduceNeg, Int.reduceLE, Int.reduceLT, Nat.reduceAdd, Nat.reduceLeDiff, Int.reduceToNat, Int.reduceEq, decide_eq_true_eq, true_or, or_true, exists_and_left, and_self, Nat.reduceMul, Nat.reduceSub, Nat.reduceLT, m_oa, Nat.reduceEqDiff, or_false, false_or, Sum.inl.injEq, Sum.inr.injEq, ↓reduceIte, ne_eq, not_false_eq_true, Int.reduceNe, exists_eq_left, D_94, R_94, X_94, F_94_34, F_94_180, J_94_12, F_94_214, F_94_218, F_94_143, J_94_35, I_94_229, I_94_324, J_94_54, F_94_153, I_94_328, J_94_79, V_istoren2, V_istoren3, V_iloadn3, V_aloadn0, G_9_4, G_0_1, G_0_0, A_254, T_a254, U_aaload, V_astore4, V_aload4, G_3_4, V_aloadn1, G_1_0, T_0, T_9, G_1_9, V_imul, m_mul_eq, V_iinc2, m_add_eq, V_iinc3, V_iloadn2, b_94_0, b_94_76, b_94_82, hP, h11, h1304, h8, i95, g09, h9])
        exact kk _
      · have hT : tkS Bi c C i = (sla (fre Bi i) i (lo (tkc (fre Bi i) i c) C).toNat, 0) := by
          unfold tkS
          rw [if_pos hcc, if_neg z1]
        rw [hT] at e1 e2
        have e1b : (tkA B c C (i + 1)).1 = sla (fre Bi i) i (lo (tkc (fre Bi i) i c) C).toNat := e1
        rw [← e1b] at z2
        have kk := fun v => k_94 hC10 hc hP0 hC0 h1100 h1109 h69 pl0 K z (i + 1) (tkA B c C i).2 ((i : Int) + 1) v S2 (by omega) (by omega) (by rw [e2]; omega) z2 (FPe_trans fp (FPe_trans fp1 z3))
        unfold b_94_4
        repeat' first
          | (refine V_icmp_ge.mpr ?_; first | rw [if_pos (by omega)] | rw [if_neg (by omega)] | split)
          | (refine V_icmp_ne.mpr ?_; first | rw [if_pos (by omega)] | rw [if_neg (by omega)] | split)
          | (refine V_if_ne.mpr ?_; first | rw [if_pos (by omega)] | rw [if_neg (by omega)] | split)
          | (simp (disch := (first | omega | (simp (disch := omega) only [up_f, up_s, up_i, up_k, up_e]; omega))) only [up_f, up_s, up_i, up_k, up_e, V_iconst, V_bipush, V_sipush, V_conti, V_contn, V_goto, Option.some.injEq, exists_eq_left', true_and, and_true, m_fit, Option.isSome_some, List.map_nil, List.map_cons, List.sum_nil, List.sum_cons, List.all_nil, List.all_cons, m_cat, decide_true, Bool.and_true, Bool.true_and, Nat.zero_le, Int.toNat_natCast, Int.reduceAdd, Int.reduceSub, Int.reduceMul, Int.reduceNeg, Int.reduceLE, Int.reduceLT, Nat.reduceAdd, Nat.reduceLeDiff, Int.reduceToNat, Int.reduceEq, decide_eq_true_eq, true_or, or_true, exists_and_left, and_self, Nat.reduceMul, Nat.reduceSub, Nat.reduceLT, m_oa, Nat.reduceEqDiff, or_false, false_or, Sum.inl.injEq, Sum.inr.injEq, ↓reduceIte, ne_eq, not_false_eq_true, Int.reduceNe, exists_eq_left, D_94, R_94, X_94, F_94_34, F_94_180, J_94_12, F_94_214, F_94_218, F_94_143, J_94_35, I_94_229, I_94_324, J_94_54, F_94_153, I_94_328, J_94_79, V_istoren2, V_istoren3, V_iloadn3, V_aloadn0, G_9_4, G_0_1, G_0_0, A_254, T_a254, U_aaload, V_astore4, V_aload4, G_3_4, V_aloadn1, G_1_0, T_0, T_9, G_1_9, V_imul, m_mul_eq, V_iinc2, m_add_eq, V_iinc3, V_iloadn2, b_94_0, b_94_76, b_94_82, hP, h11, h1304, h8, i95])
        exact kk _
    · have hT : tkS Bi c C i = (Bi, 0) := by
        unfold tkS
        rw [if_neg hcc]
      rw [hT] at e1 e2
      have h1304 : ¬ S 1304 i 0 = c := by
        rcases h.2.2.1 i hiP with z | ⟨_, c2, r, b, z⟩
        · have := z.2.1; omega
        · have h1 := z.2.2.2.1
          have h2 := z.2.2.2.2.2.1
          omega
      have kk := fun v => k_94 hC10 hc hP0 hC0 h1100 h1109 h69 pl0 K z (i + 1) (tkA B c C i).2 ((i : Int) + 1) v S (by omega) (by omega) (by rw [e2]; omega) (by rw [e1]; exact h) fp
      unfold b_94_4
      repeat' first
        | (refine V_icmp_ge.mpr ?_; first | rw [if_pos (by omega)] | rw [if_neg (by omega)] | split)
        | (refine V_icmp_ne.mpr ?_; first | rw [if_pos (by omega)] | rw [if_neg (by omega)] | split)
        | (refine V_if_ne.mpr ?_; first | rw [if_pos (by omega)] | rw [if_neg (by omega)] | split)
        | (simp (disch := (first | omega | (simp (disch := omega) only [up_f, up_s, up_i, up_k, up_e]; omega))) only [up_f, up_s, up_i, up_k, up_e, V_iconst, V_bipush, V_sipush, V_conti, V_contn, V_goto, Option.some.injEq, exists_eq_left', true_and, and_true, m_fit, Option.isSome_some, List.map_nil, List.map_cons, List.sum_nil, List.sum_cons, List.all_nil, List.all_cons, m_cat, decide_true, Bool.and_true, Bool.true_and, Nat.zero_le, Int.toNat_natCast, Int.reduceAdd, Int.reduceSub, Int.reduceMul, Int.reduceNeg, Int.reduceLE, Int.reduceLT, Nat.reduceAdd, Nat.reduceLeDiff, Int.reduceToNat, Int.reduceEq, decide_eq_true_eq, true_or, or_true, exists_and_left, and_self, Nat.reduceMul, Nat.reduceSub, Nat.reduceLT, m_oa, Nat.reduceEqDiff, or_false, false_or, Sum.inl.injEq, Sum.inr.injEq, ↓reduceIte, ne_eq, not_false_eq_true, Int.reduceNe, exists_eq_left, D_94, R_94, X_94, F_94_34, F_94_180, J_94_12, F_94_214, F_94_218, F_94_143, J_94_35, I_94_229, I_94_324, J_94_54, F_94_153, I_94_328, J_94_79, V_istoren2, V_istoren3, V_iloadn3, V_aloadn0, G_9_4, G_0_1, G_0_0, A_254, T_a254, U_aaload, V_astore4, V_aload4, G_3_4, V_aloadn1, G_1_0, T_0, T_9, G_1_9, V_imul, m_mul_eq, V_iinc2, m_add_eq, V_iinc3, V_iloadn2, b_94_0, b_94_76, b_94_82, hP, h11])
      exact kk _
/-- takeOut of the class -/
theorem c_71 {S : Sg} {P c C : Nat} (h : PPx S S P) (hC : S 1405 0 0 = C) (hC10 : C ≤ 10) (hc : c < C) (hP : S 1001 0 0 = P) (h1100 : S 1100 c 0 = c) (h1109 : S 1109 c 0 = S 69 0 c) (h69 : 0 ≤ S 69 0 c ∧ S 69 0 c ≤ 3) (ho : S 1108 c 0 = 0) (hv : 0 ≤ S 1406 0 0 ∧ S 1406 0 0 < 100000) (pl : PL (up S 1108 c 0 1) (up S 68 0 c 1) c) :
    ∃ S2, (PPx S2 (tkA (up S 68 0 c 1) c C P).1 P ∧ FPe (up (up S 1108 c 0 1) 1406 0 0 (S 1406 0 0 + 1)) S2) ∧ ∀ Q, m_do xs L 71 [vR 0, vI c] (mk S e) Q ↔ Q (.inl (some (vI (tkA (up S 68 0 c 1) c C P).2))) (mk S2 e) := by
  have hB : PPx (up (up S 1108 c 0 1) 1406 0 0 (S 1406 0 0 + 1)) (up S 68 0 c 1) P := PP_ext h (fun f i j hf => by
    rw [up_f (fun z => by rw [z] at hf; cases hf), up_f (fun z => by rw [z] at hf; cases hf)]) (fun f j hf => up_f (fun z => by rw [z] at hf; cases hf))
  have pl2 : PL (up (up S 1108 c 0 1) 1406 0 0 (S 1406 0 0 + 1)) (up S 68 0 c 1) c := fun k hk => by
    simp (disch := omega) only [up_f]
    have := pl k hk
    simp (disch := omega) only [up_f] at this
    exact this
  have i94 : ∃ S2, (PPx S2 (tkA (up S 68 0 c 1) c C P).1 P ∧ FPe (up (up S 1108 c 0 1) 1406 0 0 (S 1406 0 0 + 1)) S2) ∧ ∀ Q, m_do xs L 94 [vR 0, vR (co c)] (mk (up (up S 1108 c 0 1) 1406 0 0 (S 1406 0 0 + 1)) e) Q ↔ Q (.inl (some (vI (tkA (up S 68 0 c 1) c C P).2))) (mk S2 e) := by
    refine m_do_ex ?_
    repeat' first
      | (refine V_icmp_ge.mpr ?_; first | rw [if_pos (by omega)] | rw [if_neg (by omega)] | split)
      | (refine V_icmp_ne.mpr ?_; first | rw [if_pos (by omega)] | rw [if_neg (by omega)] | split)
      | (refine V_if_ne.mpr ?_; first | rw [if_pos (by omega)] | rw [if_neg (by omega)] | split)
      | (simp (disch := (first | omega | (simp (disch := omega) only [up_f, up_s, up_i, up_k, up_e]; omega))) only [up_f, up_s, up_i, up_k, up_e, V_iconst, V_bipush, V_sipush, V_conti, V_contn, V_goto, Option.some.injEq, exists_eq_left', true_and, and_true, m_fit, Option.isSome_some, List.map_nil, List.map_cons, List.sum_nil, List.sum_cons, List.all_nil, List.all_cons, m_cat, decide_true, Bool.and_true, Bool.true_and, Nat.zero_le, Int.toNat_natCast, Int.reduceAdd, Int.reduceSub, Int.reduceMul, Int.reduceNeg, Int.reduceLE, Int.reduceLT, Nat.reduceAdd, Nat.reduceLeDiff, Int.reduceToNat, Int.reduceEq, decide_eq_true_eq, true_or, or_true, exists_and_left, and_self, Nat.reduceMul, Nat.reduceSub, Nat.reduceLT, m_oa, Nat.reduceEqDiff, or_false, false_or, Sum.inl.injEq, Sum.inr.injEq, ↓reduceIte, ne_eq, not_false_eq_true, Int.reduceNe, exists_eq_left, D_94, R_94, X_94, F_94_34, F_94_180, J_94_12, F_94_214, F_94_218, F_94_143, J_94_35, I_94_229, I_94_324, J_94_54, F_94_153, I_94_328, J_94_79, V_istoren2, V_istoren3, V_iloadn3, V_aloadn0, G_9_4, G_0_1, G_0_0, A_254, T_a254, U_aaload, V_astore4, V_aload4, G_3_4, V_aloadn1, G_1_0, T_0, T_9, G_1_9, V_imul, m_mul_eq, V_iinc2, m_add_eq, V_iinc3, V_iloadn2, b_94_0, b_94_76, b_94_82])
    refine k_94 (B := up S 68 0 c 1) (P := P) (C := C) hC10 (show c < 10 by omega) (by simp (disch := omega) only [up_f]; exact hP) (by simp (disch := omega) only [up_f]; exact hC) (by simp (disch := omega) only [up_f]; exact h1100) (by simp (disch := omega) only [up_f]; exact h1109) (by simp (disch := omega) only [up_f]; exact h69) pl2 (fun S2 a1 a2 => ⟨rfl, S2, rfl, a1, a2⟩) P 0 0 0 _ _ (by omega) rfl rfl hB FPe_refl
  obtain ⟨S2, a, i94⟩ := i94
  have h91 := s_91 (xs := xs) (L := L) (S := S) (e := e) (a := (c : Int)) (by omega)
  refine ⟨S2, a, fun Q => m_do_eq ?_ Q⟩
  repeat' first
    | (refine V_if_eq.mpr ?_; first | rw [if_pos (by omega)] | rw [if_neg (by omega)] | split)
    | (simp (disch := (first | omega | (simp (disch := omega) only [up_f, up_s, up_i, up_k, up_e]; omega))) only [up_f, up_s, up_i, up_k, up_e, V_iconst, V_bipush, V_sipush, V_conti, V_contn, V_goto, Option.some.injEq, exists_eq_left', true_and, and_true, m_fit, Option.isSome_some, List.map_nil, List.map_cons, List.sum_nil, List.sum_cons, List.all_nil, List.all_cons, m_cat, decide_true, Bool.and_true, Bool.true_and, Nat.zero_le, Int.toNat_natCast, Int.reduceAdd, Int.reduceSub, Int.reduceMul, Int.reduceNeg, Int.reduceLE, Int.reduceLT, Nat.reduceAdd, Nat.reduceLeDiff, Int.reduceToNat, Int.reduceEq, decide_eq_true_eq, true_or, or_true, exists_and_left, and_self, Nat.reduceMul, Nat.reduceSub, Nat.reduceLT, m_oa, Nat.reduceEqDiff, or_false, false_or, Sum.inl.injEq, Sum.inr.injEq, ↓reduceIte, ne_eq, not_false_eq_true, Int.reduceNe, exists_eq_left, D_71, R_71, X_71, I_71_146, F_71_10, F_71_149, F_71_156, J_71_19, N_71_22, W_71_156, F_71_88, W_71_88, I_71_176, V_aloadn0, V_iloadn1, T_9, G_9_0, G_4_4, A_4, T_a4, U_aaload, V_astoren2, V_aloadn2, G_1_8, V_dup_vI, V_dup_vR, P_1_8, G_4_6, V_iadd, m_add_eq, P_4_6, b_71_0, b_71_32, h91, ho, i94])
  all_goals first | exact ⟨rfl, rfl⟩ | rfl
end V
