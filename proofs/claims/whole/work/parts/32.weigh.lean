/-! ===== a train is weighed ===== -/
theorem up_up {S : Sg} {F I K : Nat} {a b : Int} : up (up S F I K a) F I K b = up S F I K b := by
  funext f i k
  simp only [up]
  split <;> rfl
theorem up_comm {S : Sg} {F I K G J M : Nat} {a b : Int} (h : ¬ (F = G ∧ I = J ∧ K = M)) : up (up S F I K a) G J M b = up (up S G J M b) F I K a := by
  funext f i k
  simp only [up]
  split
  · rename_i h1
    rw [if_neg (fun h2 => h ⟨h2.1.symm.trans h1.1, h2.2.1.symm.trans h1.2.1, h2.2.2.symm.trans h1.2.2⟩)]
  · rfl
theorem up4 {S : Sg} {F G I : Nat} {a b a2 b2 : Int} (h : ¬ F = G) : up (up (up (up S F I 0 a) G I 0 b) F I 0 a2) G I 0 b2 = up (up S F I 0 a2) G I 0 b2 := by
  rw [up_comm (S := up S F I 0 a) (F := G) (G := F) (fun z => h z.1.symm), up_up, up_up]
/-- the sum of a field over the coaches of a run -/
def sumC (S : Sg) (W J : Nat) : Nat → Int
  | 0 => 0
  | k + 1 => sumC S W J k + S W (S 31 J k).toNat 0
theorem sumC_ran {S : Sg} {W J n : Nat} (hb : ∀ k, k < n → 0 ≤ S 31 J k ∧ S 31 J k < 10) (hw : ∀ i, i < 10 → 0 ≤ S W i 0 ∧ S W i 0 ≤ 80) : ∀ k, k ≤ n → 0 ≤ sumC S W J k ∧ sumC S W J k ≤ 80 * k
  | 0, _ => by simp [sumC]
  | k + 1, hk => by
    have h1 := sumC_ran hb hw k (by omega)
    have h2 := hb k (by omega)
    have h3 := hw (S 31 J k).toNat (by omega)
    simp only [sumC]
    omega
section V
variable {xs : Nat → Int32} {L : Nat} {S : Sg} {e : Nat}
theorem l_35 {n i l k : Nat} {kk : Int} {v : MV} {Q : MOut → MHp → Prop} (hn : n < 3) (hi : i < 6) (hl : l ≤ 10) (h : S 1507 (6 * n + i) 0 = l) (hb : ∀ k, k < l → 0 ≤ S 31 (6 * n + i) k ∧ S 31 (6 * n + i) k < 10) (hw : ∀ i, i < 10 → 0 ≤ S 1104 i 0 ∧ S 1104 i 0 ≤ 80) (hr : ∀ i, i < 10 → 0 ≤ S 1105 i 0 ∧ S 1105 i 0 ≤ 80) (hk : k < l) (hkk : kk = k)
    (K : ∀ v, m_ok xs L 35 b_35_12 [vR (nt n), vR (ru n i), vI (kk + 1), v] [] (mk (up (up S 1508 (6 * n + i) 0 (sumC S 1104 (6 * n + i) (k + 1))) 1509 (6 * n + i) 0 (sumC S 1105 (6 * n + i) (k + 1))) e) Q) : m_ok xs L 35 b_35_12 [vR (nt n), vR (ru n i), vI kk, v] [] (mk (up (up S 1508 (6 * n + i) 0 (sumC S 1104 (6 * n + i) k)) 1509 (6 * n + i) 0 (sumC S 1105 (6 * n + i) k)) e) Q := by
  subst hkk
  have h1 := sumC_ran hb hw k (by omega)
  have h2 := sumC_ran hb hr k (by omega)
  have h3 := hb k hk
  have h4 := hw (S 31 (6 * n + i) k).toNat (by omega)
  have h5 := hr (S 31 (6 * n + i) k).toNat (by omega)
  unfold b_35_12
  repeat' first
    | (refine V_icmp_ge.mpr ?_; first | rw [if_pos (by omega)] | rw [if_neg (by omega)] | split)
    | (simp (disch := (first | omega | (simp (disch := omega) only [up_f, up_s, up_i, up_k, up_e]; omega))) only [up_f, up_s, up_i, up_k, up_e, V_iconst, V_bipush, V_sipush, V_conti, V_contn, V_goto, Option.some.injEq, exists_eq_left', true_and, and_true, m_fit, Option.isSome_some, List.map_nil, List.map_cons, List.sum_nil, List.sum_cons, List.all_nil, List.all_cons, m_cat, decide_true, Bool.and_true, Bool.true_and, Nat.zero_le, Int.toNat_natCast, Int.reduceAdd, Int.reduceSub, Int.reduceMul, Int.reduceNeg, Int.reduceLE, Int.reduceLT, Nat.reduceAdd, Nat.reduceLeDiff, Int.reduceToNat, Int.reduceEq, decide_eq_true_eq, true_or, or_true, exists_and_left, and_self, Nat.reduceMul, Nat.reduceSub, Nat.reduceLT, m_oa, Nat.reduceEqDiff, or_false, false_or, Sum.inl.injEq, Sum.inr.injEq, ↓reduceIte, exists_eq_left, D_35, R_35, X_35, W_35_251, W_35_254, F_35_140, J_35_17, F_35_31, F_35_44, F_35_143, F_35_251, F_35_257, F_35_254, F_35_258, J_35_64, V_aloadn1, G_5_8, P_5_8, G_5_9, P_5_9, V_istoren2, V_iloadn2, G_5_7, V_aloadn0, G_2_0, G_4_4, A_4, T_a4, G_5_6, A_ruA0, T_aruA0, B_ruA0, U_iaload, U_aaload, V_astoren3, V_dup_vI, V_dup_vR, V_aloadn3, G_1_4, V_iadd, m_add_eq, G_1_5, V_iinc2, b_35_0, b_35_67, h, up4 (show ¬ 1508 = 1509 by decide)])
  all_goals first | (refine cast ?_ (K (vR (co (S 31 (6 * n + i) k).toNat))); simp_all [sumC]; done) | skip
theorem k_35 {n i l : Nat} {Q : MOut → MHp → Prop} (hn : n < 3) (hi : i < 6) (hl : l ≤ 10) (h : S 1507 (6 * n + i) 0 = l) (hb : ∀ k, k < l → 0 ≤ S 31 (6 * n + i) k ∧ S 31 (6 * n + i) k < 10) (hw : ∀ i, i < 10 → 0 ≤ S 1104 i 0 ∧ S 1104 i 0 ≤ 80) (hr : ∀ i, i < 10 → 0 ≤ S 1105 i 0 ∧ S 1105 i 0 ≤ 80) (K : Q (.inl none) (mk (up (up S 1508 (6 * n + i) 0 (sumC S 1104 (6 * n + i) l)) 1509 (6 * n + i) 0 (sumC S 1105 (6 * n + i) l)) e)) : ∀ z k : Nat, ∀ kk : Int, ∀ v : MV, k + z = l → kk = k → m_ok xs L 35 b_35_12 [vR (nt n), vR (ru n i), vI kk, v] [] (mk (up (up S 1508 (6 * n + i) 0 (sumC S 1104 (6 * n + i) k)) 1509 (6 * n + i) 0 (sumC S 1105 (6 * n + i) k)) e) Q
  | 0, k, kk, v, hz, hkk => by
    have hk : k = l := by omega
    subst hk
    subst hkk
    unfold b_35_12
    repeat' first
      | (refine V_icmp_ge.mpr ?_; first | rw [if_pos (by omega)] | rw [if_neg (by omega)] | split)
      | (simp (disch := (first | omega | (simp (disch := omega) only [up_f, up_s, up_i, up_k, up_e]; omega))) only [up_f, up_s, up_i, up_k, up_e, V_iconst, V_bipush, V_sipush, V_conti, V_contn, V_goto, Option.some.injEq, exists_eq_left', true_and, and_true, m_fit, Option.isSome_some, List.map_nil, List.map_cons, List.sum_nil, List.sum_cons, List.all_nil, List.all_cons, m_cat, decide_true, Bool.and_true, Bool.true_and, Nat.zero_le, Int.toNat_natCast, Int.reduceAdd, Int.reduceSub, Int.reduceMul, Int.reduceNeg, Int.reduceLE, Int.reduceLT, Nat.reduceAdd, Nat.reduceLeDiff, Int.reduceToNat, Int.reduceEq, decide_eq_true_eq, true_or, or_true, exists_and_left, and_self, Nat.reduceMul, Nat.reduceSub, Nat.reduceLT, m_oa, Nat.reduceEqDiff, or_false, false_or, Sum.inl.injEq, Sum.inr.injEq, ↓reduceIte, exists_eq_left, D_35, R_35, X_35, W_35_251, W_35_254, F_35_140, J_35_17, F_35_31, F_35_44, F_35_143, F_35_251, F_35_257, F_35_254, F_35_258, J_35_64, V_aloadn1, G_5_8, P_5_8, G_5_9, P_5_9, V_istoren2, V_iloadn2, G_5_7, V_aloadn0, G_2_0, G_4_4, A_4, T_a4, G_5_6, A_ruA0, T_aruA0, B_ruA0, U_iaload, U_aaload, V_astoren3, V_dup_vI, V_dup_vR, V_aloadn3, G_1_4, V_iadd, m_add_eq, G_1_5, V_iinc2, b_35_0, b_35_67, h])
    all_goals (first | exact K | omega)
  | z + 1, k, kk, v, hz, hkk => l_35 hn hi hl h hb hw hr (by omega) hkk (fun v => k_35 hn hi hl h hb hw hr K z (k + 1) (kk + 1) v (by omega) (by omega))
theorem s_35 {n i l : Nat} (hn : n < 3) (hi : i < 6) (hl : l ≤ 10) (h : S 1507 (6 * n + i) 0 = l) (hb : ∀ k, k < l → 0 ≤ S 31 (6 * n + i) k ∧ S 31 (6 * n + i) k < 10) (hw : ∀ i, i < 10 → 0 ≤ S 1104 i 0 ∧ S 1104 i 0 ≤ 80) (hr : ∀ i, i < 10 → 0 ≤ S 1105 i 0 ∧ S 1105 i 0 ≤ 80) (Q : MOut → MHp → Prop) : m_do xs L 35 [vR (nt n), vR (ru n i)] (mk S e) Q ↔ Q (.inl none) (mk (up (up S 1508 (6 * n + i) 0 (sumC S 1104 (6 * n + i) l)) 1509 (6 * n + i) 0 (sumC S 1105 (6 * n + i) l)) e) := by
  refine m_do_eq ?_ Q
  repeat' first
    | (refine V_icmp_ge.mpr ?_; first | rw [if_pos (by omega)] | rw [if_neg (by omega)] | split)
    | (simp (disch := (first | omega | (simp (disch := omega) only [up_f, up_s, up_i, up_k, up_e]; omega))) only [up_f, up_s, up_i, up_k, up_e, V_iconst, V_bipush, V_sipush, V_conti, V_contn, V_goto, Option.some.injEq, exists_eq_left', true_and, and_true, m_fit, Option.isSome_some, List.map_nil, List.map_cons, List.sum_nil, List.sum_cons, List.all_nil, List.all_cons, m_cat, decide_true, Bool.and_true, Bool.true_and, Nat.zero_le, Int.toNat_natCast, Int.reduceAdd, Int.reduceSub, Int.reduceMul, Int.reduceNeg, Int.reduceLE, Int.reduceLT, Nat.reduceAdd, Nat.reduceLeDiff, Int.reduceToNat, Int.reduceEq, decide_eq_true_eq, true_or, or_true, exists_and_left, and_self, Nat.reduceMul, Nat.reduceSub, Nat.reduceLT, m_oa, Nat.reduceEqDiff, or_false, false_or, Sum.inl.injEq, Sum.inr.injEq, ↓reduceIte, exists_eq_left, D_35, R_35, X_35, W_35_251, W_35_254, F_35_140, J_35_17, F_35_31, F_35_44, F_35_143, F_35_251, F_35_257, F_35_254, F_35_258, J_35_64, V_aloadn1, G_5_8, P_5_8, G_5_9, P_5_9, V_istoren2, V_iloadn2, G_5_7, V_aloadn0, G_2_0, G_4_4, A_4, T_a4, G_5_6, A_ruA0, T_aruA0, B_ruA0, U_iaload, U_aaload, V_astoren3, V_dup_vI, V_dup_vR, V_aloadn3, G_1_4, V_iadd, m_add_eq, G_1_5, V_iinc2, b_35_0, b_35_67, h])
  exact k_35 hn hi hl h hb hw hr ⟨rfl, rfl⟩ l 0 0 _ (by omega) rfl
end V
