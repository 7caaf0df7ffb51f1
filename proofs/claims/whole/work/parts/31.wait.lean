/-! ===== a train that waits no longer ===== -/
noncomputable def misJ (S : Sg) (n j : Nat) (t w m : Int) : Int := misI S n j (S 1803 (10 * n + j) 0).toNat (S 1109 j 0).toNat t w m
def wgOk (S : Sg) (n c : Nat) : Prop := ∀ j, j < c → 0 ≤ S 1803 (10 * n + j) 0 ∧ S 1803 (10 * n + j) 0 ≤ S 1109 j 0 ∧ S 1109 j 0 ≤ 3
section V
variable {xs : Nat → Int32} {L : Nat} {S : Sg} {e : Nat}
theorem s_60j {n j c : Nat} {t w m : Int} (hn : n < 3) (hj : j < 10) (hjc : j < c) (hw : wgOk S n c) (Q : MOut → MHp → Prop) : m_do xs L 60 [vR (wg n j), vI t, vI w, vI m] (mk S e) Q ↔ Q (.inl (some (vI (misJ S n j t w m)))) (mk S e) := by
  have h := hw j hjc
  exact s_60 hn hj (by omega) (by omega) (by omega) (by omega) Q
theorem l_29 {n i k c : Nat} {m here kk : Int} {Q : MOut → MHp → Prop} (hn : n < 3) (hi : i < 6) (hw : wgOk S n c) (hc : S 1405 0 0 = c) (hc10 : c ≤ 10) (hk : k < c) (hkk : kk = k) (K1 : ¬ misJ S n k (S 1500 (6 * n + i) 0) here m = 0 → Q (.inl (some (vI 0))) (mk S e))
    (K0 : misJ S n k (S 1500 (6 * n + i) 0) here m = 0 → m_ok xs L 29 b_29_26 [vR (nt n), vR (ru n i), vI m, vI here, vI (kk + 1)] [] (mk S e) Q) : m_ok xs L 29 b_29_26 [vR (nt n), vR (ru n i), vI m, vI here, vI kk] [] (mk S e) Q := by
  subst hkk
  have h60 := s_60j (xs := xs) (L := L) (S := S) (e := e) (t := S 1500 (6 * n + i) 0) (w := here) (m := m) hn (show k < 10 by omega) hk hw
  unfold b_29_26
  repeat' first
    | (refine V_icmp_ge.mpr ?_; first | rw [if_pos (by omega)] | rw [if_neg (by omega)] | split)
    | (refine V_icmp_gt.mpr ?_; first | rw [if_pos (by omega)] | rw [if_neg (by omega)] | split)
    | (refine V_if_eq.mpr ?_; first | rw [if_pos (by omega)] | rw [if_neg (by omega)] | split)
    | (simp (disch := (first | omega | (simp (disch := omega) only [up_f, up_s, up_i, up_k, up_e]; omega))) only [up_f, up_s, up_i, up_k, up_e, V_iconst, V_bipush, V_sipush, V_conti, V_contn, V_goto, Option.some.injEq, exists_eq_left', true_and, and_true, m_fit, Option.isSome_some, List.map_nil, List.map_cons, List.sum_nil, List.sum_cons, List.all_nil, List.all_cons, m_cat, decide_true, Bool.and_true, Bool.true_and, Nat.zero_le, Int.toNat_natCast, Int.reduceAdd, Int.reduceSub, Int.reduceMul, Int.reduceNeg, Int.reduceLE, Int.reduceLT, Nat.reduceAdd, Nat.reduceLeDiff, Int.reduceToNat, Int.reduceEq, decide_eq_true_eq, true_or, or_true, exists_and_left, and_self, Nat.reduceMul, Nat.reduceSub, Nat.reduceLT, m_oa, Nat.reduceEqDiff, or_false, false_or, Sum.inl.injEq, Sum.inr.injEq, ↓reduceIte, ne_eq, not_false_eq_true, Int.reduceNe, exists_eq_left, D_29, R_29, X_29, I_29_108, J_29_5, F_29_128, F_29_132, F_29_137, F_29_31, F_29_72, J_29_35, F_29_19, F_29_169, I_29_172, J_29_54, J_29_62, V_aloadn1, T_5, V_iloadn2, G_5_1, G_7_3, A_trA0, T_atrA0, B_trA0, G_5_3, U_iaload, V_istoren3, V_istore4, V_iload4, V_aloadn0, G_2_0, G_4_5, G_2_2, A_ntW, T_antW, U_aaload, G_5_0, V_iloadn3, T_8, V_iinc4, m_add_eq, b_29_0, b_29_10, b_29_59, b_29_65, h60, hc])
  all_goals first | exact K1 (by assumption) | exact K0 (by assumption)
theorem k_29 {n i c : Nat} {m here : Int} {Q : MOut → MHp → Prop} (hn : n < 3) (hi : i < 6) (hw : wgOk S n c) (hc : S 1405 0 0 = c) (hc10 : c ≤ 10) : ∀ z k : Nat, ∀ kk : Int, k + z = c → kk = k → ((∃ j, k ≤ j ∧ j < c ∧ ¬ misJ S n j (S 1500 (6 * n + i) 0) here m = 0) → Q (.inl (some (vI 0))) (mk S e)) → ((¬ ∃ j, k ≤ j ∧ j < c ∧ ¬ misJ S n j (S 1500 (6 * n + i) 0) here m = 0) → Q (.inl (some (vI 1))) (mk S e)) → m_ok xs L 29 b_29_26 [vR (nt n), vR (ru n i), vI m, vI here, vI kk] [] (mk S e) Q
  | 0, k, kk, hz, hkk, K1, K0 => by
    have hk : k = c := by omega
    subst hkk
    have h0 := K0 (fun ⟨i, h1, h2, _⟩ => by omega)
    unfold b_29_26
    repeat' first
      | (refine V_icmp_ge.mpr ?_; first | rw [if_pos (by omega)] | rw [if_neg (by omega)] | split)
      | (refine V_icmp_gt.mpr ?_; first | rw [if_pos (by omega)] | rw [if_neg (by omega)] | split)
      | (refine V_if_eq.mpr ?_; first | rw [if_pos (by omega)] | rw [if_neg (by omega)] | split)
      | (simp (disch := (first | omega | (simp (disch := omega) only [up_f, up_s, up_i, up_k, up_e]; omega))) only [up_f, up_s, up_i, up_k, up_e, V_iconst, V_bipush, V_sipush, V_conti, V_contn, V_goto, Option.some.injEq, exists_eq_left', true_and, and_true, m_fit, Option.isSome_some, List.map_nil, List.map_cons, List.sum_nil, List.sum_cons, List.all_nil, List.all_cons, m_cat, decide_true, Bool.and_true, Bool.true_and, Nat.zero_le, Int.toNat_natCast, Int.reduceAdd, Int.reduceSub, Int.reduceMul, Int.reduceNeg, Int.reduceLE, Int.reduceLT, Nat.reduceAdd, Nat.reduceLeDiff, Int.reduceToNat, Int.reduceEq, decide_eq_true_eq, true_or, or_true, exists_and_left, and_self, Nat.reduceMul, Nat.reduceSub, Nat.reduceLT, m_oa, Nat.reduceEqDiff, or_false, false_or, Sum.inl.injEq, Sum.inr.injEq, ↓reduceIte, ne_eq, not_false_eq_true, Int.reduceNe, exists_eq_left, D_29, R_29, X_29, I_29_108, J_29_5, F_29_128, F_29_132, F_29_137, F_29_31, F_29_72, J_29_35, F_29_19, F_29_169, I_29_172, J_29_54, J_29_62, V_aloadn1, T_5, V_iloadn2, G_5_1, G_7_3, A_trA0, T_atrA0, B_trA0, G_5_3, U_iaload, V_istoren3, V_istore4, V_iload4, V_aloadn0, G_2_0, G_4_5, G_2_2, A_ntW, T_antW, U_aaload, G_5_0, V_iloadn3, T_8, V_iinc4, m_add_eq, b_29_0, b_29_10, b_29_59, b_29_65, hc])
    all_goals (first | exact h0 | omega)
  | z + 1, k, kk, hz, hkk, K1, K0 => l_29 hn hi hw hc hc10 (by omega) hkk (fun h => K1 ⟨k, by omega, by omega, h⟩) (fun h => k_29 hn hi hw hc hc10 z (k + 1) (kk + 1) (by omega) (by omega) (fun ⟨i, h1, h2, h3⟩ => K1 ⟨i, by omega, h2, h3⟩) (fun hno => K0 (fun ⟨i, h1, h2, h3⟩ => by
      by_cases hik : i = k
      · subst hik; exact h3 h
      · exact hno ⟨i, by omega, h2, h3⟩)))
/-- the train waits no longer in the minute m -/
def goes (S : Sg) (n i s c : Nat) (m : Int) : Prop := S 11 i s + S 1502 (6 * n + i) 0 ≤ m ∨ ¬ ∃ j, 0 ≤ j ∧ j < c ∧ ¬ misJ S n j (S 1500 (6 * n + i) 0) (S 10 i s) m = 0
noncomputable def goesI (S : Sg) (n i s c : Nat) (m : Int) : Int := @ite _ (goes S n i s c m) (Classical.propDecidable _) 1 0
theorem s_29 {n i s c : Nat} {m : Int} (hn : n < 3) (hi : i < 6) (hs : s < 6) (h : S 1503 (6 * n + i) 0 = s) (hd : 0 ≤ S 11 i s ∧ S 11 i s ≤ 100000) (hp : 0 ≤ S 1502 (6 * n + i) 0 ∧ S 1502 (6 * n + i) 0 ≤ 180) (hw : wgOk S n c) (hc : S 1405 0 0 = c) (hc10 : c ≤ 10) (Q : MOut → MHp → Prop) : m_do xs L 29 [vR (nt n), vR (ru n i), vI m] (mk S e) Q ↔ Q (.inl (some (vI (goesI S n i s c m)))) (mk S e) := by
  have hx : (S 1503 (6 * n + i) 0).toNat = s := by omega
  have h45 := s_45 (xs := xs) (L := L) (S := S) (e := e) hn hi (by omega) (by rw [hx]; exact hd) hp
  rw [hx] at h45
  refine m_do_eq ?_ Q
  repeat' first
    | (refine V_icmp_ge.mpr ?_; first | rw [if_pos (by omega)] | rw [if_neg (by omega)] | split)
    | (refine V_icmp_gt.mpr ?_; first | rw [if_pos (by omega)] | rw [if_neg (by omega)] | split)
    | (refine V_if_eq.mpr ?_; first | rw [if_pos (by omega)] | rw [if_neg (by omega)] | split)
    | (simp (disch := (first | omega | (simp (disch := omega) only [up_f, up_s, up_i, up_k, up_e]; omega))) only [up_f, up_s, up_i, up_k, up_e, V_iconst, V_bipush, V_sipush, V_conti, V_contn, V_goto, Option.some.injEq, exists_eq_left', true_and, and_true, m_fit, Option.isSome_some, List.map_nil, List.map_cons, List.sum_nil, List.sum_cons, List.all_nil, List.all_cons, m_cat, decide_true, Bool.and_true, Bool.true_and, Nat.zero_le, Int.toNat_natCast, Int.reduceAdd, Int.reduceSub, Int.reduceMul, Int.reduceNeg, Int.reduceLE, Int.reduceLT, Nat.reduceAdd, Nat.reduceLeDiff, Int.reduceToNat, Int.reduceEq, decide_eq_true_eq, true_or, or_true, exists_and_left, and_self, Nat.reduceMul, Nat.reduceSub, Nat.reduceLT, m_oa, Nat.reduceEqDiff, or_false, false_or, Sum.inl.injEq, Sum.inr.injEq, ↓reduceIte, ne_eq, not_false_eq_true, Int.reduceNe, exists_eq_left, D_29, R_29, X_29, I_29_108, J_29_5, F_29_128, F_29_132, F_29_137, F_29_31, F_29_72, J_29_35, F_29_19, F_29_169, I_29_172, J_29_54, J_29_62, V_aloadn1, T_5, V_iloadn2, G_5_1, G_7_3, A_trA0, T_atrA0, B_trA0, G_5_3, U_iaload, V_istoren3, V_istore4, V_iload4, V_aloadn0, G_2_0, G_4_5, G_2_2, A_ntW, T_antW, U_aaload, G_5_0, V_iloadn3, T_8, V_iinc4, m_add_eq, b_29_0, b_29_10, b_29_59, b_29_65, h45, h, hx, hc])
  · refine k_29 hn hi hw hc hc10 c 0 0 (by omega) rfl (fun hj => ?_) (fun hj => ?_)
    · have hg : ¬ goes S n i s c m := fun z => z.elim (fun z => by omega) (fun z => z hj)
      simp [goesI, hg]
    · have hg : goes S n i s c m := Or.inr hj
      simp [goesI, hg]
  · have hg : goes S n i s c m := Or.inl (by omega)
    simp [goesI, hg]
end V
