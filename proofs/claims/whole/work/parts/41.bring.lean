/-! ===== a train comes in (class) ===== -/
theorem nth0 {n t : Nat} {S : Sg} {i c : Nat} {r : List Nat} (h : LA (fun j => S 31 (6 * n + t) (i + j)) (c :: r)) : S 31 (6 * n + t) i = c := (LA_cons.mp h).1
theorem nth1 {n t : Nat} {S : Sg} {i c : Nat} {r : List Nat} (h : LA (fun j => S 31 (6 * n + t) (i + j)) (c :: r)) : LA (fun j => S 31 (6 * n + t) (i + 1 + j)) r :=
  LA_ext (fun j _ => by rw [Nat.add_assoc, Nat.add_comm 1 j]) (LA_cons.mp h).2
/-- a coach of the list -/
theorem V_mem {D N : Sg} {l : Ls} {T C t c : Nat} {p r : List Nat} (h : V D N (setL l t (p ++ c :: r)) T C) (ht : t < T) : c < C ∧ N 88 0 c = -1 ∧ D 68 0 c = 0 ∧ N 90 0 c < D 69 0 c ∧ 0 ≤ N 90 0 c := by
  have h1 := (h.1.1 t ht).2 c (by rw [setL_s]; simp)
  exact ⟨h1.1, h1.2.1, h1.2.2.1, h1.2.2.2, (h.2 c h1.1).1⟩
theorem V_len {D N : Sg} {l : Ls} {T C t : Nat} {x : List Nat} (h : V D N (setL l t x) T C) (ht : t < T) (hC : C ≤ 10) : x.length ≤ 10 := by
  have h1 := h.1.1 t ht
  rw [setL_s] at h1
  exact (WL1_len hC h1).1
section V
variable {xs : Nat → Int32} {L : Nat} {e : Nat}
theorem k_27 {n t T C : Nat} {D S0 : Sg} {l : Ls} {m here s : Int} {last : Bool} {Q : MOut → MHp → Prop} (hn : n < 3) (wp : WP D T C) (ht : t < T) (hm : 0 ≤ m ∧ m < 2000) (hh : 0 ≤ here ∧ here < 10) (hs : 0 ≤ s ∧ s < 6) (hl : last = true ↔ D 54 0 t ≤ s + 1) : ∀ (r p : List Nat) (N S : Sg) (i : Nat) (kk ii : Int) (v : MV), kk = p.length → ii = i → p.length ≤ i → i + r.length ≤ 10 → CI n T C D S0 S N l t → V D N (setL l t (p ++ r)) T C → N 81 0 t = s → S 1507 (6 * n + t) 0 = i + r.length → LA (S 31 (6 * n + t)) p → LA (fun j => S 31 (6 * n + t) (i + j)) r →
    (∀ (S2 : Sg) (kk ii : Int) (v : MV), kk = (p ++ (arL D here m last r N).2).length → CI n T C D S0 S2 (arL D here m last r N).1 l t → LA (S2 31 (6 * n + t)) (p ++ (arL D here m last r N).2) → S2 1204 n 0 = S 1204 n 0 → m_ok xs L 27 b_27_84 [vR (nt n), vR (ru n t), vI m, vI here, vI kk, vI ii, v] [] (mk S2 e) Q) → m_ok xs L 27 b_27_32 [vR (nt n), vR (ru n t), vI m, vI here, vI kk, vI ii, v] [] (mk S e) Q
  | [], p, N, S, i, kk, ii, v, hkk, hii, hpi, hlen, ci, hv, hN, h7, la, lb, K => by
    subst hkk hii
    have hT : T ≤ 6 := wp.2.2.1
    have h7 : S 1507 (6 * n + t) 0 = i := by rw [h7]; simp
    have k := K S p.length i v (by simp [arL]) ci (by simp only [arL, List.append_nil]; exact la) rfl
    unfold b_27_32
    repeat' first
      | (refine V_icmp_ge.mpr ?_; first | rw [if_pos (by omega)] | rw [if_neg (by omega)] | split)
      | (refine V_if_eq.mpr ?_; first | rw [if_pos (by omega)] | rw [if_neg (by omega)] | split)
      | (refine V_if_ne.mpr ?_; first | rw [if_pos (by omega)] | rw [if_neg (by omega)] | split)
      | (simp (disch := (first | omega | (simp (disch := omega) only [up_f, up_s, up_i, up_k, up_e]; omega))) only [up_f, up_s, up_i, up_k, up_e, V_iconst, V_bipush, V_sipush, V_conti, V_contn, V_goto, Option.some.injEq, exists_eq_left', true_and, and_true, m_fit, Option.isSome_some, List.map_nil, List.map_cons, List.sum_nil, List.sum_cons, List.all_nil, List.all_cons, m_cat, decide_true, Bool.and_true, Bool.true_and, Nat.zero_le, Int.toNat_natCast, Int.reduceAdd, Int.reduceSub, Int.reduceMul, Int.reduceNeg, Int.reduceLE, Int.reduceLT, Nat.reduceAdd, Nat.reduceLeDiff, Int.reduceToNat, Int.reduceEq, decide_eq_true_eq, true_or, or_true, exists_and_left, and_self, Nat.reduceMul, Nat.reduceSub, Nat.reduceLT, m_oa, Nat.reduceEqDiff, or_false, false_or, Sum.inl.injEq, Sum.inr.injEq, ↓reduceIte, ne_eq, not_false_eq_true, Int.reduceNe, exists_eq_left, D_27, R_27, X_27, I_27_83, J_27_4, I_27_125, F_27_128, F_27_132, F_27_137, F_27_140, J_27_38, F_27_143, F_27_19, I_27_146, J_27_63, J_27_81, W_27_140, J_27_94, F_27_55, W_27_55, V_aloadn1, T_5, V_iloadn2, G_5_1, G_7_3, A_trA0, T_atrA0, B_trA0, G_5_3, U_iaload, V_istoren3, V_istore4, V_istore5, V_iload5, G_5_7, G_5_6, A_ruA0, T_aruA0, B_ruA0, V_istore6, V_aloadn0, G_2_2, A_ntW, T_antW, V_iload6, U_aaload, V_iloadn3, V_iload4, U_iastore, V_iinc4, m_add_eq, V_iinc5, P_5_7, V_dup_vI, V_dup_vR, G_2_4, V_isub, m_sub_eq, P_2_4, b_27_0, b_27_8, b_27_78, b_27_107, h7])
    all_goals (first | exact k | omega)
  | c :: r, p, N, S, i, kk, ii, v, hkk, hii, hpi, hlen, ci, hv, hN, h7, la, lb, K => by
    subst hkk hii
    have hT : T ≤ 6 := wp.2.2.1
    have ht6 : t < 6 := by omega
    have hcon := nth0 lb
    have lb2 := nth1 lb
    obtain ⟨hc0, c88, c68, c69, c90⟩ := V_mem hv ht
    have hC : C ≤ 10 := wp.2.2.2.1
    have hc : c < 10 := by omega
    rw [List.length_cons] at hlen
    have h7 : S 1507 (6 * n + t) 0 = i + 1 + r.length := by rw [h7, List.length_cons]; omega
    have w := ci.2.1 c hc0
    have h1503 : S 1503 (6 * n + t) 0 = s := by rw [(ci.2.2.1 t ht).2.1, hN]
    have hd : S 1803 (10 * n + c) 0 = N 90 0 c := w.2.2.1
    have hp := PC_1109 ci.1 hc
    have ho := PC_1108 ci.1 hc
    have ht0 := PC_1700 ci.1 ht6
    have hpl := wp.2.2.2.2.2.2.1 c hc
    have hto : S 22 c (S 1803 (10 * n + c) 0).toNat = D 71 0 (3 * c + (N 90 0 c).toNat) := by rw [hd, PC_22 ci.1 hc (by omega)]
    have hlen2 : i < 10 := by omega
    by_cases hthr : thr D N here c
    · have h28 := s_28 (xs := xs) (L := L) (S := S) (e := e) (n := n) (i := t) (j := c) (here := here) (m := m) hn ht6 hc hm (by omega) (by omega) (by omega) ⟨by omega, by omega, hto.trans hthr⟩
      have hE : arL D here m last (c :: r) N = arL D here m last r (up (oOut N c here m) 90 0 c (N 90 0 c + 1)) := by rw [arL, if_pos (Or.inr hthr), if_pos hthr]
      rw [hE] at K
      unfold b_27_32
      repeat' first
        | (refine V_icmp_ge.mpr ?_; first | rw [if_pos (by omega)] | rw [if_neg (by omega)] | split)
        | (refine V_if_eq.mpr ?_; first | rw [if_pos (by omega)] | rw [if_neg (by omega)] | split)
        | (refine V_if_ne.mpr ?_; first | rw [if_pos (by omega)] | rw [if_neg (by omega)] | split)
        | (simp (disch := (first | omega | (simp (disch := omega) only [up_f, up_s, up_i, up_k, up_e]; omega))) only [up_f, up_s, up_i, up_k, up_e, V_iconst, V_bipush, V_sipush, V_conti, V_contn, V_goto, Option.some.injEq, exists_eq_left', true_and, and_true, m_fit, Option.isSome_some, List.map_nil, List.map_cons, List.sum_nil, List.sum_cons, List.all_nil, List.all_cons, m_cat, decide_true, Bool.and_true, Bool.true_and, Nat.zero_le, Int.toNat_natCast, Int.reduceAdd, Int.reduceSub, Int.reduceMul, Int.reduceNeg, Int.reduceLE, Int.reduceLT, Nat.reduceAdd, Nat.reduceLeDiff, Int.reduceToNat, Int.reduceEq, decide_eq_true_eq, true_or, or_true, exists_and_left, and_self, Nat.reduceMul, Nat.reduceSub, Nat.reduceLT, m_oa, Nat.reduceEqDiff, or_false, false_or, Sum.inl.injEq, Sum.inr.injEq, ↓reduceIte, ne_eq, not_false_eq_true, Int.reduceNe, exists_eq_left, D_27, R_27, X_27, I_27_83, J_27_4, I_27_125, F_27_128, F_27_132, F_27_137, F_27_140, J_27_38, F_27_143, F_27_19, I_27_146, J_27_63, J_27_81, W_27_140, J_27_94, F_27_55, W_27_55, V_aloadn1, T_5, V_iloadn2, G_5_1, G_7_3, A_trA0, T_atrA0, B_trA0, G_5_3, U_iaload, V_istoren3, V_istore4, V_istore5, V_iload5, G_5_7, G_5_6, A_ruA0, T_aruA0, B_ruA0, V_istore6, V_aloadn0, G_2_2, A_ntW, T_antW, V_iload6, U_aaload, V_iloadn3, V_iload4, U_iastore, V_iinc4, m_add_eq, V_iinc5, P_5_7, V_dup_vI, V_dup_vR, G_2_4, V_isub, m_sub_eq, P_2_4, b_27_0, b_27_8, b_27_78, b_27_107, h28, h7, hcon])
      refine k_27 hn wp ht hm hh hs hl r p (up (oOut N c here m) 90 0 c (N 90 0 c + 1)) _ (i + 1) _ _ _ rfl (by omega) (by omega) (by omega) ?_ (V_out2 ht hh hm (Or.inr rfl) hv) ?_ ?_ ?_ ?_ (fun S2 kk ii v a1 a2 a3 a4 => K S2 kk ii v a1 a2 a3 (a4.trans ?_))
      · rw [hd]
        exact CI_done (CI_out ci hn hc hh.1) hn hc
      · rw [up_f (by decide), oOut_f (by decide) (by decide)]; exact hN
      · simp (disch := omega) only [up_f]; omega
      · exact LA_ext (fun j _ => by simp (disch := omega) only [up_f]) la
      · exact LA_ext (fun j _ => by simp (disch := omega) only [up_f]) lb2
      · simp (disch := omega) only [up_f]
    · have hne : ¬ (S 1108 c 0 = 0 ∧ S 1803 (10 * n + c) 0 < S 1109 c 0 ∧ S 22 c (S 1803 (10 * n + c) 0).toNat = here) := fun z => hthr (hto.symm.trans z.2.2)
      cases hlast : last with
      | true =>
        have hz := hl.mp hlast
        have h28 := t_28 (xs := xs) (L := L) (S := S) (e := e) (n := n) (i := t) (j := c) (here := here) (m := m) hn ht6 hc hm (by omega) (by omega) (by omega) hne (by omega)
        have hE : arL D here m true (c :: r) N = arL D here m true r (up (oOut N c here m) 90 0 c (N 90 0 c)) := by rw [arL, if_pos (Or.inl rfl), if_neg hthr, Int.add_zero]
        have hS : up (oOut N c here m) 90 0 c (N 90 0 c) = oOut N c here m := by
          have h9 : N 90 0 c = oOut N c here m 90 0 c := (oOut_f (by decide) (by decide)).symm
          rw [h9, up_self]
        rw [hlast, hE] at K
        rw [hlast] at hl
        unfold b_27_32
        repeat' first
          | (refine V_icmp_ge.mpr ?_; first | rw [if_pos (by omega)] | rw [if_neg (by omega)] | split)
          | (refine V_if_eq.mpr ?_; first | rw [if_pos (by omega)] | rw [if_neg (by omega)] | split)
          | (refine V_if_ne.mpr ?_; first | rw [if_pos (by omega)] | rw [if_neg (by omega)] | split)
          | (simp (disch := (first | omega | (simp (disch := omega) only [up_f, up_s, up_i, up_k, up_e]; omega))) only [up_f, up_s, up_i, up_k, up_e, V_iconst, V_bipush, V_sipush, V_conti, V_contn, V_goto, Option.some.injEq, exists_eq_left', true_and, and_true, m_fit, Option.isSome_some, List.map_nil, List.map_cons, List.sum_nil, List.sum_cons, List.all_nil, List.all_cons, m_cat, decide_true, Bool.and_true, Bool.true_and, Nat.zero_le, Int.toNat_natCast, Int.reduceAdd, Int.reduceSub, Int.reduceMul, Int.reduceNeg, Int.reduceLE, Int.reduceLT, Nat.reduceAdd, Nat.reduceLeDiff, Int.reduceToNat, Int.reduceEq, decide_eq_true_eq, true_or, or_true, exists_and_left, and_self, Nat.reduceMul, Nat.reduceSub, Nat.reduceLT, m_oa, Nat.reduceEqDiff, or_false, false_or, Sum.inl.injEq, Sum.inr.injEq, ↓reduceIte, ne_eq, not_false_eq_true, Int.reduceNe, exists_eq_left, D_27, R_27, X_27, I_27_83, J_27_4, I_27_125, F_27_128, F_27_132, F_27_137, F_27_140, J_27_38, F_27_143, F_27_19, I_27_146, J_27_63, J_27_81, W_27_140, J_27_94, F_27_55, W_27_55, V_aloadn1, T_5, V_iloadn2, G_5_1, G_7_3, A_trA0, T_atrA0, B_trA0, G_5_3, U_iaload, V_istoren3, V_istore4, V_istore5, V_iload5, G_5_7, G_5_6, A_ruA0, T_aruA0, B_ruA0, V_istore6, V_aloadn0, G_2_2, A_ntW, T_antW, V_iload6, U_aaload, V_iloadn3, V_iload4, U_iastore, V_iinc4, m_add_eq, V_iinc5, P_5_7, V_dup_vI, V_dup_vR, G_2_4, V_isub, m_sub_eq, P_2_4, b_27_0, b_27_8, b_27_78, b_27_107, h28, h7, hcon])
        refine k_27 hn wp ht hm hh hs hl r p (up (oOut N c here m) 90 0 c (N 90 0 c)) _ (i + 1) _ _ _ rfl (by omega) (by omega) (by omega) ?_ (V_out2 ht hh hm (Or.inl rfl) hv) ?_ ?_ ?_ ?_ (fun S2 kk ii v a1 a2 a3 a4 => K S2 kk ii v a1 a2 a3 (a4.trans ?_))
        · rw [hS]
          exact CI_out ci hn hc hh.1
        · rw [up_f (by decide), oOut_f (by decide) (by decide)]; exact hN
        · simp (disch := omega) only [up_f]; omega
        · exact LA_ext (fun j _ => by simp (disch := omega) only [up_f]) la
        · exact LA_ext (fun j _ => by simp (disch := omega) only [up_f]) lb2
        · simp (disch := omega) only [up_f]
      | false =>
        have hz : ¬ D 54 0 t ≤ s + 1 := fun z => by have := hl.mpr z; rw [hlast] at this; cases this
        have h28 := u_28 (xs := xs) (L := L) (S := S) (e := e) (n := n) (i := t) (j := c) (here := here) (m := m) hn ht6 hc hm (by omega) (by omega) (by omega) hne (by omega)
        have hE : arL D here m false (c :: r) N = ((arL D here m false r N).1, c :: (arL D here m false r N).2) := by rw [arL, if_neg (by simp [hthr])]
        rw [hlast, hE] at K
        rw [hlast] at hl
        have hap : p ++ c :: (arL D here m false r N).2 = (p ++ [c]) ++ (arL D here m false r N).2 := app_cons
        have hap2 : p ++ c :: r = (p ++ [c]) ++ r := app_cons
        rw [hap] at K
        rw [hap2] at hv
        have hpl : p.length < 10 := by omega
        unfold b_27_32
        repeat' first
          | (refine V_icmp_ge.mpr ?_; first | rw [if_pos (by omega)] | rw [if_neg (by omega)] | split)
          | (refine V_if_eq.mpr ?_; first | rw [if_pos (by omega)] | rw [if_neg (by omega)] | split)
          | (refine V_if_ne.mpr ?_; first | rw [if_pos (by omega)] | rw [if_neg (by omega)] | split)
          | (simp (disch := (first | omega | (simp (disch := omega) only [up_f, up_s, up_i, up_k, up_e]; omega))) only [up_f, up_s, up_i, up_k, up_e, V_iconst, V_bipush, V_sipush, V_conti, V_contn, V_goto, Option.some.injEq, exists_eq_left', true_and, and_true, m_fit, Option.isSome_some, List.map_nil, List.map_cons, List.sum_nil, List.sum_cons, List.all_nil, List.all_cons, m_cat, decide_true, Bool.and_true, Bool.true_and, Nat.zero_le, Int.toNat_natCast, Int.reduceAdd, Int.reduceSub, Int.reduceMul, Int.reduceNeg, Int.reduceLE, Int.reduceLT, Nat.reduceAdd, Nat.reduceLeDiff, Int.reduceToNat, Int.reduceEq, decide_eq_true_eq, true_or, or_true, exists_and_left, and_self, Nat.reduceMul, Nat.reduceSub, Nat.reduceLT, m_oa, Nat.reduceEqDiff, or_false, false_or, Sum.inl.injEq, Sum.inr.injEq, ↓reduceIte, ne_eq, not_false_eq_true, Int.reduceNe, exists_eq_left, D_27, R_27, X_27, I_27_83, J_27_4, I_27_125, F_27_128, F_27_132, F_27_137, F_27_140, J_27_38, F_27_143, F_27_19, I_27_146, J_27_63, J_27_81, W_27_140, J_27_94, F_27_55, W_27_55, V_aloadn1, T_5, V_iloadn2, G_5_1, G_7_3, A_trA0, T_atrA0, B_trA0, G_5_3, U_iaload, V_istoren3, V_istore4, V_istore5, V_iload5, G_5_7, G_5_6, A_ruA0, T_aruA0, B_ruA0, V_istore6, V_aloadn0, G_2_2, A_ntW, T_antW, V_iload6, U_aaload, V_iloadn3, V_iload4, U_iastore, V_iinc4, m_add_eq, V_iinc5, P_5_7, V_dup_vI, V_dup_vR, G_2_4, V_isub, m_sub_eq, P_2_4, b_27_0, b_27_8, b_27_78, b_27_107, h28, h7, hcon])
        refine k_27 hn wp ht hm hh hs hl r (p ++ [c]) N _ (i + 1) _ _ _ (by simp) (by omega) (by simp; omega) (by omega) ?_ hv hN ?_ ?_ ?_ (fun S2 kk ii v a1 a2 a3 a4 => K S2 kk ii v a1 a2 a3 (a4.trans ?_))
        · exact CI_up ci hn (Or.inl ⟨rfl, rfl, ht6⟩)
        · simp (disch := omega) only [up_f]; omega
        · exact LA_snoc (LA_ext (fun j hj => by simp (disch := omega) only [up_k]) la) (by simp only [up_s])
        · exact LA_ext (fun j hj => by simp (disch := omega) only [up_k]) lb2
        · simp (disch := omega) only [up_f]
end V
