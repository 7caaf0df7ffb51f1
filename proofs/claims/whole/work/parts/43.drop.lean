/-! ===== coaches that are set out as a train leaves (class) ===== -/
theorem m_do_ex {xs : Nat → Int32} {L mi e : Nat} {args : List MV} {S : Sg} {P : Sg → Prop} {o : MOut} (k : m_do xs L mi args (mk S e) (fun a h => a = o ∧ ∃ S2, h = mk S2 e ∧ P S2)) : ∃ S2, P S2 ∧ ∀ Q, m_do xs L mi args (mk S e) Q ↔ Q o (mk S2 e) := by
  obtain ⟨n, ⟨a, h⟩, hr, ha, S2, hh, hp⟩ := k
  exact ⟨S2, hp, fun Q => m_do_eq ⟨n, (a, h), hr, ha, hh⟩ Q⟩
theorem wsum_app {D : Sg} {W : Nat} {a b : List Nat} : wsum D W (a ++ b) = wsum D W a + wsum D W b := by
  unfold wsum
  rw [List.map_append, List.sum_append]
theorem sumC_wsum {D S : Sg} {W W2 J : Nat} {x : List Nat} (h : LA (S 31 J) x) (hx : ∀ c, c ∈ x → S W c 0 = D W2 0 c) : ∀ k, k ≤ x.length → sumC S W J k = wsum D W2 (x.take k)
  | 0, _ => by simp [sumC, wsum_nil]
  | k + 1, hk => by
    have hk2 : k < x.length := by omega
    rw [sumC, sumC_wsum h hx k (by omega), ← List.take_append_getElem hk2, wsum_app, wsum_cons, wsum_nil, h k x[k] (List.getElem?_eq_getElem hk2), Int.toNat_natCast, hx _ (List.getElem_mem hk2), Int.add_zero]
section V
variable {xs : Nat → Int32} {L : Nat} {e : Nat}
theorem k_31 {n t T C k : Nat} {D S0 : Sg} {l : Ls} {m : Int} {Q : MOut → MHp → Prop} (hn : n < 3) (wp : WP D T C) (ht : t < T) (hm : 0 ≤ m ∧ m < 2000) (hk : (k : Int) + 2 ≤ D 54 0 t) : ∀ (r p : List Nat) (N S : Sg) (i : Nat) (kk ii : Int) (v : MV), kk = p.length → ii = i → p.length ≤ i → i + r.length ≤ 10 → CI n T C D S0 S N l t → V D N (setL l t (p ++ r)) T C → N 81 0 t = k → S 1507 (6 * n + t) 0 = i + r.length → LA (S 31 (6 * n + t)) p → LA (fun j => S 31 (6 * n + t) (i + j)) r →
    (∀ (S2 : Sg) (kk ii : Int) (v : MV), kk = (p ++ (drL D (6 * t + k) (D 55 0 (6 * t + k)) m r N).2).length → CI n T C D S0 S2 (drL D (6 * t + k) (D 55 0 (6 * t + k)) m r N).1 l t → LA (S2 31 (6 * n + t)) (p ++ (drL D (6 * t + k) (D 55 0 (6 * t + k)) m r N).2) → S2 1204 n 0 = S 1204 n 0 → m_ok xs L 31 b_31_87 [vR (nt n), vR (ru n t), vR (st (D 55 0 (6 * t + k)).toNat), vR (st (D 55 0 (6 * t + k + 1)).toNat), vI m, vI kk, vI ii, v] [] (mk S2 e) Q) → m_ok xs L 31 b_31_6 [vR (nt n), vR (ru n t), vR (st (D 55 0 (6 * t + k)).toNat), vR (st (D 55 0 (6 * t + k + 1)).toNat), vI m, vI kk, vI ii, v] [] (mk S e) Q
  | [], p, N, S, i, kk, ii, v, hkk, hii, hpi, hlen, ci, hv, hN, h7, la, lb, K => by
    subst hkk hii
    have hT : T ≤ 6 := wp.2.2.1
    have h7 : S 1507 (6 * n + t) 0 = i := by rw [h7]; simp
    have k := K S p.length i v (by simp [drL]) ci (by simp only [drL, List.append_nil]; exact la) rfl
    unfold b_31_6
    repeat' first
      | (refine V_icmp_ge.mpr ?_; first | rw [if_pos (by omega)] | rw [if_neg (by omega)] | split)
      | (refine V_if_eq.mpr ?_; first | rw [if_pos (by omega)] | rw [if_neg (by omega)] | split)
      | (simp (disch := (first | omega | (simp (disch := omega) only [up_f, up_s, up_i, up_k, up_e]; omega))) only [up_f, up_s, up_i, up_k, up_e, V_iconst, V_bipush, V_sipush, V_conti, V_contn, V_goto, Option.some.injEq, exists_eq_left', true_and, and_true, m_fit, Option.isSome_some, List.map_nil, List.map_cons, List.sum_nil, List.sum_cons, List.all_nil, List.all_cons, m_cat, decide_true, Bool.and_true, Bool.true_and, Nat.zero_le, Int.toNat_natCast, Int.reduceAdd, Int.reduceSub, Int.reduceMul, Int.reduceNeg, Int.reduceLE, Int.reduceLT, Nat.reduceAdd, Nat.reduceLeDiff, Int.reduceToNat, Int.reduceEq, decide_eq_true_eq, true_or, or_true, exists_and_left, and_self, Nat.reduceMul, Nat.reduceSub, Nat.reduceLT, m_oa, Nat.reduceEqDiff, or_false, false_or, Sum.inl.injEq, Sum.inr.injEq, ↓reduceIte, ne_eq, not_false_eq_true, Int.reduceNe, exists_eq_left, D_31, R_31, X_31, F_31_140, J_31_12, F_31_143, F_31_31, F_31_44, I_31_217, J_31_39, J_31_54, F_31_19, F_31_128, F_31_132, F_31_137, I_31_165, J_31_84, W_31_140, V_istore5, V_istore6, V_iload6, V_aloadn1, G_5_7, G_5_6, A_ruA0, T_aruA0, B_ruA0, U_iaload, V_istore7, V_aloadn0, G_2_0, G_4_4, A_4, T_a4, V_iload7, U_aaload, V_aloadn2, V_aloadn3, T_1, V_iload5, U_iastore, V_iinc5, m_add_eq, G_2_2, A_ntW, T_antW, G_5_1, G_7_3, A_trA0, T_atrA0, B_trA0, G_5_3, V_iload4, T_8, V_iinc6, P_5_7, b_31_0, b_31_57, b_31_81, h7])
    all_goals exact k
  | c :: r, p, N, S, i, kk, ii, v, hkk, hii, hpi, hlen, ci, hv, hN, h7, la, lb, K => by
    subst hkk hii
    have hT : T ≤ 6 := wp.2.2.1
    have ht6 : t < 6 := by omega
    have hcon := nth0 lb
    have lb2 := nth1 lb
    obtain ⟨hc0, c88, c68, c69, c90⟩ := V_mem hv ht
    have hC : C ≤ 10 := wp.2.2.2.1
    have hc : c < 10 := by omega
    rw [List.length_cons] at hlen
    have h7 : S 1507 (6 * n + t) 0 = i + 1 + r.length := by rw [h7, List.length_cons]; omega
    have h1503 : S 1503 (6 * n + t) 0 = k := by rw [(ci.2.2.1 t ht).2.1, hN]
    have w54 := wp.2.2.2.2.1 t ht6
    have p0 := wp_here wp (show 6 * t + k < 36 by omega)
    have p1 := wp_here wp (show 6 * t + k + 1 < 36 by omega)
    have hm1 : (6 * t + k) / 6 = t := by omega
    have hm2 : (6 * t + k) % 6 = k := by omega
    have hm3 : (6 * t + k + 1) / 6 = t := by omega
    have hm4 : (6 * t + k + 1) % 6 = k + 1 := by omega
    have u0 : usd D (6 * t + k) := by rw [usd, hm1, hm2]; have := wp.1; omega
    have u1 : usd D (6 * t + k + 1) := by rw [usd, hm3, hm4]; have := wp.1; omega
    have h15 : ∀ Q, m_do xs L 15 [vR (co c), vR (st (D 55 0 (6 * t + k)).toNat), vR (st (D 55 0 (6 * t + k + 1)).toNat)] (mk S e) Q ↔ Q (.inl (some (vI (if alw D (6 * t + k) c then 1 else 0)))) (mk S e) := fun Q => by
      rw [s_15 hc (by omega) (by omega), PC_1106 ci.1 hc, PC_1107 ci.1 hc, PC_1600 ci.1 (by omega) u1, PC_1601 ci.1 (by omega) u1, PC_1601 ci.1 (by omega) u0]
    have h10 := PC_10 ci.1 ht6 (show k < 6 by omega)
    have hk0 : (k : Int).toNat = k := by omega
    have hlen2 : i < 10 := by omega
    by_cases hal : alw D (6 * t + k) c
    · rw [if_pos hal] at h15
      have hE : drL D (6 * t + k) (D 55 0 (6 * t + k)) m (c :: r) N = ((drL D (6 * t + k) (D 55 0 (6 * t + k)) m r N).1, c :: (drL D (6 * t + k) (D 55 0 (6 * t + k)) m r N).2) := by rw [drL, if_pos hal]
      have hap : p ++ c :: (drL D (6 * t + k) (D 55 0 (6 * t + k)) m r N).2 = (p ++ [c]) ++ (drL D (6 * t + k) (D 55 0 (6 * t + k)) m r N).2 := app_cons
      have hap2 : p ++ c :: r = (p ++ [c]) ++ r := app_cons
      rw [hE, hap] at K
      rw [hap2] at hv
      have hpl : p.length < 10 := by omega
      unfold b_31_6
      repeat' first
        | (refine V_icmp_ge.mpr ?_; first | rw [if_pos (by omega)] | rw [if_neg (by omega)] | split)
        | (refine V_if_eq.mpr ?_; first | rw [if_pos (by omega)] | rw [if_neg (by omega)] | split)
        | (simp (disch := (first | omega | (simp (disch := omega) only [up_f, up_s, up_i, up_k, up_e]; omega))) only [up_f, up_s, up_i, up_k, up_e, V_iconst, V_bipush, V_sipush, V_conti, V_contn, V_goto, Option.some.injEq, exists_eq_left', true_and, and_true, m_fit, Option.isSome_some, List.map_nil, List.map_cons, List.sum_nil, List.sum_cons, List.all_nil, List.all_cons, m_cat, decide_true, Bool.and_true, Bool.true_and, Nat.zero_le, Int.toNat_natCast, Int.reduceAdd, Int.reduceSub, Int.reduceMul, Int.reduceNeg, Int.reduceLE, Int.reduceLT, Nat.reduceAdd, Nat.reduceLeDiff, Int.reduceToNat, Int.reduceEq, decide_eq_true_eq, true_or, or_true, exists_and_left, and_self, Nat.reduceMul, Nat.reduceSub, Nat.reduceLT, m_oa, Nat.reduceEqDiff, or_false, false_or, Sum.inl.injEq, Sum.inr.injEq, ↓reduceIte, ne_eq, not_false_eq_true, Int.reduceNe, exists_eq_left, D_31, R_31, X_31, F_31_140, J_31_12, F_31_143, F_31_31, F_31_44, I_31_217, J_31_39, J_31_54, F_31_19, F_31_128, F_31_132, F_31_137, I_31_165, J_31_84, W_31_140, V_istore5, V_istore6, V_iload6, V_aloadn1, G_5_7, G_5_6, A_ruA0, T_aruA0, B_ruA0, U_iaload, V_istore7, V_aloadn0, G_2_0, G_4_4, A_4, T_a4, V_iload7, U_aaload, V_aloadn2, V_aloadn3, T_1, V_iload5, U_iastore, V_iinc5, m_add_eq, G_2_2, A_ntW, T_antW, G_5_1, G_7_3, A_trA0, T_atrA0, B_trA0, G_5_3, V_iload4, T_8, V_iinc6, P_5_7, b_31_0, b_31_57, b_31_81, h15, h7, hcon, h1503, h10, hk0, s_61])
      refine k_31 hn wp ht hm hk r (p ++ [c]) N _ (i + 1) _ _ _ (by simp) (by omega) (by simp; omega) (by omega) ?_ hv hN ?_ ?_ ?_ (fun S2 kk ii v a1 a2 a3 a4 => K S2 kk ii v a1 a2 a3 (a4.trans ?_))
      · exact CI_up ci hn (Or.inl ⟨rfl, rfl, ht6⟩)
      · simp (disch := omega) only [up_f]; omega
      · exact LA_snoc (LA_ext (fun j hj => by simp (disch := omega) only [up_k]) la) (by simp only [up_s])
      · exact LA_ext (fun j hj => by simp (disch := omega) only [up_k]) lb2
      · simp (disch := omega) only [up_f]
    · rw [if_neg hal] at h15
      have hE : drL D (6 * t + k) (D 55 0 (6 * t + k)) m (c :: r) N = drL D (6 * t + k) (D 55 0 (6 * t + k)) m r (oOut N c (D 55 0 (6 * t + k)) m) := by rw [drL, if_neg hal]
      rw [hE] at K
      unfold b_31_6
      repeat' first
        | (refine V_icmp_ge.mpr ?_; first | rw [if_pos (by omega)] | rw [if_neg (by omega)] | split)
        | (refine V_if_eq.mpr ?_; first | rw [if_pos (by omega)] | rw [if_neg (by omega)] | split)
        | (simp (disch := (first | omega | (simp (disch := omega) only [up_f, up_s, up_i, up_k, up_e]; omega))) only [up_f, up_s, up_i, up_k, up_e, V_iconst, V_bipush, V_sipush, V_conti, V_contn, V_goto, Option.some.injEq, exists_eq_left', true_and, and_true, m_fit, Option.isSome_some, List.map_nil, List.map_cons, List.sum_nil, List.sum_cons, List.all_nil, List.all_cons, m_cat, decide_true, Bool.and_true, Bool.true_and, Nat.zero_le, Int.toNat_natCast, Int.reduceAdd, Int.reduceSub, Int.reduceMul, Int.reduceNeg, Int.reduceLE, Int.reduceLT, Nat.reduceAdd, Nat.reduceLeDiff, Int.reduceToNat, Int.reduceEq, decide_eq_true_eq, true_or, or_true, exists_and_left, and_self, Nat.reduceMul, Nat.reduceSub, Nat.reduceLT, m_oa, Nat.reduceEqDiff, or_false, false_or, Sum.inl.injEq, Sum.inr.injEq, ↓reduceIte, ne_eq, not_false_eq_true, Int.reduceNe, exists_eq_left, D_31, R_31, X_31, F_31_140, J_31_12, F_31_143, F_31_31, F_31_44, I_31_217, J_31_39, J_31_54, F_31_19, F_31_128, F_31_132, F_31_137, I_31_165, J_31_84, W_31_140, V_istore5, V_istore6, V_iload6, V_aloadn1, G_5_7, G_5_6, A_ruA0, T_aruA0, B_ruA0, U_iaload, V_istore7, V_aloadn0, G_2_0, G_4_4, A_4, T_a4, V_iload7, U_aaload, V_aloadn2, V_aloadn3, T_1, V_iload5, U_iastore, V_iinc5, m_add_eq, G_2_2, A_ntW, T_antW, G_5_1, G_7_3, A_trA0, T_atrA0, B_trA0, G_5_3, V_iload4, T_8, V_iinc6, P_5_7, b_31_0, b_31_57, b_31_81, h15, h7, hcon, h1503, h10, hk0, s_61])
      refine k_31 hn wp ht hm hk r p (oOut N c (D 55 0 (6 * t + k)) m) _ (i + 1) _ _ _ rfl (by omega) (by omega) (by omega) (CI_out ci hn hc p0.1) (V_out ht p0 hm hv) ?_ ?_ ?_ ?_ (fun S2 kk ii v a1 a2 a3 a4 => K S2 kk ii v a1 a2 a3 (a4.trans ?_))
      · rw [oOut_f (by decide) (by decide)]; exact hN
      · simp (disch := omega) only [up_f]; omega
      · exact LA_ext (fun j _ => by simp (disch := omega) only [up_f]) la
      · exact LA_ext (fun j _ => by simp (disch := omega) only [up_f]) lb2
      · simp (disch := omega) only [up_f]
theorem r_31 {n t T C k : Nat} {D S0 N S : Sg} {l : Ls} {m : Int} {x : List Nat} (hn : n < 3) (wp : WP D T C) (ht : t < T) (hm : 0 ≤ m ∧ m < 2000) (hk : (k : Int) + 2 ≤ D 54 0 t) (ci : CI n T C D S0 S N l t) (hv : V D N (setL l t x) T C) (hN : N 81 0 t = k) (rq : RQ n t S x) :
    ∃ S2, (CI n T C D S0 S2 (drL D (6 * t + k) (D 55 0 (6 * t + k)) m x N).1 l t ∧ RQ n t S2 (drL D (6 * t + k) (D 55 0 (6 * t + k)) m x N).2 ∧ S2 1204 n 0 = S 1204 n 0) ∧
      ∀ Q, m_do xs L 31 [vR (nt n), vR (ru n t), vR (st (D 55 0 (6 * t + k)).toNat), vR (st (D 55 0 (6 * t + k + 1)).toNat), vI m] (mk S e) Q ↔ Q (.inl none) (mk S2 e) := by
  have hT : T ≤ 6 := wp.2.2.1
  have ht6 : t < 6 := by omega
  refine m_do_ex ?_
  repeat' first
    | (refine V_icmp_ge.mpr ?_; first | rw [if_pos (by omega)] | rw [if_neg (by omega)] | split)
    | (refine V_if_eq.mpr ?_; first | rw [if_pos (by omega)] | rw [if_neg (by omega)] | split)
    | (simp (disch := (first | omega | (simp (disch := omega) only [up_f, up_s, up_i, up_k, up_e]; omega))) only [up_f, up_s, up_i, up_k, up_e, V_iconst, V_bipush, V_sipush, V_conti, V_contn, V_goto, Option.some.injEq, exists_eq_left', true_and, and_true, m_fit, Option.isSome_some, List.map_nil, List.map_cons, List.sum_nil, List.sum_cons, List.all_nil, List.all_cons, m_cat, decide_true, Bool.and_true, Bool.true_and, Nat.zero_le, Int.toNat_natCast, Int.reduceAdd, Int.reduceSub, Int.reduceMul, Int.reduceNeg, Int.reduceLE, Int.reduceLT, Nat.reduceAdd, Nat.reduceLeDiff, Int.reduceToNat, Int.reduceEq, decide_eq_true_eq, true_or, or_true, exists_and_left, and_self, Nat.reduceMul, Nat.reduceSub, Nat.reduceLT, m_oa, Nat.reduceEqDiff, or_false, false_or, Sum.inl.injEq, Sum.inr.injEq, ↓reduceIte, ne_eq, not_false_eq_true, Int.reduceNe, exists_eq_left, D_31, R_31, X_31, F_31_140, J_31_12, F_31_143, F_31_31, F_31_44, I_31_217, J_31_39, J_31_54, F_31_19, F_31_128, F_31_132, F_31_137, I_31_165, J_31_84, W_31_140, V_istore5, V_istore6, V_iload6, V_aloadn1, G_5_7, G_5_6, A_ruA0, T_aruA0, B_ruA0, U_iaload, V_istore7, V_aloadn0, G_2_0, G_4_4, A_4, T_a4, V_iload7, U_aaload, V_aloadn2, V_aloadn3, T_1, V_iload5, U_iastore, V_iinc5, m_add_eq, G_2_2, A_ntW, T_antW, G_5_1, G_7_3, A_trA0, T_atrA0, B_trA0, G_5_3, V_iload4, T_8, V_iinc6, P_5_7, b_31_0, b_31_57, b_31_81])
  have hlen := V_len hv ht wp.2.2.2.1
  refine k_31 hn wp ht hm hk x [] N S 0 _ _ _ rfl rfl (by simp) (by omega) ci hv hN (by rw [rq.1]; simp) LA_nil (LA_ext (fun j _ => by simp) rq.2) (fun S2 kk ii v a1 a2 a3 a4 => ?_)
  subst a1
  rw [List.nil_append] at a3 ⊢
  unfold b_31_87
  repeat' first
    | (refine V_icmp_ge.mpr ?_; first | rw [if_pos (by omega)] | rw [if_neg (by omega)] | split)
    | (refine V_if_eq.mpr ?_; first | rw [if_pos (by omega)] | rw [if_neg (by omega)] | split)
    | (simp (disch := (first | omega | (simp (disch := omega) only [up_f, up_s, up_i, up_k, up_e]; omega))) only [up_f, up_s, up_i, up_k, up_e, V_iconst, V_bipush, V_sipush, V_conti, V_contn, V_goto, Option.some.injEq, exists_eq_left', true_and, and_true, m_fit, Option.isSome_some, List.map_nil, List.map_cons, List.sum_nil, List.sum_cons, List.all_nil, List.all_cons, m_cat, decide_true, Bool.and_true, Bool.true_and, Nat.zero_le, Int.toNat_natCast, Int.reduceAdd, Int.reduceSub, Int.reduceMul, Int.reduceNeg, Int.reduceLE, Int.reduceLT, Nat.reduceAdd, Nat.reduceLeDiff, Int.reduceToNat, Int.reduceEq, decide_eq_true_eq, true_or, or_true, exists_and_left, and_self, Nat.reduceMul, Nat.reduceSub, Nat.reduceLT, m_oa, Nat.reduceEqDiff, or_false, false_or, Sum.inl.injEq, Sum.inr.injEq, ↓reduceIte, ne_eq, not_false_eq_true, Int.reduceNe, exists_eq_left, D_31, R_31, X_31, F_31_140, J_31_12, F_31_143, F_31_31, F_31_44, I_31_217, J_31_39, J_31_54, F_31_19, F_31_128, F_31_132, F_31_137, I_31_165, J_31_84, W_31_140, V_istore5, V_istore6, V_iload6, V_aloadn1, G_5_7, G_5_6, A_ruA0, T_aruA0, B_ruA0, U_iaload, V_istore7, V_aloadn0, G_2_0, G_4_4, A_4, T_a4, V_iload7, U_aaload, V_aloadn2, V_aloadn3, T_1, V_iload5, U_iastore, V_iinc5, m_add_eq, G_2_2, A_ntW, T_antW, G_5_1, G_7_3, A_trA0, T_atrA0, B_trA0, G_5_3, V_iload4, T_8, V_iinc6, P_5_7, b_31_0, b_31_57, b_31_81])
  refine ⟨_, rfl, CI_up a2 hn (Or.inr (Or.inl ⟨rfl, rfl, ht6⟩)), ⟨?_, ?_⟩, ?_⟩
  · simp (disch := omega) only [up_s]
  · exact LA_ext (fun j _ => by simp (disch := omega) only [up_f]) a3
  · simp (disch := omega) only [up_f]; exact a4
theorem weighed {n t T C z : Nat} {D S0 N S : Sg} {l : Ls} {x : List Nat} (hn : n < 3) (wp : WP D T C) (ht : t < T) (ci : CI n T C D S0 S N l t) (hv : V D N (setL l t x) T C) (rq : RQ n t S x) (hz : x.length = z) (Q : MOut → MHp → Prop) :
    m_do xs L 35 [vR (nt n), vR (ru n t)] (mk S e) Q ↔ Q (.inl none) (mk (up (up S 1508 (6 * n + t) 0 (wsum D 64 x)) 1509 (6 * n + t) 0 (wsum D 65 x)) e) := by
  have hT : T ≤ 6 := wp.2.2.1
  have ht6 : t < 6 := by omega
  have h1 := hv.1.1 t ht
  rw [setL_s] at h1
  obtain ⟨hl, hb⟩ := WL1_len wp.2.2.2.1 h1
  have e1 := sumC_wsum (D := D) (S := S) (W := 1104) (W2 := 64) (J := 6 * n + t) rq.2 (fun c hc => PC_1104 ci.1 (hb c hc)) x.length (by omega)
  have e2 := sumC_wsum (D := D) (S := S) (W := 1105) (W2 := 65) (J := 6 * n + t) rq.2 (fun c hc => PC_1105 ci.1 (hb c hc)) x.length (by omega)
  rw [List.take_length] at e1 e2
  rw [s_35 hn ht6 hl rq.1 (fun j hj => ?_) (fun c hc => ?_) (fun c hc => ?_), e1, e2]
  · rw [rq.2 j x[j] (List.getElem?_eq_getElem hj)]
    have := hb x[j] (List.getElem_mem hj)
    omega
  · rw [PC_1104 ci.1 hc]; have := wp.2.2.2.2.2.2.1 c hc; omega
  · rw [PC_1105 ci.1 hc]; have := wp.2.2.2.2.2.2.1 c hc; omega
theorem k_34 {n t T C k : Nat} {D S0 : Sg} {l : Ls} {m : Int} {Q : MOut → MHp → Prop} (hn : n < 3) (wp : WP D T C) (ht : t < T) (hm : 0 ≤ m ∧ m < 2000) (hk : (k : Int) + 2 ≤ D 54 0 t) : ∀ (z : Nat) (x : Sg × List Nat) (S : Sg) (ii : Int), ii = (z : Int) - 1 → x.2.length = z → CI n T C D S0 S x.1 l t → V D x.1 (setL l t x.2) T C → x.1 81 0 t = k → RQ n t S x.2 → S 1508 (6 * n + t) 0 = wsum D 64 x.2 → S 1509 (6 * n + t) 0 = wsum D 65 x.2 →
    (∀ S2 : Sg, CI n T C D S0 S2 (heL D t (D 55 0 (6 * t + k)) m z x).1 l t → RQ n t S2 (heL D t (D 55 0 (6 * t + k)) m z x).2 → S2 1508 (6 * n + t) 0 = wsum D 64 (heL D t (D 55 0 (6 * t + k)) m z x).2 → S2 1509 (6 * n + t) 0 = wsum D 65 (heL D t (D 55 0 (6 * t + k)) m z x).2 → S2 1204 n 0 = S 1204 n 0 → Q (.inl none) (mk S2 e)) →
    m_ok xs L 34 b_34_12 [vR (nt n), vR (ru n t), vI m, vI ii] [] (mk S e) Q
  | 0, x, S, ii, hii, hz, ci, hv, hN, rq, h8, h9, K => by
    have hT : T ≤ 6 := wp.2.2.1
    have k := K S ci rq h8 h9 rfl
    have hi2 : ii = -1 := by omega
    subst hi2
    unfold b_34_12
    repeat' first
      | (refine V_if_eq.mpr ?_; first | rw [if_pos (by omega)] | rw [if_neg (by omega)] | split)
      | (refine V_if_lt.mpr ?_; first | rw [if_pos (by omega)] | rw [if_neg (by omega)] | split)
      | (simp (disch := (first | omega | (simp (disch := omega) only [up_f, up_s, up_i, up_k, up_e]; omega))) only [up_f, up_s, up_i, up_k, up_e, V_iconst, V_bipush, V_sipush, V_conti, V_contn, V_goto, Option.some.injEq, exists_eq_left', true_and, and_true, m_fit, Option.isSome_some, List.map_nil, List.map_cons, List.sum_nil, List.sum_cons, List.all_nil, List.all_cons, m_cat, decide_true, Bool.and_true, Bool.true_and, Nat.zero_le, Int.toNat_natCast, Int.reduceAdd, Int.reduceSub, Int.reduceMul, Int.reduceNeg, Int.reduceLE, Int.reduceLT, Nat.reduceAdd, Nat.reduceLeDiff, Int.reduceToNat, Int.reduceEq, decide_eq_true_eq, true_or, or_true, exists_and_left, and_self, Nat.reduceMul, Nat.reduceSub, Nat.reduceLT, m_oa, Nat.reduceEqDiff, or_false, false_or, Sum.inl.injEq, Sum.inr.injEq, ↓reduceIte, ne_eq, not_false_eq_true, Int.reduceNe, exists_eq_left, D_34, R_34, X_34, I_34_244, F_34_140, J_34_13, I_34_248, J_34_20, F_34_19, F_34_143, F_34_128, F_34_132, F_34_137, I_34_165, W_34_140, J_34_63, V_aloadn0, V_aloadn1, T_2, G_5_7, V_isub, m_sub_eq, V_istoren3, V_iloadn3, T_5, G_2_2, A_ntW, T_antW, G_5_6, A_ruA0, T_aruA0, B_ruA0, U_iaload, U_aaload, G_5_1, G_7_3, A_trA0, T_atrA0, B_trA0, G_5_3, V_iloadn2, T_8, P_5_7, V_iinc3, m_add_eq, b_34_0, b_34_66])
    all_goals exact k
  | z + 1, x, S, ii, hii, hz, ci, hv, hN, rq, h8, h9, K => by
    have hT : T ≤ 6 := wp.2.2.1
    have ht6 : t < 6 := by omega
    have hi2 : ii = (z : Int) := by omega
    subst hi2
    have h1 := hv.1.1 t ht
    rw [setL_s] at h1
    obtain ⟨hl, hb⟩ := WL1_len wp.2.2.2.1 h1
    have hw1 := wsum_ran (D := D) (W := 64) (fun c hc => by have := wp.2.2.2.2.2.2.1 c hc; omega) _ hb
    have hw2 := wsum_ran (D := D) (W := 65) (fun c hc => by have := wp.2.2.2.2.2.2.1 c hc; omega) _ hb
    have h47 : ∀ Q, m_do xs L 47 [vR (ru n t)] (mk S e) Q ↔ Q (.inl (some (vI (if hvy D t x.2 then 1 else 0)))) (mk S e) := fun Q => by
      rw [s_47 hn ht6 (by omega) (by omega), PC_1701 ci.1 ht6, h8, h9]
    by_cases hh : hvy D t x.2
    · rw [if_pos hh] at h47
      have hE : heL D t (D 55 0 (6 * t + k)) m (z + 1) x = heL D t (D 55 0 (6 * t + k)) m z (oOut x.1 (x.2.getD z 0) (D 55 0 (6 * t + k)) m, x.2.take z) := by rw [heL, if_pos hh]
      rw [hE] at K
      have e0 := take_last hz
      have hzl : z < x.2.length := by omega
      have hg : x.2[z]? = some (x.2.getD z 0) := by rw [List.getD_eq_getElem?_getD, List.getElem?_eq_getElem hzl, Option.getD_some]
      generalize hc0 : x.2.getD z 0 = c at *
      have hcm : c ∈ x.2 := List.mem_of_getElem? hg
      have hc : c < 10 := hb c hcm
      have hcon : S 31 (6 * n + t) z = c := rq.2 z c hg
      have h1503 : S 1503 (6 * n + t) 0 = k := by rw [(ci.2.2.1 t ht).2.1, hN]
      have w54 := wp.2.2.2.2.1 t ht6
      have p0 := wp_here wp (show 6 * t + k < 36 by omega)
      have h10 := PC_10 ci.1 ht6 (show k < 6 by omega)
      have hk0 : (k : Int).toNat = k := by omega
      have hz0 : (z : Int).toNat = z := by omega
      have hv1 : V D (oOut x.1 c (D 55 0 (6 * t + k)) m) (setL l t (x.2.take z)) T C := by
        rw [e0] at hv
        have := V_out ht p0 hm hv
        rwa [List.append_nil] at this
      have ci1 := CI_up (F := 1507) (K := 0) (a := z) (CI_out (m := m) ci hn hc p0.1) hn (Or.inr (Or.inl ⟨rfl, rfl, ht6⟩))
      have hlt : (x.2.take z).length = z := by rw [List.length_take]; omega
      have rq1 : RQ n t (up (up (up S 1801 (10 * n + c) 0 (D 55 0 (6 * t + k))) 1802 (10 * n + c) 0 (m + 10)) 1507 (6 * n + t) 0 z) (x.2.take z) := by
        refine ⟨?_, LA_ext (fun j _ => by simp (disch := omega) only [up_f]) (LA_take rq.2)⟩
        rw [up_s, hlt]
      have h35 := weighed (xs := xs) (L := L) (e := e) hn wp ht ci1 hv1 rq1 hlt
      unfold b_34_12
      repeat' first
        | (refine V_if_eq.mpr ?_; first | rw [if_pos (by omega)] | rw [if_neg (by omega)] | split)
        | (refine V_if_lt.mpr ?_; first | rw [if_pos (by omega)] | rw [if_neg (by omega)] | split)
        | (simp (disch := (first | omega | (simp (disch := omega) only [up_f, up_s, up_i, up_k, up_e]; omega))) only [up_f, up_s, up_i, up_k, up_e, V_iconst, V_bipush, V_sipush, V_conti, V_contn, V_goto, Option.some.injEq, exists_eq_left', true_and, and_true, m_fit, Option.isSome_some, List.map_nil, List.map_cons, List.sum_nil, List.sum_cons, List.all_nil, List.all_cons, m_cat, decide_true, Bool.and_true, Bool.true_and, Nat.zero_le, Int.toNat_natCast, Int.reduceAdd, Int.reduceSub, Int.reduceMul, Int.reduceNeg, Int.reduceLE, Int.reduceLT, Nat.reduceAdd, Nat.reduceLeDiff, Int.reduceToNat, Int.reduceEq, decide_eq_true_eq, true_or, or_true, exists_and_left, and_self, Nat.reduceMul, Nat.reduceSub, Nat.reduceLT, m_oa, Nat.reduceEqDiff, or_false, false_or, Sum.inl.injEq, Sum.inr.injEq, ↓reduceIte, ne_eq, not_false_eq_true, Int.reduceNe, exists_eq_left, D_34, R_34, X_34, I_34_244, F_34_140, J_34_13, I_34_248, J_34_20, F_34_19, F_34_143, F_34_128, F_34_132, F_34_137, I_34_165, W_34_140, J_34_63, V_aloadn0, V_aloadn1, T_2, G_5_7, V_isub, m_sub_eq, V_istoren3, V_iloadn3, T_5, G_2_2, A_ntW, T_antW, G_5_6, A_ruA0, T_aruA0, B_ruA0, U_iaload, U_aaload, G_5_1, G_7_3, A_trA0, T_atrA0, B_trA0, G_5_3, V_iloadn2, T_8, P_5_7, V_iinc3, m_add_eq, b_34_0, b_34_66, h47, h35, h1503, h10, hk0, hz0, hcon, s_61])
      refine k_34 hn wp ht hm hk z (oOut x.1 c (D 55 0 (6 * t + k)) m, x.2.take z) _ _ (by omega) hlt (CI_up (CI_up ci1 hn (Or.inr (Or.inr (Or.inl ⟨Or.inl rfl, by omega, by omega⟩)))) hn (Or.inr (Or.inr (Or.inl ⟨Or.inr rfl, by omega, by omega⟩)))) hv1 ?_ ?_ ?_ ?_ (fun S2 a1 a2 a3 a4 a5 => K S2 a1 a2 a3 a4 (a5.trans ?_))
      · exact (oOut_f (N := x.1) (c := c) (a := D 55 0 (6 * t + k)) (m := m) (by decide) (by decide)).trans hN
      · exact RQ_ext rq1 (fun f j hf => by simp (disch := omega) only [up_f])
      · simp (disch := omega) only [up_f, up_s]
      · simp (disch := omega) only [up_f, up_s]
      · simp (disch := omega) only [up_f]
    · rw [if_neg hh] at h47
      have hE : heL D t (D 55 0 (6 * t + k)) m (z + 1) x = x := by rw [heL, if_neg hh]
      rw [hE] at K
      have k := K S ci rq h8 h9 rfl
      unfold b_34_12
      repeat' first
        | (refine V_if_eq.mpr ?_; first | rw [if_pos (by omega)] | rw [if_neg (by omega)] | split)
        | (refine V_if_lt.mpr ?_; first | rw [if_pos (by omega)] | rw [if_neg (by omega)] | split)
        | (simp (disch := (first | omega | (simp (disch := omega) only [up_f, up_s, up_i, up_k, up_e]; omega))) only [up_f, up_s, up_i, up_k, up_e, V_iconst, V_bipush, V_sipush, V_conti, V_contn, V_goto, Option.some.injEq, exists_eq_left', true_and, and_true, m_fit, Option.isSome_some, List.map_nil, List.map_cons, List.sum_nil, List.sum_cons, List.all_nil, List.all_cons, m_cat, decide_true, Bool.and_true, Bool.true_and, Nat.zero_le, Int.toNat_natCast, Int.reduceAdd, Int.reduceSub, Int.reduceMul, Int.reduceNeg, Int.reduceLE, Int.reduceLT, Nat.reduceAdd, Nat.reduceLeDiff, Int.reduceToNat, Int.reduceEq, decide_eq_true_eq, true_or, or_true, exists_and_left, and_self, Nat.reduceMul, Nat.reduceSub, Nat.reduceLT, m_oa, Nat.reduceEqDiff, or_false, false_or, Sum.inl.injEq, Sum.inr.injEq, ↓reduceIte, ne_eq, not_false_eq_true, Int.reduceNe, exists_eq_left, D_34, R_34, X_34, I_34_244, F_34_140, J_34_13, I_34_248, J_34_20, F_34_19, F_34_143, F_34_128, F_34_132, F_34_137, I_34_165, W_34_140, J_34_63, V_aloadn0, V_aloadn1, T_2, G_5_7, V_isub, m_sub_eq, V_istoren3, V_iloadn3, T_5, G_2_2, A_ntW, T_antW, G_5_6, A_ruA0, T_aruA0, B_ruA0, U_iaload, U_aaload, G_5_1, G_7_3, A_trA0, T_atrA0, B_trA0, G_5_3, V_iloadn2, T_8, P_5_7, V_iinc3, m_add_eq, b_34_0, b_34_66, h47])
      all_goals exact k
theorem r_34 {n t T C k : Nat} {D S0 S : Sg} {l : Ls} {m : Int} {x : Sg × List Nat} (hn : n < 3) (wp : WP D T C) (ht : t < T) (hm : 0 ≤ m ∧ m < 2000) (hk : (k : Int) + 2 ≤ D 54 0 t) (ci : CI n T C D S0 S x.1 l t) (hv : V D x.1 (setL l t x.2) T C) (hN : x.1 81 0 t = k) (rq : RQ n t S x.2) :
    ∃ S2, (CI n T C D S0 S2 (heL D t (D 55 0 (6 * t + k)) m x.2.length x).1 l t ∧ RQ n t S2 (heL D t (D 55 0 (6 * t + k)) m x.2.length x).2 ∧ S2 1508 (6 * n + t) 0 = wsum D 64 (heL D t (D 55 0 (6 * t + k)) m x.2.length x).2 ∧ S2 1509 (6 * n + t) 0 = wsum D 65 (heL D t (D 55 0 (6 * t + k)) m x.2.length x).2 ∧ S2 1204 n 0 = S 1204 n 0) ∧
      ∀ Q, m_do xs L 34 [vR (nt n), vR (ru n t), vI m] (mk S e) Q ↔ Q (.inl none) (mk S2 e) := by
  have hT : T ≤ 6 := wp.2.2.1
  have ht6 : t < 6 := by omega
  have hlen := V_len hv ht wp.2.2.2.1
  have h7 := rq.1
  have h35 := weighed (xs := xs) (L := L) (e := e) hn wp ht ci hv rq rfl
  refine m_do_ex ?_
  repeat' first
    | (refine V_if_eq.mpr ?_; first | rw [if_pos (by omega)] | rw [if_neg (by omega)] | split)
    | (refine V_if_lt.mpr ?_; first | rw [if_pos (by omega)] | rw [if_neg (by omega)] | split)
    | (simp (disch := (first | omega | (simp (disch := omega) only [up_f, up_s, up_i, up_k, up_e]; omega))) only [up_f, up_s, up_i, up_k, up_e, V_iconst, V_bipush, V_sipush, V_conti, V_contn, V_goto, Option.some.injEq, exists_eq_left', true_and, and_true, m_fit, Option.isSome_some, List.map_nil, List.map_cons, List.sum_nil, List.sum_cons, List.all_nil, List.all_cons, m_cat, decide_true, Bool.and_true, Bool.true_and, Nat.zero_le, Int.toNat_natCast, Int.reduceAdd, Int.reduceSub, Int.reduceMul, Int.reduceNeg, Int.reduceLE, Int.reduceLT, Nat.reduceAdd, Nat.reduceLeDiff, Int.reduceToNat, Int.reduceEq, decide_eq_true_eq, true_or, or_true, exists_and_left, and_self, Nat.reduceMul, Nat.reduceSub, Nat.reduceLT, m_oa, Nat.reduceEqDiff, or_false, false_or, Sum.inl.injEq, Sum.inr.injEq, ↓reduceIte, ne_eq, not_false_eq_true, Int.reduceNe, exists_eq_left, D_34, R_34, X_34, I_34_244, F_34_140, J_34_13, I_34_248, J_34_20, F_34_19, F_34_143, F_34_128, F_34_132, F_34_137, I_34_165, W_34_140, J_34_63, V_aloadn0, V_aloadn1, T_2, G_5_7, V_isub, m_sub_eq, V_istoren3, V_iloadn3, T_5, G_2_2, A_ntW, T_antW, G_5_6, A_ruA0, T_aruA0, B_ruA0, U_iaload, U_aaload, G_5_1, G_7_3, A_trA0, T_atrA0, B_trA0, G_5_3, V_iloadn2, T_8, P_5_7, V_iinc3, m_add_eq, b_34_0, b_34_66, h35, h7])
  refine k_34 hn wp ht hm hk x.2.length x _ _ (by omega) rfl (CI_up (CI_up ci hn (Or.inr (Or.inr (Or.inl ⟨Or.inl rfl, by omega, by omega⟩)))) hn (Or.inr (Or.inr (Or.inl ⟨Or.inr rfl, by omega, by omega⟩)))) hv hN ?_ ?_ ?_ (fun S2 a1 a2 a3 a4 a5 => ⟨rfl, S2, rfl, a1, a2, a3, a4, a5.trans ?_⟩)
  · exact RQ_ext rq (fun f j hf => by simp (disch := omega) only [up_f])
  · simp (disch := omega) only [up_f, up_s]
  · simp (disch := omega) only [up_f, up_s]
  · simp (disch := omega) only [up_f]
end V
