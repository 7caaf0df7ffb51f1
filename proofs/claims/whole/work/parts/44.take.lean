/-! ===== coaches that come to a train (class) ===== -/
section V
variable {xs : Nat → Int32} {L : Nat} {e : Nat}
theorem k_32 {n t T C k : Nat} {D S0 : Sg} {l : Ls} {m : Int} {Q : MOut → MHp → Prop} (hn : n < 3) (wp : WP D T C) (ht : t < T) (hm : 0 ≤ m ∧ m < 2000) (hk : (k : Int) + 2 ≤ D 54 0 t) : ∀ (z c : Nat) (ii : Int) (v : MV) (x : Sg × List Nat) (S : Sg), c + z = C → ii = c → CI n T C D S0 S (coL D t (6 * t + k) (D 55 0 (6 * t + k)) m c x).1 l t → V D (coL D t (6 * t + k) (D 55 0 (6 * t + k)) m c x).1 (setL l t (coL D t (6 * t + k) (D 55 0 (6 * t + k)) m c x).2) T C → x.1 81 0 t = k → RQ n t S (coL D t (6 * t + k) (D 55 0 (6 * t + k)) m c x).2 →
    (∀ (S2 : Sg) (ii : Int) (v : MV), CI n T C D S0 S2 (coL D t (6 * t + k) (D 55 0 (6 * t + k)) m C x).1 l t → RQ n t S2 (coL D t (6 * t + k) (D 55 0 (6 * t + k)) m C x).2 → S2 1204 n 0 = S 1204 n 0 → m_ok xs L 32 b_32_105 [vR (nt n), vR (ru n t), vR (st (D 55 0 (6 * t + k)).toNat), vR (st (D 55 0 (6 * t + k + 1)).toNat), vI m, vI (D 55 0 (6 * t + k)), vI ii, v] [] (mk S2 e) Q) → m_ok xs L 32 b_32_17 [vR (nt n), vR (ru n t), vR (st (D 55 0 (6 * t + k)).toNat), vR (st (D 55 0 (6 * t + k + 1)).toNat), vI m, vI (D 55 0 (6 * t + k)), vI ii, v] [] (mk S e) Q
  | 0, c, ii, v, x, S, hz, hii, ci, hv, hx, rq, K => by
    have hc : c = C := by omega
    subst hc
    subst hii
    have h1405 : S 1405 0 0 = c := by rw [PC_1405 ci.1]; exact wp.2.1
    have k := K S c v ci rq rfl
    unfold b_32_17
    repeat' first
      | (refine V_icmp_ge.mpr ?_; first | rw [if_pos (by omega)] | rw [if_neg (by omega)] | split)
      | (refine V_if_eq.mpr ?_; first | rw [if_pos (by omega)] | rw [if_neg (by omega)] | split)
      | (simp (disch := (first | omega | (simp (disch := omega) only [up_f, up_s, up_i, up_k, up_e]; omega))) only [up_f, up_s, up_i, up_k, up_e, V_iconst, V_bipush, V_sipush, V_conti, V_contn, V_goto, Option.some.injEq, exists_eq_left', true_and, and_true, m_fit, Option.isSome_some, List.map_nil, List.map_cons, List.sum_nil, List.sum_cons, List.all_nil, List.all_cons, m_cat, decide_true, Bool.and_true, Bool.true_and, Nat.zero_le, Int.toNat_natCast, Int.reduceAdd, Int.reduceSub, Int.reduceMul, Int.reduceNeg, Int.reduceLE, Int.reduceLT, Nat.reduceAdd, Nat.reduceLeDiff, Int.reduceToNat, Int.reduceEq, decide_eq_true_eq, true_or, or_true, exists_and_left, and_self, Nat.reduceMul, Nat.reduceSub, Nat.reduceLT, m_oa, Nat.reduceEqDiff, or_false, false_or, Sum.inl.injEq, Sum.inr.injEq, ↓reduceIte, ne_eq, not_false_eq_true, Int.reduceNe, exists_eq_left, D_32, R_32, X_32, F_32_128, F_32_132, F_32_137, F_32_31, F_32_72, J_32_26, F_32_19, I_32_221, J_32_47, I_32_150, J_32_55, F_32_44, I_32_217, J_32_73, I_32_225, J_32_85, I_32_229, I_32_232, J_32_102, V_aloadn1, G_5_1, G_7_3, A_trA0, T_atrA0, B_trA0, G_5_3, U_iaload, V_istore5, V_istore6, V_iload6, V_aloadn0, G_2_0, G_4_5, G_2_2, A_ntW, T_antW, U_aaload, V_astore7, V_aload7, V_iload5, V_iload4, T_8, G_4_4, A_4, T_a4, V_aloadn2, V_aloadn3, T_1, T_2, T_5, V_iinc6, m_add_eq, b_32_0, b_32_99, h1405])
    all_goals exact k
  | z + 1, c, ii, v, x, S, hz, hii, ci, hv, hx, rq, K => by
    subst hii
    have hT : T ≤ 6 := wp.2.2.1
    have ht6 : t < 6 := by omega
    have hC : C ≤ 10 := wp.2.2.2.1
    have hcC : c < C := by omega
    have hc : c < 10 := by omega
    have h1405 : S 1405 0 0 = C := by rw [PC_1405 ci.1]; exact wp.2.1
    have hk5 : k < 5 := by have := wp.2.2.2.2.1 t ht6; omega
    have p0 := wp_here wp (show 6 * t + k < 36 by omega)
    have p1 := wp_here wp (show 6 * t + k + 1 < 36 by omega)
    have hm1 : (6 * t + k) / 6 = t := by omega
    have hm2 : (6 * t + k) % 6 = k := by omega
    have hm3 : (6 * t + k + 1) / 6 = t := by omega
    have hm4 : (6 * t + k + 1) % 6 = k + 1 := by omega
    have u0 : usd D (6 * t + k) := by rw [usd, hm1, hm2]; have := wp.1; omega
    have u1 : usd D (6 * t + k + 1) := by rw [usd, hm3, hm4]; have := wp.1; omega
    have hEq : coL D t (6 * t + k) (D 55 0 (6 * t + k)) m (c + 1) x = if cms D (coL D t (6 * t + k) (D 55 0 (6 * t + k)) m c x).1 t (6 * t + k) (D 55 0 (6 * t + k)) m c then (up (coL D t (6 * t + k) (D 55 0 (6 * t + k)) m c x).1 88 0 c (-1), (coL D t (6 * t + k) (D 55 0 (6 * t + k)) m c x).2 ++ [c]) else (coL D t (6 * t + k) (D 55 0 (6 * t + k)) m c x) := rfl
    have hN : (coL D t (6 * t + k) (D 55 0 (6 * t + k)) m c x).1 81 0 t = k := by rw [coL_f (by decide)]; exact hx
    generalize hs : (coL D t (6 * t + k) (D 55 0 (6 * t + k)) m c x) = s at *
    have w := ci.2.1 c hcC
    have wc := hv.2 c hcC
    have hpl := wp.2.2.2.2.2.2.1 c hc
    have h59 : ∀ Q, m_do xs L 59 [vR (wg n c), vI (D 55 0 (6 * t + k)), vI m] (mk S e) Q ↔ Q (.inl (some (vI (if s.1 88 0 c = D 55 0 (6 * t + k) ∧ s.1 89 0 c ≤ m then 1 else 0)))) (mk S e) := fun Q => by
      rw [s_59 hn hc, w.1, w.2.1]
      by_cases h8 : s.1 88 0 c = D 55 0 (6 * t + k)
      · have h9 : rdc s.1 c = s.1 89 0 c := if_neg (by omega)
        rw [h9]
      · rw [if_neg (fun z => h8 z.1), if_neg (fun z => h8 z.1)]
    by_cases hA : s.1 88 0 c = D 55 0 (6 * t + k) ∧ s.1 89 0 c ≤ m
    · rw [if_pos hA] at h59
      have h57 : ∀ Q, m_do xs L 57 [vR (wg n c)] (mk S e) Q ↔ Q (.inl (some (vI (if D 68 0 c = 0 ∧ s.1 90 0 c < D 69 0 c then 1 else 0)))) (mk S e) := fun Q => by
        rw [s_57 hn hc, PC_1108 ci.1 hc, PC_1109 ci.1 hc, w.2.2.1]
      by_cases hB : D 68 0 c = 0 ∧ s.1 90 0 c < D 69 0 c
      · rw [if_pos hB] at h57
        have h15 : ∀ Q, m_do xs L 15 [vR (co c), vR (st (D 55 0 (6 * t + k)).toNat), vR (st (D 55 0 (6 * t + k + 1)).toNat)] (mk S e) Q ↔ Q (.inl (some (vI (if alw D (6 * t + k) c then 1 else 0)))) (mk S e) := fun Q => by
          rw [s_15 hc (by omega) (by omega), PC_1106 ci.1 hc, PC_1107 ci.1 hc, PC_1600 ci.1 (by omega) u1, PC_1601 ci.1 (by omega) u1, PC_1601 ci.1 (by omega) u0]
        by_cases hCC : alw D (6 * t + k) c
        · rw [if_pos hCC] at h15
          obtain ⟨d, hd⟩ : ∃ d : Nat, s.1 90 0 c = d := ⟨(s.1 90 0 c).toNat, by omega⟩
          have hdn : (s.1 90 0 c).toNat = d := by omega
          have hd3 : d < 3 := by omega
          have wq := wp.2.2.2.2.2.2.2.1 c d hc hd3
          have wq2 := wp.2.2.2.2.2.2.2.2.1 c d hcC (by omega)
          obtain ⟨t2, ht2⟩ : ∃ t2 : Nat, D 70 0 (3 * c + d) = t2 := ⟨(D 70 0 (3 * c + d)).toNat, by omega⟩
          obtain ⟨b, hb⟩ : ∃ b : Nat, D 71 0 (3 * c + d) = b := ⟨(D 71 0 (3 * c + d)).toNat, by omega⟩
          obtain ⟨a, ha⟩ : ∃ a : Nat, D 55 0 (6 * t + k) = a := ⟨(D 55 0 (6 * t + k)).toNat, by omega⟩
          have ht26 : t2 < 6 := by omega
          have ht2T : t2 < T := by omega
          have e16 := PC_16 ci.1 ht26 (show a < 10 by omega)
          have e16b := PC_16 ci.1 ht6 (show b < 10 by omega)
          have r16 := stA_ran (t := t2) (a := (a : Int)) wp ht26
          have e33 := (ci.2.2.1 t2 ht2T).2.2.2.2.2.1 (stA D t2 a).toNat (by omega)
          have h33 : ∀ Q, m_do xs L 33 [vR (nt n), vR (ru n t), vR (wg n c), vI (D 55 0 (6 * t + k))] (mk S e) Q ↔ Q (.inl (some (vI (if tks D s.1 t (D 55 0 (6 * t + k)) c then 1 else 0)))) (mk S e) := fun Q => by
            rw [ha, s_33 (t2 := t2) hn ht6 hc ht26 (show a < 10 by omega) (by rw [w.2.2.1, hd]) hd3 (by rw [PC_20 ci.1 hc hd3, ht2]) (by rw [PC_22 ci.1 hc hd3]; omega) (PC_1500 ci.1 hn ht26) (PC_1500 ci.1 hn ht6) (by rw [e16]; exact r16)]
            rw [PC_22 ci.1 hc hd3, hb, Int.toNat_natCast, e16b, e16, e33, (ci.2.2.1 t ht).2.1]
            unfold tks
            rw [hdn, hb, ht2, Int.toNat_natCast]
            simp only [Int.natCast_inj, Int.ofNat_inj]
          by_cases hD : tks D s.1 t (D 55 0 (6 * t + k)) c
          · rw [if_pos hD] at h33
            have hE : coL D t (6 * t + k) (D 55 0 (6 * t + k)) m (c + 1) x = (up s.1 88 0 c (-1), s.2 ++ [c]) := by rw [hEq, if_pos ⟨hB, hA, hCC, hD⟩]
            have hv2 := V_come ht hcC (by omega) hB.1 hB.2 hv
            have hl2 := V_len hv2 ht hC
            rw [List.length_append, List.length_singleton] at hl2
            have h46 := s_46 (xs := xs) (L := L) (S := S) (e := e) (c := (c : Int)) hn ht6 (show s.2.length < 10 by omega) rq.1
            have ci2 := CI_come (CI_up (F := 1507) (K := 0) (a := (s.2.length : Int) + 1) (CI_up (F := 31) (K := s.2.length) (a := c) ci hn (Or.inl ⟨rfl, rfl, ht6⟩)) hn (Or.inr (Or.inl ⟨rfl, rfl, ht6⟩))) hn hc
            unfold b_32_17
            repeat' first
              | (refine V_icmp_ge.mpr ?_; first | rw [if_pos (by omega)] | rw [if_neg (by omega)] | split)
              | (refine V_if_eq.mpr ?_; first | rw [if_pos (by omega)] | rw [if_neg (by omega)] | split)
              | (simp (disch := (first | omega | (simp (disch := omega) only [up_f, up_s, up_i, up_k, up_e]; omega))) only [up_f, up_s, up_i, up_k, up_e, V_iconst, V_bipush, V_sipush, V_conti, V_contn, V_goto, Option.some.injEq, exists_eq_left', true_and, and_true, m_fit, Option.isSome_some, List.map_nil, List.map_cons, List.sum_nil, List.sum_cons, List.all_nil, List.all_cons, m_cat, decide_true, Bool.and_true, Bool.true_and, Nat.zero_le, Int.toNat_natCast, Int.reduceAdd, Int.reduceSub, Int.reduceMul, Int.reduceNeg, Int.reduceLE, Int.reduceLT, Nat.reduceAdd, Nat.reduceLeDiff, Int.reduceToNat, Int.reduceEq, decide_eq_true_eq, true_or, or_true, exists_and_left, and_self, Nat.reduceMul, Nat.reduceSub, Nat.reduceLT, m_oa, Nat.reduceEqDiff, or_false, false_or, Sum.inl.injEq, Sum.inr.injEq, ↓reduceIte, ne_eq, not_false_eq_true, Int.reduceNe, exists_eq_left, D_32, R_32, X_32, F_32_128, F_32_132, F_32_137, F_32_31, F_32_72, J_32_26, F_32_19, I_32_221, J_32_47, I_32_150, J_32_55, F_32_44, I_32_217, J_32_73, I_32_225, J_32_85, I_32_229, I_32_232, J_32_102, V_aloadn1, G_5_1, G_7_3, A_trA0, T_atrA0, B_trA0, G_5_3, U_iaload, V_istore5, V_istore6, V_iload6, V_aloadn0, G_2_0, G_4_5, G_2_2, A_ntW, T_antW, U_aaload, V_astore7, V_aload7, V_iload5, V_iload4, T_8, G_4_4, A_4, T_a4, V_aloadn2, V_aloadn3, T_1, T_2, T_5, V_iinc6, m_add_eq, b_32_0, b_32_99, h59, h57, h15, h33, h46, s_62, h1405])
            refine k_32 hn wp ht hm hk z (c + 1) _ _ x _ (by omega) (by omega) (by rw [hE]; exact ci2) (by rw [hE]; exact hv2) hx ?_ (fun S2 ii v a1 a2 a3 => K S2 ii v a1 a2 (a3.trans ?_))
            · rw [hE]
              refine ⟨?_, ?_⟩
              · simp (disch := omega) only [up_f, up_s, List.length_append, List.length_singleton]; omega
              · refine LA_snoc (LA_ext (fun j hj => by simp (disch := omega) only [up_f, up_k]) rq.2) ?_
                simp (disch := omega) only [up_f, up_s]
            · simp (disch := omega) only [up_f]
          · rw [if_neg hD] at h33
            have hE : coL D t (6 * t + k) (D 55 0 (6 * t + k)) m (c + 1) x = s := by rw [hEq, if_neg (fun z => hD z.2.2.2)]
            unfold b_32_17
            repeat' first
              | (refine V_icmp_ge.mpr ?_; first | rw [if_pos (by omega)] | rw [if_neg (by omega)] | split)
              | (refine V_if_eq.mpr ?_; first | rw [if_pos (by omega)] | rw [if_neg (by omega)] | split)
              | (simp (disch := (first | omega | (simp (disch := omega) only [up_f, up_s, up_i, up_k, up_e]; omega))) only [up_f, up_s, up_i, up_k, up_e, V_iconst, V_bipush, V_sipush, V_conti, V_contn, V_goto, Option.some.injEq, exists_eq_left', true_and, and_true, m_fit, Option.isSome_some, List.map_nil, List.map_cons, List.sum_nil, List.sum_cons, List.all_nil, List.all_cons, m_cat, decide_true, Bool.and_true, Bool.true_and, Nat.zero_le, Int.toNat_natCast, Int.reduceAdd, Int.reduceSub, Int.reduceMul, Int.reduceNeg, Int.reduceLE, Int.reduceLT, Nat.reduceAdd, Nat.reduceLeDiff, Int.reduceToNat, Int.reduceEq, decide_eq_true_eq, true_or, or_true, exists_and_left, and_self, Nat.reduceMul, Nat.reduceSub, Nat.reduceLT, m_oa, Nat.reduceEqDiff, or_false, false_or, Sum.inl.injEq, Sum.inr.injEq, ↓reduceIte, ne_eq, not_false_eq_true, Int.reduceNe, exists_eq_left, D_32, R_32, X_32, F_32_128, F_32_132, F_32_137, F_32_31, F_32_72, J_32_26, F_32_19, I_32_221, J_32_47, I_32_150, J_32_55, F_32_44, I_32_217, J_32_73, I_32_225, J_32_85, I_32_229, I_32_232, J_32_102, V_aloadn1, G_5_1, G_7_3, A_trA0, T_atrA0, B_trA0, G_5_3, U_iaload, V_istore5, V_istore6, V_iload6, V_aloadn0, G_2_0, G_4_5, G_2_2, A_ntW, T_antW, U_aaload, V_astore7, V_aload7, V_iload5, V_iload4, T_8, G_4_4, A_4, T_a4, V_aloadn2, V_aloadn3, T_1, T_2, T_5, V_iinc6, m_add_eq, b_32_0, b_32_99, h59, h57, h15, h33, h1405])
            exact k_32 hn wp ht hm hk z (c + 1) _ _ x S (by omega) (by omega) (by rw [hE]; exact ci) (by rw [hE]; exact hv) hx (by rw [hE]; exact rq) K
        · rw [if_neg hCC] at h15
          have hE : coL D t (6 * t + k) (D 55 0 (6 * t + k)) m (c + 1) x = s := by rw [hEq, if_neg (fun z => hCC z.2.2.1)]
          unfold b_32_17
          repeat' first
            | (refine V_icmp_ge.mpr ?_; first | rw [if_pos (by omega)] | rw [if_neg (by omega)] | split)
            | (refine V_if_eq.mpr ?_; first | rw [if_pos (by omega)] | rw [if_neg (by omega)] | split)
            | (simp (disch := (first | omega | (simp (disch := omega) only [up_f, up_s, up_i, up_k, up_e]; omega))) only [up_f, up_s, up_i, up_k, up_e, V_iconst, V_bipush, V_sipush, V_conti, V_contn, V_goto, Option.some.injEq, exists_eq_left', true_and, and_true, m_fit, Option.isSome_some, List.map_nil, List.map_cons, List.sum_nil, List.sum_cons, List.all_nil, List.all_cons, m_cat, decide_true, Bool.and_true, Bool.true_and, Nat.zero_le, Int.toNat_natCast, Int.reduceAdd, Int.reduceSub, Int.reduceMul, Int.reduceNeg, Int.reduceLE, Int.reduceLT, Nat.reduceAdd, Nat.reduceLeDiff, Int.reduceToNat, Int.reduceEq, decide_eq_true_eq, true_or, or_true, exists_and_left, and_self, Nat.reduceMul, Nat.reduceSub, Nat.reduceLT, m_oa, Nat.reduceEqDiff, or_false, false_or, Sum.inl.injEq, Sum.inr.injEq, ↓reduceIte, ne_eq, not_false_eq_true, Int.reduceNe, exists_eq_left, D_32, R_32, X_32, F_32_128, F_32_132, F_32_137, F_32_31, F_32_72, J_32_26, F_32_19, I_32_221, J_32_47, I_32_150, J_32_55, F_32_44, I_32_217, J_32_73, I_32_225, J_32_85, I_32_229, I_32_232, J_32_102, V_aloadn1, G_5_1, G_7_3, A_trA0, T_atrA0, B_trA0, G_5_3, U_iaload, V_istore5, V_istore6, V_iload6, V_aloadn0, G_2_0, G_4_5, G_2_2, A_ntW, T_antW, U_aaload, V_astore7, V_aload7, V_iload5, V_iload4, T_8, G_4_4, A_4, T_a4, V_aloadn2, V_aloadn3, T_1, T_2, T_5, V_iinc6, m_add_eq, b_32_0, b_32_99, h59, h57, h15, h1405])
          exact k_32 hn wp ht hm hk z (c + 1) _ _ x S (by omega) (by omega) (by rw [hE]; exact ci) (by rw [hE]; exact hv) hx (by rw [hE]; exact rq) K
      · rw [if_neg hB] at h57
        have hE : coL D t (6 * t + k) (D 55 0 (6 * t + k)) m (c + 1) x = s := by rw [hEq, if_neg (fun z => hB z.1)]
        unfold b_32_17
        repeat' first
          | (refine V_icmp_ge.mpr ?_; first | rw [if_pos (by omega)] | rw [if_neg (by omega)] | split)
          | (refine V_if_eq.mpr ?_; first | rw [if_pos (by omega)] | rw [if_neg (by omega)] | split)
          | (simp (disch := (first | omega | (simp (disch := omega) only [up_f, up_s, up_i, up_k, up_e]; omega))) only [up_f, up_s, up_i, up_k, up_e, V_iconst, V_bipush, V_sipush, V_conti, V_contn, V_goto, Option.some.injEq, exists_eq_left', true_and, and_true, m_fit, Option.isSome_some, List.map_nil, List.map_cons, List.sum_nil, List.sum_cons, List.all_nil, List.all_cons, m_cat, decide_true, Bool.and_true, Bool.true_and, Nat.zero_le, Int.toNat_natCast, Int.reduceAdd, Int.reduceSub, Int.reduceMul, Int.reduceNeg, Int.reduceLE, Int.reduceLT, Nat.reduceAdd, Nat.reduceLeDiff, Int.reduceToNat, Int.reduceEq, decide_eq_true_eq, true_or, or_true, exists_and_left, and_self, Nat.reduceMul, Nat.reduceSub, Nat.reduceLT, m_oa, Nat.reduceEqDiff, or_false, false_or, Sum.inl.injEq, Sum.inr.injEq, ↓reduceIte, ne_eq, not_false_eq_true, Int.reduceNe, exists_eq_left, D_32, R_32, X_32, F_32_128, F_32_132, F_32_137, F_32_31, F_32_72, J_32_26, F_32_19, I_32_221, J_32_47, I_32_150, J_32_55, F_32_44, I_32_217, J_32_73, I_32_225, J_32_85, I_32_229, I_32_232, J_32_102, V_aloadn1, G_5_1, G_7_3, A_trA0, T_atrA0, B_trA0, G_5_3, U_iaload, V_istore5, V_istore6, V_iload6, V_aloadn0, G_2_0, G_4_5, G_2_2, A_ntW, T_antW, U_aaload, V_astore7, V_aload7, V_iload5, V_iload4, T_8, G_4_4, A_4, T_a4, V_aloadn2, V_aloadn3, T_1, T_2, T_5, V_iinc6, m_add_eq, b_32_0, b_32_99, h59, h57, h1405])
        exact k_32 hn wp ht hm hk z (c + 1) _ _ x S (by omega) (by omega) (by rw [hE]; exact ci) (by rw [hE]; exact hv) hx (by rw [hE]; exact rq) K
    · rw [if_neg hA] at h59
      have hE : coL D t (6 * t + k) (D 55 0 (6 * t + k)) m (c + 1) x = s := by rw [hEq, if_neg (fun z => hA z.2.1)]
      unfold b_32_17
      repeat' first
        | (refine V_icmp_ge.mpr ?_; first | rw [if_pos (by omega)] | rw [if_neg (by omega)] | split)
        | (refine V_if_eq.mpr ?_; first | rw [if_pos (by omega)] | rw [if_neg (by omega)] | split)
        | (simp (disch := (first | omega | (simp (disch := omega) only [up_f, up_s, up_i, up_k, up_e]; omega))) only [up_f, up_s, up_i, up_k, up_e, V_iconst, V_bipush, V_sipush, V_conti, V_contn, V_goto, Option.some.injEq, exists_eq_left', true_and, and_true, m_fit, Option.isSome_some, List.map_nil, List.map_cons, List.sum_nil, List.sum_cons, List.all_nil, List.all_cons, m_cat, decide_true, Bool.and_true, Bool.true_and, Nat.zero_le, Int.toNat_natCast, Int.reduceAdd, Int.reduceSub, Int.reduceMul, Int.reduceNeg, Int.reduceLE, Int.reduceLT, Nat.reduceAdd, Nat.reduceLeDiff, Int.reduceToNat, Int.reduceEq, decide_eq_true_eq, true_or, or_true, exists_and_left, and_self, Nat.reduceMul, Nat.reduceSub, Nat.reduceLT, m_oa, Nat.reduceEqDiff, or_false, false_or, Sum.inl.injEq, Sum.inr.injEq, ↓reduceIte, ne_eq, not_false_eq_true, Int.reduceNe, exists_eq_left, D_32, R_32, X_32, F_32_128, F_32_132, F_32_137, F_32_31, F_32_72, J_32_26, F_32_19, I_32_221, J_32_47, I_32_150, J_32_55, F_32_44, I_32_217, J_32_73, I_32_225, J_32_85, I_32_229, I_32_232, J_32_102, V_aloadn1, G_5_1, G_7_3, A_trA0, T_atrA0, B_trA0, G_5_3, U_iaload, V_istore5, V_istore6, V_iload6, V_aloadn0, G_2_0, G_4_5, G_2_2, A_ntW, T_antW, U_aaload, V_astore7, V_aload7, V_iload5, V_iload4, T_8, G_4_4, A_4, T_a4, V_aloadn2, V_aloadn3, T_1, T_2, T_5, V_iinc6, m_add_eq, b_32_0, b_32_99, h59, h1405])
      exact k_32 hn wp ht hm hk z (c + 1) _ _ x S (by omega) (by omega) (by rw [hE]; exact ci) (by rw [hE]; exact hv) hx (by rw [hE]; exact rq) K
theorem r_32 {n t T C k : Nat} {D S0 S : Sg} {l : Ls} {m : Int} {x : Sg × List Nat} (hn : n < 3) (wp : WP D T C) (ht : t < T) (hm : 0 ≤ m ∧ m < 2000) (hk : (k : Int) + 2 ≤ D 54 0 t) (ci : CI n T C D S0 S x.1 l t) (hv : V D x.1 (setL l t x.2) T C) (hN : x.1 81 0 t = k) (rq : RQ n t S x.2) :
    ∃ S2, (CI n T C D S0 S2 (coL D t (6 * t + k) (D 55 0 (6 * t + k)) m C x).1 l t ∧ RQ n t S2 (coL D t (6 * t + k) (D 55 0 (6 * t + k)) m C x).2 ∧ S2 1204 n 0 = S 1204 n 0) ∧
      ∀ Q, m_do xs L 32 [vR (nt n), vR (ru n t), vR (st (D 55 0 (6 * t + k)).toNat), vR (st (D 55 0 (6 * t + k + 1)).toNat), vI m] (mk S e) Q ↔ Q (.inl none) (mk S2 e) := by
  have hT : T ≤ 6 := wp.2.2.1
  have ht6 : t < 6 := by omega
  have hk5 : k < 5 := by have := wp.2.2.2.2.1 t ht6; omega
  have h1503 : S 1503 (6 * n + t) 0 = k := by rw [(ci.2.2.1 t ht).2.1, hN]
  have h10 := PC_10 ci.1 ht6 (show k < 6 by omega)
  have hk0 : (k : Int).toNat = k := by omega
  refine m_do_ex ?_
  repeat' first
    | (refine V_icmp_ge.mpr ?_; first | rw [if_pos (by omega)] | rw [if_neg (by omega)] | split)
    | (refine V_if_eq.mpr ?_; first | rw [if_pos (by omega)] | rw [if_neg (by omega)] | split)
    | (simp (disch := (first | omega | (simp (disch := omega) only [up_f, up_s, up_i, up_k, up_e]; omega))) only [up_f, up_s, up_i, up_k, up_e, V_iconst, V_bipush, V_sipush, V_conti, V_contn, V_goto, Option.some.injEq, exists_eq_left', true_and, and_true, m_fit, Option.isSome_some, List.map_nil, List.map_cons, List.sum_nil, List.sum_cons, List.all_nil, List.all_cons, m_cat, decide_true, Bool.and_true, Bool.true_and, Nat.zero_le, Int.toNat_natCast, Int.reduceAdd, Int.reduceSub, Int.reduceMul, Int.reduceNeg, Int.reduceLE, Int.reduceLT, Nat.reduceAdd, Nat.reduceLeDiff, Int.reduceToNat, Int.reduceEq, decide_eq_true_eq, true_or, or_true, exists_and_left, and_self, Nat.reduceMul, Nat.reduceSub, Nat.reduceLT, m_oa, Nat.reduceEqDiff, or_false, false_or, Sum.inl.injEq, Sum.inr.injEq, ↓reduceIte, ne_eq, not_false_eq_true, Int.reduceNe, exists_eq_left, D_32, R_32, X_32, F_32_128, F_32_132, F_32_137, F_32_31, F_32_72, J_32_26, F_32_19, I_32_221, J_32_47, I_32_150, J_32_55, F_32_44, I_32_217, J_32_73, I_32_225, J_32_85, I_32_229, I_32_232, J_32_102, V_aloadn1, G_5_1, G_7_3, A_trA0, T_atrA0, B_trA0, G_5_3, U_iaload, V_istore5, V_istore6, V_iload6, V_aloadn0, G_2_0, G_4_5, G_2_2, A_ntW, T_antW, U_aaload, V_astore7, V_aload7, V_iload5, V_iload4, T_8, G_4_4, A_4, T_a4, V_aloadn2, V_aloadn3, T_1, T_2, T_5, V_iinc6, m_add_eq, b_32_0, b_32_99, h1503, h10, hk0])
  refine k_32 hn wp ht hm hk C 0 _ _ x S (by omega) rfl ci hv hN rq (fun S2 ii v a1 a2 a3 => ?_)
  unfold b_32_105
  repeat' first
    | (refine V_icmp_ge.mpr ?_; first | rw [if_pos (by omega)] | rw [if_neg (by omega)] | split)
    | (refine V_if_eq.mpr ?_; first | rw [if_pos (by omega)] | rw [if_neg (by omega)] | split)
    | (simp (disch := (first | omega | (simp (disch := omega) only [up_f, up_s, up_i, up_k, up_e]; omega))) only [up_f, up_s, up_i, up_k, up_e, V_iconst, V_bipush, V_sipush, V_conti, V_contn, V_goto, Option.some.injEq, exists_eq_left', true_and, and_true, m_fit, Option.isSome_some, List.map_nil, List.map_cons, List.sum_nil, List.sum_cons, List.all_nil, List.all_cons, m_cat, decide_true, Bool.and_true, Bool.true_and, Nat.zero_le, Int.toNat_natCast, Int.reduceAdd, Int.reduceSub, Int.reduceMul, Int.reduceNeg, Int.reduceLE, Int.reduceLT, Nat.reduceAdd, Nat.reduceLeDiff, Int.reduceToNat, Int.reduceEq, decide_eq_true_eq, true_or, or_true, exists_and_left, and_self, Nat.reduceMul, Nat.reduceSub, Nat.reduceLT, m_oa, Nat.reduceEqDiff, or_false, false_or, Sum.inl.injEq, Sum.inr.injEq, ↓reduceIte, ne_eq, not_false_eq_true, Int.reduceNe, exists_eq_left, D_32, R_32, X_32, F_32_128, F_32_132, F_32_137, F_32_31, F_32_72, J_32_26, F_32_19, I_32_221, J_32_47, I_32_150, J_32_55, F_32_44, I_32_217, J_32_73, I_32_225, J_32_85, I_32_229, I_32_232, J_32_102, V_aloadn1, G_5_1, G_7_3, A_trA0, T_atrA0, B_trA0, G_5_3, U_iaload, V_istore5, V_istore6, V_iload6, V_aloadn0, G_2_0, G_4_5, G_2_2, A_ntW, T_antW, U_aaload, V_astore7, V_aload7, V_iload5, V_iload4, T_8, G_4_4, A_4, T_a4, V_aloadn2, V_aloadn3, T_1, T_2, T_5, V_iinc6, m_add_eq, b_32_0, b_32_99])
  exact ⟨S2, rfl, a1, a2, a3⟩
end V
