/-! ===== reckon of the model ===== -/
theorem fillG_z {S : Sg} {G : Nat → Nat → Option Int} {n f j : Nat} (h : j < n) {v : Int} (hv : G f j = some v) : fillG S G n f 0 j = v := by
  unfold fillG
  rw [if_pos ⟨rfl, h⟩, hv]
  rfl
theorem fillG_n {S : Sg} {G : Nat → Nat → Option Int} {n f i j : Nat} (hv : G f j = none) : fillG S G n f i j = S f i j := by
  unfold fillG
  split
  · rw [hv]; rfl
  · rfl
theorem mBeg_f {S : Sg} {f i k : Nat} (h : f < 79 ∨ 93 < f) : mBeg S f i k = S f i k := by
  unfold mBeg
  rw [fillG_n, fillG_n, fillG_n, fillG_n]
  · unfold G1
    rw [if_neg (by omega), if_neg (by omega), if_neg (by omega)]
  · unfold G2
    rw [if_neg (by omega)]
  · unfold G3
    rw [if_neg (by omega), if_neg (by omega)]
  · unfold G4
    rw [if_neg (by omega)]
theorem mBeg_84 {S : Sg} {k : Nat} (hk : k < 6) : mBeg S 84 0 k = 0 := by
  unfold mBeg
  rw [fillG_n (by rfl), fillG_n (by rfl)]
  exact fillG_z hk (by rfl)
theorem RM_mBeg {D S : Sg} (pm : PM D S) : RM (mBeg S) (begN D) := by
  refine ⟨fun f k hk => ?_, fun k hk hn => absurd (by simp [begN]) hn⟩
  have h61 : ∀ c, S 61 0 c = D 61 0 c := fun c => pm.1 61 c rfl
  unfold lim at hk
  unfold mBeg
  by_cases h1 : f = 79
  · subst h1
    simp only [Nat.reduceEqDiff, true_or, if_true] at hk
    rw [fillG_n (by rfl), fillG_n (by rfl), fillG_n (by rfl), fillG_z hk (by rfl)]
    simp [begN]
  · by_cases h2 : f = 80
    · subst h2
      simp at hk
      rw [fillG_n (by rfl), fillG_n (by rfl), fillG_n (by rfl), fillG_z hk (by rfl)]
      simp [begN]
    · by_cases h3 : f = 93
      · subst h3
        simp at hk
        rw [fillG_n (by rfl), fillG_n (by rfl), fillG_n (by rfl), fillG_z hk (by rfl)]
        simp [begN]
      · by_cases h4 : f = 87
        · subst h4
          simp at hk
          rw [fillG_z hk (by rfl)]
          simp [begN]
        · by_cases h5 : f = 88
          · subst h5
            simp at hk
            rw [fillG_n (by rfl), fillG_z hk (by rfl), fillG_n (by rfl), fillG_n (by rfl), h61]
            simp [begN]
          · by_cases h6 : f = 89 ∨ f = 90 ∨ f = 91
            · have hk2 : k < 10 := by
                rcases h6 with rfl | rfl | rfl <;> simpa using hk
              rw [fillG_n (by rcases h6 with rfl | rfl | rfl <;> rfl), fillG_z hk2 (by rcases h6 with rfl | rfl | rfl <;> rfl)]
              rcases h6 with rfl | rfl | rfl <;> simp [begN]
            · by_cases h7 : f = 81 ∨ f = 82
              · have hk2 : k < 6 := by
                  rcases h7 with rfl | rfl <;> simpa using hk
                rw [fillG_n (by rcases h7 with rfl | rfl <;> rfl), fillG_n (by rcases h7 with rfl | rfl <;> rfl), fillG_z hk2 (by rcases h7 with rfl | rfl <;> rfl)]
                rcases h7 with rfl | rfl <;> simp [begN]
              · exfalso
                rw [if_neg (by omega), if_neg (by omega), if_neg (by omega), if_neg (by omega)] at hk
                omega
theorem PM_2034 {D S : Sg} {v : Int} (h : PM D S) : PM D (up S 2034 0 0 v) := by
  refine ⟨fun f j hf => ?_, fun j hj hu => ?_⟩
  · rw [up_f (fun z => by rw [z] at hf; cases hf)]
    exact h.1 f j hf
  · rw [up_f (by decide), up_f (by decide)]
    exact h.2 j hj hu
theorem MR_base {T : Nat} {D S0 S : Sg} {s : St} (h : MR T D S0 S s) : MR T D S S s := ⟨h.1, h.2.1, h.2.2.1, fun _ _ _ _ => rfl⟩
section V
variable {xs : Nat → Int32} {L : Nat} {e : Nat}
theorem k_115a {T C : Nat} {D S0 : Sg} {s : St} {m : Int} {Q : MOut → MHp → Prop} (wp : WP D T C) (hm : 0 ≤ m ∧ m < 2000) (w : WN D T C s) (K : ∀ (S2 : Sg) (ii : Int), MR T D S0 S2 (arA D m T s) → m_ok xs L 115 b_115_74 [vR 296, vI m, vI ii] [] (mk S2 e) Q) : ∀ (z t : Nat) (ii : Int) (S : Sg), t + z = T → ii = t → MR T D S0 S (arA D m t s) → m_ok xs L 115 b_115_23 [vR 296, vI m, vI ii] [] (mk S e) Q
  | 0, t, ii, S, hz, hii, mr => by
    have ht : t = T := by omega
    subst ht
    subst hii
    have h2004 : S 2004 0 0 = t := by rw [mr.1.1 2004 _ rfl]; exact wp.1
    have kk := fun ii => K S ii mr
    unfold b_115_23
    repeat' first
      | (refine V_icmp_ge.mpr ?_; first | rw [if_pos (by omega)] | rw [if_neg (by omega)] | split)
      | (refine V_icmp_ne.mpr ?_; first | rw [if_pos (by omega)] | rw [if_neg (by omega)] | split)
      | (refine V_if_eq.mpr ?_; first | rw [if_pos (by omega)] | rw [if_neg (by omega)] | split)
      | (refine V_if_ne.mpr ?_; first | rw [if_pos (by omega)] | rw [if_neg (by omega)] | split)
      | (simp (disch := (first | omega | (simp (disch := omega) only [up_f, up_s, up_i, up_k, up_e]; omega))) only [up_f, up_s, up_i, up_k, up_e, V_iconst, V_bipush, V_sipush, V_conti, V_contn, V_goto, Option.some.injEq, exists_eq_left', true_and, and_true, m_fit, Option.isSome_some, List.map_nil, List.map_cons, List.sum_nil, List.sum_cons, List.all_nil, List.all_cons, m_cat, decide_true, Bool.and_true, Bool.true_and, Nat.zero_le, Int.toNat_natCast, Int.reduceAdd, Int.reduceSub, Int.reduceMul, Int.reduceNeg, Int.reduceLE, Int.reduceLT, Nat.reduceAdd, Nat.reduceLeDiff, Int.reduceToNat, Int.reduceEq, decide_eq_true_eq, true_or, or_true, exists_and_left, and_self, Nat.reduceMul, Nat.reduceSub, Nat.reduceLT, m_oa, Nat.reduceEqDiff, or_false, false_or, Sum.inl.injEq, Sum.inr.injEq, ↓reduceIte, ne_eq, not_false_eq_true, Int.reduceNe, exists_eq_left, D_115, R_115, X_115, F_115_173, J_115_4, I_115_191, J_115_18, F_115_154, J_115_28, F_115_107, J_115_37, F_115_98, F_115_104, J_115_59, I_115_194, J_115_71, J_115_81, J_115_90, F_115_22, J_115_107, I_115_198, J_115_116, I_115_201, J_115_128, J_115_134, W_115_173, V_aloadn0, G_10_34, T_10, V_istoren1, V_iloadn1, V_istoren2, V_iloadn2, G_10_4, G_10_38, A_329, T_a329, B_329, U_baload, G_10_35, A_326, T_a326, B_326, V_imul, m_mul_eq, G_10_37, A_328, T_a328, B_328, U_iaload, V_iadd, m_add_eq, V_iinc2, G_10_7, A_301, T_a301, B_301, V_isub, m_sub_eq, V_iinc1, P_10_34, b_115_0, b_115_8, b_115_14, b_115_68, b_115_76, b_115_125, b_115_131, b_115_137, h2004])
    all_goals exact kk _
  | z + 1, t, ii, S, hz, hii, mr => by
    subst hii
    have hT : T ≤ 6 := wp.2.2.1
    have ht : t < T := by omega
    have ht6 : t < 6 := by omega
    have h2004 : S 2004 0 0 = T := by rw [mr.1.1 2004 _ rfl]; exact wp.1
    have wA := WN_arA wp hm t s (by omega) w
    have w1 := wA.1 t ht
    have w54 := wp.2.2.2.2.1 t ht6
    obtain ⟨k, hk⟩ : ∃ k : Nat, (arA D m t s).1 81 0 t = k := ⟨((arA D m t s).1 81 0 t).toNat, by omega⟩
    have hkn : ((arA D m t s).1 81 0 t).toNat = k := by omega
    have h81 : S 81 0 t = k := by rw [R81 mr.2.1 ht6, hk]
    have h82 : S 82 0 t = (arA D m t s).1 82 0 t := R82 mr.2.1 ht6
    have hx : (6 * (t : Int) + (k : Int) + 1).toNat = 6 * t + k + 1 := by omega
    by_cases hd : due (arA D m t s).1 t = m
    · have hE : arA D m (t + 1) s = arr D (arA D m t s) t m := by rw [arA, if_pos hd]
      obtain ⟨d1, d2⟩ := due_1 hd hm.2
      rw [hkn] at d2
      have h79 : S 79 0 (6 * t + k + 1) = m := by rw [R79 mr.2.1 (by omega)]; exact d2
      obtain ⟨S2, m2, i117⟩ := r_117 (xs := xs) (L := L) (e := e) wp ht hm hd wA mr
      unfold b_115_23
      repeat' first
        | (refine V_icmp_ge.mpr ?_; first | rw [if_pos (by omega)] | rw [if_neg (by omega)] | split)
        | (refine V_icmp_ne.mpr ?_; first | rw [if_pos (by omega)] | rw [if_neg (by omega)] | split)
        | (refine V_if_eq.mpr ?_; first | rw [if_pos (by omega)] | rw [if_neg (by omega)] | split)
        | (refine V_if_ne.mpr ?_; first | rw [if_pos (by omega)] | rw [if_neg (by omega)] | split)
        | (simp (disch := (first | omega | (simp (disch := omega) only [up_f, up_s, up_i, up_k, up_e]; omega))) only [up_f, up_s, up_i, up_k, up_e, V_iconst, V_bipush, V_sipush, V_conti, V_contn, V_goto, Option.some.injEq, exists_eq_left', true_and, and_true, m_fit, Option.isSome_some, List.map_nil, List.map_cons, List.sum_nil, List.sum_cons, List.all_nil, List.all_cons, m_cat, decide_true, Bool.and_true, Bool.true_and, Nat.zero_le, Int.toNat_natCast, Int.reduceAdd, Int.reduceSub, Int.reduceMul, Int.reduceNeg, Int.reduceLE, Int.reduceLT, Nat.reduceAdd, Nat.reduceLeDiff, Int.reduceToNat, Int.reduceEq, decide_eq_true_eq, true_or, or_true, exists_and_left, and_self, Nat.reduceMul, Nat.reduceSub, Nat.reduceLT, m_oa, Nat.reduceEqDiff, or_false, false_or, Sum.inl.injEq, Sum.inr.injEq, ↓reduceIte, ne_eq, not_false_eq_true, Int.reduceNe, exists_eq_left, D_115, R_115, X_115, F_115_173, J_115_4, I_115_191, J_115_18, F_115_154, J_115_28, F_115_107, J_115_37, F_115_98, F_115_104, J_115_59, I_115_194, J_115_71, J_115_81, J_115_90, F_115_22, J_115_107, I_115_198, J_115_116, I_115_201, J_115_128, J_115_134, W_115_173, V_aloadn0, G_10_34, T_10, V_istoren1, V_iloadn1, V_istoren2, V_iloadn2, G_10_4, G_10_38, A_329, T_a329, B_329, U_baload, G_10_35, A_326, T_a326, B_326, V_imul, m_mul_eq, G_10_37, A_328, T_a328, B_328, U_iaload, V_iadd, m_add_eq, V_iinc2, G_10_7, A_301, T_a301, B_301, V_isub, m_sub_eq, V_iinc1, P_10_34, b_115_0, b_115_8, b_115_14, b_115_68, b_115_76, b_115_125, b_115_131, b_115_137, h2004, h81, h82, hx, h79, i117])
      exact k_115a wp hm w K z (t + 1) _ S2 (by omega) (by omega) (by rw [hE]; exact m2)
    · have hE : arA D m (t + 1) s = arA D m t s := by rw [arA, if_neg hd]
      have kk := k_115a wp hm w K z (t + 1) ((t : Int) + 1) S (by omega) (by omega) (by rw [hE]; exact mr)
      by_cases h0 : (arA D m t s).1 82 0 t = 0
      · unfold b_115_23
        repeat' first
          | (refine V_icmp_ge.mpr ?_; first | rw [if_pos (by omega)] | rw [if_neg (by omega)] | split)
          | (refine V_icmp_ne.mpr ?_; first | rw [if_pos (by omega)] | rw [if_neg (by omega)] | split)
          | (refine V_if_eq.mpr ?_; first | rw [if_pos (by omega)] | rw [if_neg (by omega)] | split)
          | (refine V_if_ne.mpr ?_; first | rw [if_pos (by omega)] | rw [if_neg (by omega)] | split)
          | (simp (disch := (first | omega | (simp (disch := omega) only [up_f, up_s, up_i, up_k, up_e]; omega))) only [up_f, up_s, up_i, up_k, up_e, V_iconst, V_bipush, V_sipush, V_conti, V_contn, V_goto, Option.some.injEq, exists_eq_left', true_and, and_true, m_fit, Option.isSome_some, List.map_nil, List.map_cons, List.sum_nil, List.sum_cons, List.all_nil, List.all_cons, m_cat, decide_true, Bool.and_true, Bool.true_and, Nat.zero_le, Int.toNat_natCast, Int.reduceAdd, Int.reduceSub, Int.reduceMul, Int.reduceNeg, Int.reduceLE, Int.reduceLT, Nat.reduceAdd, Nat.reduceLeDiff, Int.reduceToNat, Int.reduceEq, decide_eq_true_eq, true_or, or_true, exists_and_left, and_self, Nat.reduceMul, Nat.reduceSub, Nat.reduceLT, m_oa, Nat.reduceEqDiff, or_false, false_or, Sum.inl.injEq, Sum.inr.injEq, ↓reduceIte, ne_eq, not_false_eq_true, Int.reduceNe, exists_eq_left, D_115, R_115, X_115, F_115_173, J_115_4, I_115_191, J_115_18, F_115_154, J_115_28, F_115_107, J_115_37, F_115_98, F_115_104, J_115_59, I_115_194, J_115_71, J_115_81, J_115_90, F_115_22, J_115_107, I_115_198, J_115_116, I_115_201, J_115_128, J_115_134, W_115_173, V_aloadn0, G_10_34, T_10, V_istoren1, V_iloadn1, V_istoren2, V_iloadn2, G_10_4, G_10_38, A_329, T_a329, B_329, U_baload, G_10_35, A_326, T_a326, B_326, V_imul, m_mul_eq, G_10_37, A_328, T_a328, B_328, U_iaload, V_iadd, m_add_eq, V_iinc2, G_10_7, A_301, T_a301, B_301, V_isub, m_sub_eq, V_iinc1, P_10_34, b_115_0, b_115_8, b_115_14, b_115_68, b_115_76, b_115_125, b_115_131, b_115_137, h2004, h81, h82, hx])
        exact kk
      · have h79 : ¬ S 79 0 (6 * t + k + 1) = m := by
          rw [R79 mr.2.1 (by omega)]
          unfold due at hd
          rw [if_neg h0, hkn] at hd
          exact hd
        unfold b_115_23
        repeat' first
          | (refine V_icmp_ge.mpr ?_; first | rw [if_pos (by omega)] | rw [if_neg (by omega)] | split)
          | (refine V_icmp_ne.mpr ?_; first | rw [if_pos (by omega)] | rw [if_neg (by omega)] | split)
          | (refine V_if_eq.mpr ?_; first | rw [if_pos (by omega)] | rw [if_neg (by omega)] | split)
          | (refine V_if_ne.mpr ?_; first | rw [if_pos (by omega)] | rw [if_neg (by omega)] | split)
          | (simp (disch := (first | omega | (simp (disch := omega) only [up_f, up_s, up_i, up_k, up_e]; omega))) only [up_f, up_s, up_i, up_k, up_e, V_iconst, V_bipush, V_sipush, V_conti, V_contn, V_goto, Option.some.injEq, exists_eq_left', true_and, and_true, m_fit, Option.isSome_some, List.map_nil, List.map_cons, List.sum_nil, List.sum_cons, List.all_nil, List.all_cons, m_cat, decide_true, Bool.and_true, Bool.true_and, Nat.zero_le, Int.toNat_natCast, Int.reduceAdd, Int.reduceSub, Int.reduceMul, Int.reduceNeg, Int.reduceLE, Int.reduceLT, Nat.reduceAdd, Nat.reduceLeDiff, Int.reduceToNat, Int.reduceEq, decide_eq_true_eq, true_or, or_true, exists_and_left, and_self, Nat.reduceMul, Nat.reduceSub, Nat.reduceLT, m_oa, Nat.reduceEqDiff, or_false, false_or, Sum.inl.injEq, Sum.inr.injEq, ↓reduceIte, ne_eq, not_false_eq_true, Int.reduceNe, exists_eq_left, D_115, R_115, X_115, F_115_173, J_115_4, I_115_191, J_115_18, F_115_154, J_115_28, F_115_107, J_115_37, F_115_98, F_115_104, J_115_59, I_115_194, J_115_71, J_115_81, J_115_90, F_115_22, J_115_107, I_115_198, J_115_116, I_115_201, J_115_128, J_115_134, W_115_173, V_aloadn0, G_10_34, T_10, V_istoren1, V_iloadn1, V_istoren2, V_iloadn2, G_10_4, G_10_38, A_329, T_a329, B_329, U_baload, G_10_35, A_326, T_a326, B_326, V_imul, m_mul_eq, G_10_37, A_328, T_a328, B_328, U_iaload, V_iadd, m_add_eq, V_iinc2, G_10_7, A_301, T_a301, B_301, V_isub, m_sub_eq, V_iinc1, P_10_34, b_115_0, b_115_8, b_115_14, b_115_68, b_115_76, b_115_125, b_115_131, b_115_137, h2004, h81, h82, hx, h79])
        exact kk
theorem k_115b {T C : Nat} {D S0 : Sg} {s : St} {m : Int} {Q : MOut → MHp → Prop} (wp : WP D T C) (hm : 0 ≤ m ∧ m < 2000) (w : WN D T C s) (K : ∀ (S2 : Sg) (ii : Int), MR T D S0 S2 (deA D m T s) → m_ok xs L 115 b_115_131 [vR 296, vI m, vI ii] [] (mk S2 e) Q) : ∀ (z t : Nat) (ii : Int) (S : Sg), t + z = T → ii = t → MR T D S0 S (deA D m t s) → m_ok xs L 115 b_115_76 [vR 296, vI m, vI ii] [] (mk S e) Q
  | 0, t, ii, S, hz, hii, mr => by
    have ht : t = T := by omega
    subst ht
    subst hii
    have h2004 : S 2004 0 0 = t := by rw [mr.1.1 2004 _ rfl]; exact wp.1
    have kk := fun ii => K S ii mr
    unfold b_115_76
    repeat' first
      | (refine V_icmp_ge.mpr ?_; first | rw [if_pos (by omega)] | rw [if_neg (by omega)] | split)
      | (refine V_icmp_ne.mpr ?_; first | rw [if_pos (by omega)] | rw [if_neg (by omega)] | split)
      | (refine V_if_eq.mpr ?_; first | rw [if_pos (by omega)] | rw [if_neg (by omega)] | split)
      | (refine V_if_ne.mpr ?_; first | rw [if_pos (by omega)] | rw [if_neg (by omega)] | split)
      | (simp (disch := (first | omega | (simp (disch := omega) only [up_f, up_s, up_i, up_k, up_e]; omega))) only [up_f, up_s, up_i, up_k, up_e, V_iconst, V_bipush, V_sipush, V_conti, V_contn, V_goto, Option.some.injEq, exists_eq_left', true_and, and_true, m_fit, Option.isSome_some, List.map_nil, List.map_cons, List.sum_nil, List.sum_cons, List.all_nil, List.all_cons, m_cat, decide_true, Bool.and_true, Bool.true_and, Nat.zero_le, Int.toNat_natCast, Int.reduceAdd, Int.reduceSub, Int.reduceMul, Int.reduceNeg, Int.reduceLE, Int.reduceLT, Nat.reduceAdd, Nat.reduceLeDiff, Int.reduceToNat, Int.reduceEq, decide_eq_true_eq, true_or, or_true, exists_and_left, and_self, Nat.reduceMul, Nat.reduceSub, Nat.reduceLT, m_oa, Nat.reduceEqDiff, or_false, false_or, Sum.inl.injEq, Sum.inr.injEq, ↓reduceIte, ne_eq, not_false_eq_true, Int.reduceNe, exists_eq_left, D_115, R_115, X_115, F_115_173, J_115_4, I_115_191, J_115_18, F_115_154, J_115_28, F_115_107, J_115_37, F_115_98, F_115_104, J_115_59, I_115_194, J_115_71, J_115_81, J_115_90, F_115_22, J_115_107, I_115_198, J_115_116, I_115_201, J_115_128, J_115_134, W_115_173, V_aloadn0, G_10_34, T_10, V_istoren1, V_iloadn1, V_istoren2, V_iloadn2, G_10_4, G_10_38, A_329, T_a329, B_329, U_baload, G_10_35, A_326, T_a326, B_326, V_imul, m_mul_eq, G_10_37, A_328, T_a328, B_328, U_iaload, V_iadd, m_add_eq, V_iinc2, G_10_7, A_301, T_a301, B_301, V_isub, m_sub_eq, V_iinc1, P_10_34, b_115_0, b_115_8, b_115_14, b_115_23, b_115_68, b_115_74, b_115_125, b_115_137, h2004])
    all_goals exact kk _
  | z + 1, t, ii, S, hz, hii, mr => by
    subst hii
    have hT : T ≤ 6 := wp.2.2.1
    have ht : t < T := by omega
    have ht6 : t < 6 := by omega
    have h2004 : S 2004 0 0 = T := by rw [mr.1.1 2004 _ rfl]; exact wp.1
    have wA := WN_deA wp hm t s (by omega) w
    have w1 := wA.1 t ht
    have w54 := wp.2.2.2.2.1 t ht6
    have h81 : S 81 0 t = (deA D m t s).1 81 0 t := R81 mr.2.1 ht6
    have h82 : S 82 0 t = (deA D m t s).1 82 0 t := R82 mr.2.1 ht6
    have h54 : S 54 0 t = D 54 0 t := mr.1.1 54 _ rfl
    by_cases h0 : (deA D m t s).1 82 0 t = 0 ∧ (deA D m t s).1 81 0 t + 2 ≤ D 54 0 t
    · have i120 := r_120 (xs := xs) (L := L) (e := e) wp ht hm wA.1 wA.2.2.1 wA.2.2.2.2.1 mr.1 mr.2.1 h0.1 h0.2
      have h01 := h0.1
      have h02 : ¬ D 54 0 t - 1 ≤ (deA D m t s).1 81 0 t := by omega
      by_cases hl : lev D (deA D m t s).1 t m
      · have hE : deA D m (t + 1) s = dep D (deA D m t s) t m := by rw [deA, if_pos hl]
        obtain ⟨S2, m2, i126⟩ := r_126 (xs := xs) (L := L) (e := e) wp ht hm h0.2 wA mr
        simp only [iP_1 hl] at i120
        unfold b_115_76
        repeat' first
          | (refine V_icmp_ge.mpr ?_; first | rw [if_pos (by omega)] | rw [if_neg (by omega)] | split)
          | (refine V_icmp_ne.mpr ?_; first | rw [if_pos (by omega)] | rw [if_neg (by omega)] | split)
          | (refine V_if_eq.mpr ?_; first | rw [if_pos (by omega)] | rw [if_neg (by omega)] | split)
          | (refine V_if_ne.mpr ?_; first | rw [if_pos (by omega)] | rw [if_neg (by omega)] | split)
          | (simp (disch := (first | omega | (simp (disch := omega) only [up_f, up_s, up_i, up_k, up_e]; omega))) only [up_f, up_s, up_i, up_k, up_e, V_iconst, V_bipush, V_sipush, V_conti, V_contn, V_goto, Option.some.injEq, exists_eq_left', true_and, and_true, m_fit, Option.isSome_some, List.map_nil, List.map_cons, List.sum_nil, List.sum_cons, List.all_nil, List.all_cons, m_cat, decide_true, Bool.and_true, Bool.true_and, Nat.zero_le, Int.toNat_natCast, Int.reduceAdd, Int.reduceSub, Int.reduceMul, Int.reduceNeg, Int.reduceLE, Int.reduceLT, Nat.reduceAdd, Nat.reduceLeDiff, Int.reduceToNat, Int.reduceEq, decide_eq_true_eq, true_or, or_true, exists_and_left, and_self, Nat.reduceMul, Nat.reduceSub, Nat.reduceLT, m_oa, Nat.reduceEqDiff, or_false, false_or, Sum.inl.injEq, Sum.inr.injEq, ↓reduceIte, ne_eq, not_false_eq_true, Int.reduceNe, exists_eq_left, D_115, R_115, X_115, F_115_173, J_115_4, I_115_191, J_115_18, F_115_154, J_115_28, F_115_107, J_115_37, F_115_98, F_115_104, J_115_59, I_115_194, J_115_71, J_115_81, J_115_90, F_115_22, J_115_107, I_115_198, J_115_116, I_115_201, J_115_128, J_115_134, W_115_173, V_aloadn0, G_10_34, T_10, V_istoren1, V_iloadn1, V_istoren2, V_iloadn2, G_10_4, G_10_38, A_329, T_a329, B_329, U_baload, G_10_35, A_326, T_a326, B_326, V_imul, m_mul_eq, G_10_37, A_328, T_a328, B_328, U_iaload, V_iadd, m_add_eq, V_iinc2, G_10_7, A_301, T_a301, B_301, V_isub, m_sub_eq, V_iinc1, P_10_34, b_115_0, b_115_8, b_115_14, b_115_23, b_115_68, b_115_74, b_115_125, b_115_137, h2004, h81, h82, h54, h01, i120, i126])
        exact k_115b wp hm w K z (t + 1) _ S2 (by omega) (by omega) (by rw [hE]; exact m2)
      · have hE : deA D m (t + 1) s = deA D m t s := by rw [deA, if_neg hl]
        simp only [iP_0 hl] at i120
        unfold b_115_76
        repeat' first
          | (refine V_icmp_ge.mpr ?_; first | rw [if_pos (by omega)] | rw [if_neg (by omega)] | split)
          | (refine V_icmp_ne.mpr ?_; first | rw [if_pos (by omega)] | rw [if_neg (by omega)] | split)
          | (refine V_if_eq.mpr ?_; first | rw [if_pos (by omega)] | rw [if_neg (by omega)] | split)
          | (refine V_if_ne.mpr ?_; first | rw [if_pos (by omega)] | rw [if_neg (by omega)] | split)
          | (simp (disch := (first | omega | (simp (disch := omega) only [up_f, up_s, up_i, up_k, up_e]; omega))) only [up_f, up_s, up_i, up_k, up_e, V_iconst, V_bipush, V_sipush, V_conti, V_contn, V_goto, Option.some.injEq, exists_eq_left', true_and, and_true, m_fit, Option.isSome_some, List.map_nil, List.map_cons, List.sum_nil, List.sum_cons, List.all_nil, List.all_cons, m_cat, decide_true, Bool.and_true, Bool.true_and, Nat.zero_le, Int.toNat_natCast, Int.reduceAdd, Int.reduceSub, Int.reduceMul, Int.reduceNeg, Int.reduceLE, Int.reduceLT, Nat.reduceAdd, Nat.reduceLeDiff, Int.reduceToNat, Int.reduceEq, decide_eq_true_eq, true_or, or_true, exists_and_left, and_self, Nat.reduceMul, Nat.reduceSub, Nat.reduceLT, m_oa, Nat.reduceEqDiff, or_false, false_or, Sum.inl.injEq, Sum.inr.injEq, ↓reduceIte, ne_eq, not_false_eq_true, Int.reduceNe, exists_eq_left, D_115, R_115, X_115, F_115_173, J_115_4, I_115_191, J_115_18, F_115_154, J_115_28, F_115_107, J_115_37, F_115_98, F_115_104, J_115_59, I_115_194, J_115_71, J_115_81, J_115_90, F_115_22, J_115_107, I_115_198, J_115_116, I_115_201, J_115_128, J_115_134, W_115_173, V_aloadn0, G_10_34, T_10, V_istoren1, V_iloadn1, V_istoren2, V_iloadn2, G_10_4, G_10_38, A_329, T_a329, B_329, U_baload, G_10_35, A_326, T_a326, B_326, V_imul, m_mul_eq, G_10_37, A_328, T_a328, B_328, U_iaload, V_iadd, m_add_eq, V_iinc2, G_10_7, A_301, T_a301, B_301, V_isub, m_sub_eq, V_iinc1, P_10_34, b_115_0, b_115_8, b_115_14, b_115_23, b_115_68, b_115_74, b_115_125, b_115_137, h2004, h81, h82, h54, h01, i120])
        exact k_115b wp hm w K z (t + 1) _ S (by omega) (by omega) (by rw [hE]; exact mr)
    · have hl : ¬ lev D (deA D m t s).1 t m := fun z => h0 (lev_1 z hm.2)
      have hE : deA D m (t + 1) s = deA D m t s := by rw [deA, if_neg hl]
      have kk := k_115b wp hm w K z (t + 1) ((t : Int) + 1) S (by omega) (by omega) (by rw [hE]; exact mr)
      by_cases h01 : (deA D m t s).1 82 0 t = 0
      · have h02 : D 54 0 t - 1 ≤ (deA D m t s).1 81 0 t := by
          have : ¬ (deA D m t s).1 81 0 t + 2 ≤ D 54 0 t := fun z => h0 ⟨h01, z⟩
          omega
        unfold b_115_76
        repeat' first
          | (refine V_icmp_ge.mpr ?_; first | rw [if_pos (by omega)] | rw [if_neg (by omega)] | split)
          | (refine V_icmp_ne.mpr ?_; first | rw [if_pos (by omega)] | rw [if_neg (by omega)] | split)
          | (refine V_if_eq.mpr ?_; first | rw [if_pos (by omega)] | rw [if_neg (by omega)] | split)
          | (refine V_if_ne.mpr ?_; first | rw [if_pos (by omega)] | rw [if_neg (by omega)] | split)
          | (simp (disch := (first | omega | (simp (disch := omega) only [up_f, up_s, up_i, up_k, up_e]; omega))) only [up_f, up_s, up_i, up_k, up_e, V_iconst, V_bipush, V_sipush, V_conti, V_contn, V_goto, Option.some.injEq, exists_eq_left', true_and, and_true, m_fit, Option.isSome_some, List.map_nil, List.map_cons, List.sum_nil, List.sum_cons, List.all_nil, List.all_cons, m_cat, decide_true, Bool.and_true, Bool.true_and, Nat.zero_le, Int.toNat_natCast, Int.reduceAdd, Int.reduceSub, Int.reduceMul, Int.reduceNeg, Int.reduceLE, Int.reduceLT, Nat.reduceAdd, Nat.reduceLeDiff, Int.reduceToNat, Int.reduceEq, decide_eq_true_eq, true_or, or_true, exists_and_left, and_self, Nat.reduceMul, Nat.reduceSub, Nat.reduceLT, m_oa, Nat.reduceEqDiff, or_false, false_or, Sum.inl.injEq, Sum.inr.injEq, ↓reduceIte, ne_eq, not_false_eq_true, Int.reduceNe, exists_eq_left, D_115, R_115, X_115, F_115_173, J_115_4, I_115_191, J_115_18, F_115_154, J_115_28, F_115_107, J_115_37, F_115_98, F_115_104, J_115_59, I_115_194, J_115_71, J_115_81, J_115_90, F_115_22, J_115_107, I_115_198, J_115_116, I_115_201, J_115_128, J_115_134, W_115_173, V_aloadn0, G_10_34, T_10, V_istoren1, V_iloadn1, V_istoren2, V_iloadn2, G_10_4, G_10_38, A_329, T_a329, B_329, U_baload, G_10_35, A_326, T_a326, B_326, V_imul, m_mul_eq, G_10_37, A_328, T_a328, B_328, U_iaload, V_iadd, m_add_eq, V_iinc2, G_10_7, A_301, T_a301, B_301, V_isub, m_sub_eq, V_iinc1, P_10_34, b_115_0, b_115_8, b_115_14, b_115_23, b_115_68, b_115_74, b_115_125, b_115_137, h2004, h81, h82, h54, h01])
        exact kk
      · unfold b_115_76
        repeat' first
          | (refine V_icmp_ge.mpr ?_; first | rw [if_pos (by omega)] | rw [if_neg (by omega)] | split)
          | (refine V_icmp_ne.mpr ?_; first | rw [if_pos (by omega)] | rw [if_neg (by omega)] | split)
          | (refine V_if_eq.mpr ?_; first | rw [if_pos (by omega)] | rw [if_neg (by omega)] | split)
          | (refine V_if_ne.mpr ?_; first | rw [if_pos (by omega)] | rw [if_neg (by omega)] | split)
          | (simp (disch := (first | omega | (simp (disch := omega) only [up_f, up_s, up_i, up_k, up_e]; omega))) only [up_f, up_s, up_i, up_k, up_e, V_iconst, V_bipush, V_sipush, V_conti, V_contn, V_goto, Option.some.injEq, exists_eq_left', true_and, and_true, m_fit, Option.isSome_some, List.map_nil, List.map_cons, List.sum_nil, List.sum_cons, List.all_nil, List.all_cons, m_cat, decide_true, Bool.and_true, Bool.true_and, Nat.zero_le, Int.toNat_natCast, Int.reduceAdd, Int.reduceSub, Int.reduceMul, Int.reduceNeg, Int.reduceLE, Int.reduceLT, Nat.reduceAdd, Nat.reduceLeDiff, Int.reduceToNat, Int.reduceEq, decide_eq_true_eq, true_or, or_true, exists_and_left, and_self, Nat.reduceMul, Nat.reduceSub, Nat.reduceLT, m_oa, Nat.reduceEqDiff, or_false, false_or, Sum.inl.injEq, Sum.inr.injEq, ↓reduceIte, ne_eq, not_false_eq_true, Int.reduceNe, exists_eq_left, D_115, R_115, X_115, F_115_173, J_115_4, I_115_191, J_115_18, F_115_154, J_115_28, F_115_107, J_115_37, F_115_98, F_115_104, J_115_59, I_115_194, J_115_71, J_115_81, J_115_90, F_115_22, J_115_107, I_115_198, J_115_116, I_115_201, J_115_128, J_115_134, W_115_173, V_aloadn0, G_10_34, T_10, V_istoren1, V_iloadn1, V_istoren2, V_iloadn2, G_10_4, G_10_38, A_329, T_a329, B_329, U_baload, G_10_35, A_326, T_a326, B_326, V_imul, m_mul_eq, G_10_37, A_328, T_a328, B_328, U_iaload, V_iadd, m_add_eq, V_iinc2, G_10_7, A_301, T_a301, B_301, V_isub, m_sub_eq, V_iinc1, P_10_34, b_115_0, b_115_8, b_115_14, b_115_23, b_115_68, b_115_74, b_115_125, b_115_137, h2004, h81, h82, h54])
        exact kk
theorem k_115 {T C : Nat} {D S0 : Sg} {Q : MOut → MHp → Prop} (wp : WP D T C) (K : ∀ (S2 : Sg) (mm : Int) (v : MV), MR T D S0 S2 (recA D) → m_ok xs L 115 b_115_137 [vR 296, vI mm, v] [] (mk S2 e) Q) : ∀ (z j : Nat) (mm : Int) (v : MV) (S : Sg), j + z = 2000 → mm = j → MR T D S0 S (ruA D j) → m_ok xs L 115 b_115_14 [vR 296, vI mm, v] [] (mk S e) Q
  | 0, j, mm, v, S, hz, hmm, mr => by
    have hj : j = 2000 := by omega
    subst hmm hj
    have kk := fun mm v => K S mm v mr
    unfold b_115_14
    repeat' first
      | (refine V_icmp_ge.mpr ?_; first | rw [if_pos (by omega)] | rw [if_neg (by omega)] | split)
      | (refine V_icmp_ne.mpr ?_; first | rw [if_pos (by omega)] | rw [if_neg (by omega)] | split)
      | (refine V_if_eq.mpr ?_; first | rw [if_pos (by omega)] | rw [if_neg (by omega)] | split)
      | (refine V_if_ne.mpr ?_; first | rw [if_pos (by omega)] | rw [if_neg (by omega)] | split)
      | (simp (disch := (first | omega | (simp (disch := omega) only [up_f, up_s, up_i, up_k, up_e]; omega))) only [up_f, up_s, up_i, up_k, up_e, V_iconst, V_bipush, V_sipush, V_conti, V_contn, V_goto, Option.some.injEq, exists_eq_left', true_and, and_true, m_fit, Option.isSome_some, List.map_nil, List.map_cons, List.sum_nil, List.sum_cons, List.all_nil, List.all_cons, m_cat, decide_true, Bool.and_true, Bool.true_and, Nat.zero_le, Int.toNat_natCast, Int.reduceAdd, Int.reduceSub, Int.reduceMul, Int.reduceNeg, Int.reduceLE, Int.reduceLT, Nat.reduceAdd, Nat.reduceLeDiff, Int.reduceToNat, Int.reduceEq, decide_eq_true_eq, true_or, or_true, exists_and_left, and_self, Nat.reduceMul, Nat.reduceSub, Nat.reduceLT, m_oa, Nat.reduceEqDiff, or_false, false_or, Sum.inl.injEq, Sum.inr.injEq, ↓reduceIte, ne_eq, not_false_eq_true, Int.reduceNe, exists_eq_left, D_115, R_115, X_115, F_115_173, J_115_4, I_115_191, J_115_18, F_115_154, J_115_28, F_115_107, J_115_37, F_115_98, F_115_104, J_115_59, I_115_194, J_115_71, J_115_81, J_115_90, F_115_22, J_115_107, I_115_198, J_115_116, I_115_201, J_115_128, J_115_134, W_115_173, V_aloadn0, G_10_34, T_10, V_istoren1, V_iloadn1, V_istoren2, V_iloadn2, G_10_4, G_10_38, A_329, T_a329, B_329, U_baload, G_10_35, A_326, T_a326, B_326, V_imul, m_mul_eq, G_10_37, A_328, T_a328, B_328, U_iaload, V_iadd, m_add_eq, V_iinc2, G_10_7, A_301, T_a301, B_301, V_isub, m_sub_eq, V_iinc1, P_10_34, b_115_0, b_115_8, b_115_23, b_115_68, b_115_74, b_115_76, b_115_125, b_115_131])
    all_goals exact kk _ _
  | z + 1, j, mm, v, S, hz, hmm, mr => by
    subst hmm
    have hT : (D 2004 0 0).toNat = T := by have := wp.1; omega
    have hj : (0 : Int) ≤ j ∧ (j : Int) < 2000 := by omega
    have w := WN_ruA wp j (by omega)
    unfold b_115_14
    repeat' first
      | (refine V_icmp_ge.mpr ?_; first | rw [if_pos (by omega)] | rw [if_neg (by omega)] | split)
      | (refine V_icmp_ne.mpr ?_; first | rw [if_pos (by omega)] | rw [if_neg (by omega)] | split)
      | (refine V_if_eq.mpr ?_; first | rw [if_pos (by omega)] | rw [if_neg (by omega)] | split)
      | (refine V_if_ne.mpr ?_; first | rw [if_pos (by omega)] | rw [if_neg (by omega)] | split)
      | (simp (disch := (first | omega | (simp (disch := omega) only [up_f, up_s, up_i, up_k, up_e]; omega))) only [up_f, up_s, up_i, up_k, up_e, V_iconst, V_bipush, V_sipush, V_conti, V_contn, V_goto, Option.some.injEq, exists_eq_left', true_and, and_true, m_fit, Option.isSome_some, List.map_nil, List.map_cons, List.sum_nil, List.sum_cons, List.all_nil, List.all_cons, m_cat, decide_true, Bool.and_true, Bool.true_and, Nat.zero_le, Int.toNat_natCast, Int.reduceAdd, Int.reduceSub, Int.reduceMul, Int.reduceNeg, Int.reduceLE, Int.reduceLT, Nat.reduceAdd, Nat.reduceLeDiff, Int.reduceToNat, Int.reduceEq, decide_eq_true_eq, true_or, or_true, exists_and_left, and_self, Nat.reduceMul, Nat.reduceSub, Nat.reduceLT, m_oa, Nat.reduceEqDiff, or_false, false_or, Sum.inl.injEq, Sum.inr.injEq, ↓reduceIte, ne_eq, not_false_eq_true, Int.reduceNe, exists_eq_left, D_115, R_115, X_115, F_115_173, J_115_4, I_115_191, J_115_18, F_115_154, J_115_28, F_115_107, J_115_37, F_115_98, F_115_104, J_115_59, I_115_194, J_115_71, J_115_81, J_115_90, F_115_22, J_115_107, I_115_198, J_115_116, I_115_201, J_115_128, J_115_134, W_115_173, V_aloadn0, G_10_34, T_10, V_istoren1, V_iloadn1, V_istoren2, V_iloadn2, G_10_4, G_10_38, A_329, T_a329, B_329, U_baload, G_10_35, A_326, T_a326, B_326, V_imul, m_mul_eq, G_10_37, A_328, T_a328, B_328, U_iaload, V_iadd, m_add_eq, V_iinc2, G_10_7, A_301, T_a301, B_301, V_isub, m_sub_eq, V_iinc1, P_10_34, b_115_0, b_115_8, b_115_68, b_115_74, b_115_125, b_115_131, b_115_137])
    refine k_115a wp hj w (fun S2 ii m2 => ?_) T 0 0 S (by omega) rfl mr
    unfold b_115_74
    repeat' first
      | (refine V_icmp_ge.mpr ?_; first | rw [if_pos (by omega)] | rw [if_neg (by omega)] | split)
      | (refine V_icmp_ne.mpr ?_; first | rw [if_pos (by omega)] | rw [if_neg (by omega)] | split)
      | (refine V_if_eq.mpr ?_; first | rw [if_pos (by omega)] | rw [if_neg (by omega)] | split)
      | (refine V_if_ne.mpr ?_; first | rw [if_pos (by omega)] | rw [if_neg (by omega)] | split)
      | (simp (disch := (first | omega | (simp (disch := omega) only [up_f, up_s, up_i, up_k, up_e]; omega))) only [up_f, up_s, up_i, up_k, up_e, V_iconst, V_bipush, V_sipush, V_conti, V_contn, V_goto, Option.some.injEq, exists_eq_left', true_and, and_true, m_fit, Option.isSome_some, List.map_nil, List.map_cons, List.sum_nil, List.sum_cons, List.all_nil, List.all_cons, m_cat, decide_true, Bool.and_true, Bool.true_and, Nat.zero_le, Int.toNat_natCast, Int.reduceAdd, Int.reduceSub, Int.reduceMul, Int.reduceNeg, Int.reduceLE, Int.reduceLT, Nat.reduceAdd, Nat.reduceLeDiff, Int.reduceToNat, Int.reduceEq, decide_eq_true_eq, true_or, or_true, exists_and_left, and_self, Nat.reduceMul, Nat.reduceSub, Nat.reduceLT, m_oa, Nat.reduceEqDiff, or_false, false_or, Sum.inl.injEq, Sum.inr.injEq, ↓reduceIte, ne_eq, not_false_eq_true, Int.reduceNe, exists_eq_left, D_115, R_115, X_115, F_115_173, J_115_4, I_115_191, J_115_18, F_115_154, J_115_28, F_115_107, J_115_37, F_115_98, F_115_104, J_115_59, I_115_194, J_115_71, J_115_81, J_115_90, F_115_22, J_115_107, I_115_198, J_115_116, I_115_201, J_115_128, J_115_134, W_115_173, V_aloadn0, G_10_34, T_10, V_istoren1, V_iloadn1, V_istoren2, V_iloadn2, G_10_4, G_10_38, A_329, T_a329, B_329, U_baload, G_10_35, A_326, T_a326, B_326, V_imul, m_mul_eq, G_10_37, A_328, T_a328, B_328, U_iaload, V_iadd, m_add_eq, V_iinc2, G_10_7, A_301, T_a301, B_301, V_isub, m_sub_eq, V_iinc1, P_10_34, b_115_0, b_115_8, b_115_14, b_115_23, b_115_68, b_115_74, b_115_125, b_115_131, b_115_137])
    refine k_115b wp hj (WN_arA wp hj T _ (by omega) w) (fun S3 ii m3 => ?_) T 0 0 S2 (by omega) rfl m2
    unfold b_115_131
    repeat' first
      | (refine V_icmp_ge.mpr ?_; first | rw [if_pos (by omega)] | rw [if_neg (by omega)] | split)
      | (refine V_icmp_ne.mpr ?_; first | rw [if_pos (by omega)] | rw [if_neg (by omega)] | split)
      | (refine V_if_eq.mpr ?_; first | rw [if_pos (by omega)] | rw [if_neg (by omega)] | split)
      | (refine V_if_ne.mpr ?_; first | rw [if_pos (by omega)] | rw [if_neg (by omega)] | split)
      | (simp (disch := (first | omega | (simp (disch := omega) only [up_f, up_s, up_i, up_k, up_e]; omega))) only [up_f, up_s, up_i, up_k, up_e, V_iconst, V_bipush, V_sipush, V_conti, V_contn, V_goto, Option.some.injEq, exists_eq_left', true_and, and_true, m_fit, Option.isSome_some, List.map_nil, List.map_cons, List.sum_nil, List.sum_cons, List.all_nil, List.all_cons, m_cat, decide_true, Bool.and_true, Bool.true_and, Nat.zero_le, Int.toNat_natCast, Int.reduceAdd, Int.reduceSub, Int.reduceMul, Int.reduceNeg, Int.reduceLE, Int.reduceLT, Nat.reduceAdd, Nat.reduceLeDiff, Int.reduceToNat, Int.reduceEq, decide_eq_true_eq, true_or, or_true, exists_and_left, and_self, Nat.reduceMul, Nat.reduceSub, Nat.reduceLT, m_oa, Nat.reduceEqDiff, or_false, false_or, Sum.inl.injEq, Sum.inr.injEq, ↓reduceIte, ne_eq, not_false_eq_true, Int.reduceNe, exists_eq_left, D_115, R_115, X_115, F_115_173, J_115_4, I_115_191, J_115_18, F_115_154, J_115_28, F_115_107, J_115_37, F_115_98, F_115_104, J_115_59, I_115_194, J_115_71, J_115_81, J_115_90, F_115_22, J_115_107, I_115_198, J_115_116, I_115_201, J_115_128, J_115_134, W_115_173, V_aloadn0, G_10_34, T_10, V_istoren1, V_iloadn1, V_istoren2, V_iloadn2, G_10_4, G_10_38, A_329, T_a329, B_329, U_baload, G_10_35, A_326, T_a326, B_326, V_imul, m_mul_eq, G_10_37, A_328, T_a328, B_328, U_iaload, V_iadd, m_add_eq, V_iinc2, G_10_7, A_301, T_a301, B_301, V_isub, m_sub_eq, V_iinc1, P_10_34, b_115_0, b_115_8, b_115_23, b_115_68, b_115_74, b_115_76, b_115_125, b_115_131, b_115_137])
    refine k_115 wp K z (j + 1) _ _ S3 (by omega) (by omega) ?_
    show MR T D S0 S3 (mnA D ((j : Nat) : Int) (ruA D j))
    unfold mnA
    rw [hT]
    exact m3
theorem r_115 {T C : Nat} {D S : Sg} (wp : WP D T C) (pm : PM D S) (h01 : S 2034 0 0 = 0 ∨ S 2034 0 0 = 1) (hc : S 2034 0 0 = 1 → MR T D S S (recA D)) :
    ∃ S2, (MR T D S2 S2 (recA D) ∧ S2 2034 0 0 = 1 ∧ ∀ f i k, (f < 79 ∨ 93 < f) → ¬ f = 2034 → S2 f i k = S f i k) ∧ ∀ Q, m_do xs L 115 [vR 296] (mk S e) Q ↔ Q (.inl none) (mk S2 e) := by
  refine m_do_ex ?_
  rcases h01 with h | h
  · have hT : T ≤ 6 := wp.2.2.1
    have hne : ¬ ¬ S 2034 0 0 = 0 := fun z => z h
    repeat' first
      | (refine V_icmp_ge.mpr ?_; first | rw [if_pos (by omega)] | rw [if_neg (by omega)] | split)
      | (refine V_icmp_ne.mpr ?_; first | rw [if_pos (by omega)] | rw [if_neg (by omega)] | split)
      | (refine V_if_eq.mpr ?_; first | rw [if_pos (by omega)] | rw [if_neg (by omega)] | split)
      | (refine V_if_ne.mpr ?_; first | rw [if_pos (by omega)] | rw [if_neg (by omega)] | split)
      | (simp (disch := (first | omega | (simp (disch := omega) only [up_f, up_s, up_i, up_k, up_e]; omega))) only [up_f, up_s, up_i, up_k, up_e, V_iconst, V_bipush, V_sipush, V_conti, V_contn, V_goto, Option.some.injEq, exists_eq_left', true_and, and_true, m_fit, Option.isSome_some, List.map_nil, List.map_cons, List.sum_nil, List.sum_cons, List.all_nil, List.all_cons, m_cat, decide_true, Bool.and_true, Bool.true_and, Nat.zero_le, Int.toNat_natCast, Int.reduceAdd, Int.reduceSub, Int.reduceMul, Int.reduceNeg, Int.reduceLE, Int.reduceLT, Nat.reduceAdd, Nat.reduceLeDiff, Int.reduceToNat, Int.reduceEq, decide_eq_true_eq, true_or, or_true, exists_and_left, and_self, Nat.reduceMul, Nat.reduceSub, Nat.reduceLT, m_oa, Nat.reduceEqDiff, or_false, false_or, Sum.inl.injEq, Sum.inr.injEq, ↓reduceIte, ne_eq, not_false_eq_true, Int.reduceNe, exists_eq_left, D_115, R_115, X_115, F_115_173, J_115_4, I_115_191, J_115_18, F_115_154, J_115_28, F_115_107, J_115_37, F_115_98, F_115_104, J_115_59, I_115_194, J_115_71, J_115_81, J_115_90, F_115_22, J_115_107, I_115_198, J_115_116, I_115_201, J_115_128, J_115_134, W_115_173, V_aloadn0, G_10_34, T_10, V_istoren1, V_iloadn1, V_istoren2, V_iloadn2, G_10_4, G_10_38, A_329, T_a329, B_329, U_baload, G_10_35, A_326, T_a326, B_326, V_imul, m_mul_eq, G_10_37, A_328, T_a328, B_328, U_iaload, V_iadd, m_add_eq, V_iinc2, G_10_7, A_301, T_a301, B_301, V_isub, m_sub_eq, V_iinc1, P_10_34, b_115_0, b_115_8, b_115_23, b_115_68, b_115_74, b_115_76, b_115_125, b_115_131, b_115_137, s_114])
    have mr0 : MR T D S (mBeg S) (ruA D 0) := ⟨PM_ext pm (fun f i j hf => mBeg_f hf), RM_mBeg pm, fun u hu => ⟨by simp [ruA, begA], by rw [mBeg_84 (by omega)]; simp [ruA, begA], by simp only [ruA, begA]; exact LA_nil⟩, fun f i k hf => mBeg_f hf⟩
    refine k_115 wp (fun S2 mm v m2 => ?_) 2000 0 0 _ _ (by omega) rfl mr0
    unfold b_115_137
    repeat' first
      | (refine V_icmp_ge.mpr ?_; first | rw [if_pos (by omega)] | rw [if_neg (by omega)] | split)
      | (refine V_icmp_ne.mpr ?_; first | rw [if_pos (by omega)] | rw [if_neg (by omega)] | split)
      | (refine V_if_eq.mpr ?_; first | rw [if_pos (by omega)] | rw [if_neg (by omega)] | split)
      | (refine V_if_ne.mpr ?_; first | rw [if_pos (by omega)] | rw [if_neg (by omega)] | split)
      | (simp (disch := (first | omega | (simp (disch := omega) only [up_f, up_s, up_i, up_k, up_e]; omega))) only [up_f, up_s, up_i, up_k, up_e, V_iconst, V_bipush, V_sipush, V_conti, V_contn, V_goto, Option.some.injEq, exists_eq_left', true_and, and_true, m_fit, Option.isSome_some, List.map_nil, List.map_cons, List.sum_nil, List.sum_cons, List.all_nil, List.all_cons, m_cat, decide_true, Bool.and_true, Bool.true_and, Nat.zero_le, Int.toNat_natCast, Int.reduceAdd, Int.reduceSub, Int.reduceMul, Int.reduceNeg, Int.reduceLE, Int.reduceLT, Nat.reduceAdd, Nat.reduceLeDiff, Int.reduceToNat, Int.reduceEq, decide_eq_true_eq, true_or, or_true, exists_and_left, and_self, Nat.reduceMul, Nat.reduceSub, Nat.reduceLT, m_oa, Nat.reduceEqDiff, or_false, false_or, Sum.inl.injEq, Sum.inr.injEq, ↓reduceIte, ne_eq, not_false_eq_true, Int.reduceNe, exists_eq_left, D_115, R_115, X_115, F_115_173, J_115_4, I_115_191, J_115_18, F_115_154, J_115_28, F_115_107, J_115_37, F_115_98, F_115_104, J_115_59, I_115_194, J_115_71, J_115_81, J_115_90, F_115_22, J_115_107, I_115_198, J_115_116, I_115_201, J_115_128, J_115_134, W_115_173, V_aloadn0, G_10_34, T_10, V_istoren1, V_iloadn1, V_istoren2, V_iloadn2, G_10_4, G_10_38, A_329, T_a329, B_329, U_baload, G_10_35, A_326, T_a326, B_326, V_imul, m_mul_eq, G_10_37, A_328, T_a328, B_328, U_iaload, V_iadd, m_add_eq, V_iinc2, G_10_7, A_301, T_a301, B_301, V_isub, m_sub_eq, V_iinc1, P_10_34, b_115_0, b_115_8, b_115_23, b_115_68, b_115_74, b_115_76, b_115_125, b_115_131, b_115_137])
    refine ⟨_, rfl, MR_base (S0 := up S2 2034 0 0 1) ⟨PM_2034 m2.1, RM_no m2.2.1 ⟨rfl, by decide, by decide⟩, fun u hu => MU_ext (m2.2.2.1 u hu) (up_f (by decide)) (fun j _ => up_f (by decide)), fun _ _ _ _ => rfl⟩, up_s, fun f i k hf hf2 => by rw [up_f hf2]; exact m2.2.2.2 f i k hf⟩
  · have hcc := hc h
    have hne : ¬ S 2034 0 0 = 0 := by omega
    repeat' first
      | (refine V_icmp_ge.mpr ?_; first | rw [if_pos (by omega)] | rw [if_neg (by omega)] | split)
      | (refine V_icmp_ne.mpr ?_; first | rw [if_pos (by omega)] | rw [if_neg (by omega)] | split)
      | (refine V_if_eq.mpr ?_; first | rw [if_pos (by omega)] | rw [if_neg (by omega)] | split)
      | (refine V_if_ne.mpr ?_; first | rw [if_pos (by omega)] | rw [if_neg (by omega)] | split)
      | (simp (disch := (first | omega | (simp (disch := omega) only [up_f, up_s, up_i, up_k, up_e]; omega))) only [up_f, up_s, up_i, up_k, up_e, V_iconst, V_bipush, V_sipush, V_conti, V_contn, V_goto, Option.some.injEq, exists_eq_left', true_and, and_true, m_fit, Option.isSome_some, List.map_nil, List.map_cons, List.sum_nil, List.sum_cons, List.all_nil, List.all_cons, m_cat, decide_true, Bool.and_true, Bool.true_and, Nat.zero_le, Int.toNat_natCast, Int.reduceAdd, Int.reduceSub, Int.reduceMul, Int.reduceNeg, Int.reduceLE, Int.reduceLT, Nat.reduceAdd, Nat.reduceLeDiff, Int.reduceToNat, Int.reduceEq, decide_eq_true_eq, true_or, or_true, exists_and_left, and_self, Nat.reduceMul, Nat.reduceSub, Nat.reduceLT, m_oa, Nat.reduceEqDiff, or_false, false_or, Sum.inl.injEq, Sum.inr.injEq, ↓reduceIte, ne_eq, not_false_eq_true, Int.reduceNe, exists_eq_left, D_115, R_115, X_115, F_115_173, J_115_4, I_115_191, J_115_18, F_115_154, J_115_28, F_115_107, J_115_37, F_115_98, F_115_104, J_115_59, I_115_194, J_115_71, J_115_81, J_115_90, F_115_22, J_115_107, I_115_198, J_115_116, I_115_201, J_115_128, J_115_134, W_115_173, V_aloadn0, G_10_34, T_10, V_istoren1, V_iloadn1, V_istoren2, V_iloadn2, G_10_4, G_10_38, A_329, T_a329, B_329, U_baload, G_10_35, A_326, T_a326, B_326, V_imul, m_mul_eq, G_10_37, A_328, T_a328, B_328, U_iaload, V_iadd, m_add_eq, V_iinc2, G_10_7, A_301, T_a301, B_301, V_isub, m_sub_eq, V_iinc1, P_10_34, b_115_0, b_115_8, b_115_23, b_115_68, b_115_74, b_115_76, b_115_125, b_115_131, b_115_137])
    exact ⟨S, rfl, hcc, h, fun _ _ _ _ _ => rfl⟩
end V
