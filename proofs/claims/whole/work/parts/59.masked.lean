/-! ===== what the model is asked of the night ===== -/
def FM2 (S S2 : Sg) : Prop := ∀ f i j, niF f = false → ¬ f = 2000 → S2 f i j = S f i j
theorem FN_FM2 {S S1 S2 : Sg} {v : Int} (h1 : S1 = up S 2000 0 0 v) (h : FN S1 S2) : FM2 S S2 := fun f i j hf hg => by
  rw [h f i j hf, h1, up_f hg]
theorem FM2_trans {S S1 S2 : Sg} (h : FM2 S S1) (k : FM2 S1 S2) : FM2 S S2 := fun f i j hf hg => (k f i j hf hg).trans (h f i j hf hg)
theorem nrm_2000 {S : Sg} {v : Int} : nrm (up S 2000 0 0 v) = nrm S := nrm_ext (fun f i j hf => up_f (fun z => by rw [z] at hf; cases hf))
theorem qArr_eq {S : Sg} {A T C t k : Nat} (ps : PS S A T C) (ht : t < T) (hk6 : k < 6) : qArr S t k = if rN S 79 0 (6 * t + k) < 2000 then rN S 79 0 (6 * t + k) else -1 := by
  have w := WN_ruA (PS_WP ps) 2000 (by omega)
  have wm := Wm_ruA (PS_WP ps) 2000 (by omega) t ht
  have wa := w.2.2.2.2.1 t k ht hk6
  have wt := w.1 t ht
  unfold qArr rN recA
  by_cases h : (k : Int) ≤ (ruA (nrm S) 2000).1 81 0 t
  · rw [if_pos h, if_pos (wa.1 h).2]
  · rw [if_neg h]
    rcases wa.2 (by omega) with h2 | h2
    · rw [if_neg]
      unfold due at wm
      rw [if_neg (by omega), show 6 * t + ((ruA (nrm S) 2000).1 81 0 t).toNat + 1 = 6 * t + k by omega] at wm
      omega
    · rw [h2, if_pos (by omega)]
section V
variable {xs : Nat → Int32} {L : Nat} {e : Nat}
theorem s_102 {S : Sg} {t s : Int} (hn : 0 ≤ S 2004 0 0 ∧ S 2004 0 0 ≤ 6) (hs : ∀ i, i < 6 → 0 ≤ S 54 0 i ∧ S 54 0 i ≤ 6) (Q : MOut → MHp → Prop) : m_do xs L 102 [vR 296, vI t, vI s] (mk S e) Q ↔ Q (.inl (some (vI (if (0 ≤ t ∧ t < S 2004 0 0) ∧ 0 ≤ s ∧ s < S 54 0 t.toNat then 1 else 0)))) (mk S e) := by
  have hz2 : ∀ (_ : 0 ≤ t) (_ : t < 6), -2147483648 ≤ S 54 0 t.toNat - 1 ∧ S 54 0 t.toNat - 1 < 2147483648 := fun h1 h2 => by have := hs t.toNat (by omega); omega
  refine m_do_eq ?_ Q
  repeat' first
    | (refine V_if_eq.mpr ?_; first | rw [if_pos (by omega)] | rw [if_neg (by omega)] | split)
    | (simp (disch := (first | omega | (simp (disch := omega) only [up_f, up_s, up_i, up_k, up_e]; omega))) only [up_f, up_s, up_i, up_k, up_e, V_iconst, V_bipush, V_sipush, V_conti, V_contn, V_goto, Option.some.injEq, exists_eq_left', true_and, and_true, m_fit, Option.isSome_some, List.map_nil, List.map_cons, List.sum_nil, List.sum_cons, List.all_nil, List.all_cons, m_cat, decide_true, Bool.and_true, Bool.true_and, Nat.zero_le, Int.toNat_natCast, Int.reduceAdd, Int.reduceSub, Int.reduceMul, Int.reduceNeg, Int.reduceLE, Int.reduceLT, Nat.reduceAdd, Nat.reduceLeDiff, Int.reduceToNat, Int.reduceEq, decide_eq_true_eq, true_or, or_true, exists_and_left, and_self, Nat.reduceMul, Nat.reduceSub, Nat.reduceLT, m_oa, Nat.reduceEqDiff, or_false, false_or, Sum.inl.injEq, Sum.inr.injEq, ↓reduceIte, ne_eq, not_false_eq_true, Int.reduceNe, exists_eq_left, D_102, R_102, X_102, I_102_157, J_102_5, F_102_22, I_102_150, J_102_21, J_102_25, V_aloadn0, V_iloadn1, T_10, V_iloadn2, G_10_7, A_301, T_a301, B_301, U_iaload, V_isub, m_sub_eq, b_102_0, b_102_28, b_102_29, s_101, s_98, m_sub_eq (hz2 _ _)])
  all_goals (try simp_all)
  all_goals (intros; omega)
theorem isStop {S : Sg} {A T C : Nat} (ps : PS S A T C) (a b : Int) (Q : MOut → MHp → Prop) : m_do xs L 102 [vR 296, vI a, vI b] (mk S e) Q ↔ Q (.inl (some (vI (if (0 ≤ a ∧ a < T) ∧ 0 ≤ b ∧ b < S 54 0 a.toNat then 1 else 0)))) (mk S e) := by
  have h1 := ps.1
  unfold PS1 at h1
  rw [s_102 (by omega) (fun i hi => by have := ps.2.2.1 i hi; omega), h1.2.2.2.2.1]
theorem isCoach {S : Sg} {A T C : Nat} (ps : PS S A T C) (a : Int) (Q : MOut → MHp → Prop) : m_do xs L 103 [vR 296, vI a] (mk S e) Q ↔ Q (.inl (some (vI (if 0 ≤ a ∧ a < C then 1 else 0)))) (mk S e) := by
  have h1 := ps.1
  unfold PS1 at h1
  rw [s_103 (by omega), h1.2.2.2.2.2.2.2.1]
theorem isTrain {S : Sg} {A T C : Nat} (ps : PS S A T C) (a : Int) (Q : MOut → MHp → Prop) : m_do xs L 101 [vR 296, vI a] (mk S e) Q ↔ Q (.inl (some (vI (if 0 ≤ a ∧ a < T then 1 else 0)))) (mk S e) := by
  have h1 := ps.1
  unfold PS1 at h1
  rw [s_101 (by omega), h1.2.2.2.2.1]
theorem refu {S : Sg} (a : Int) (Q : MOut → MHp → Prop) : m_do xs L 99 [vR 296, vI a] (mk S e) Q ↔ Q (.inl (some (vI (if ¬ a = 0 then 1 else 0)))) (mk (up S 2000 0 0 a) e) := s_99 Q
theorem refu0 {S : Sg} (Q : MOut → MHp → Prop) : m_do xs L 99 [vR 296, vI 0] (mk S e) Q ↔ Q (.inl (some (vI 0))) (mk (up S 2000 0 0 0) e) := by
  rw [s_99, if_neg (by decide)]
theorem refu1 {S : Sg} {a : Int} (ha : ¬ a = 0) (Q : MOut → MHp → Prop) : m_do xs L 99 [vR 296, vI a] (mk S e) Q ↔ Q (.inl (some (vI 1))) (mk (up S 2000 0 0 a) e) := by
  rw [s_99, if_pos ha]
theorem inr {a b c : Int} (Q : MOut → MHp → Prop) (S : Sg) : m_do xs L 98 [vI a, vI b, vI c] (mk S e) Q ↔ Q (.inl (some (vI (if b ≤ a ∧ a ≤ c then 1 else 0)))) (mk S e) := s_98 Q
theorem W_143_0 {r : MCode} {ls st : List MV} {h : MHp} {Q : MOut → MHp → Prop} : m_ok xs L 143 ((40, .tableswitch 92 0 4 #[36, 43, 64, 71, 85]) :: r) ls (vI 0 :: st) h Q ↔ m_ok xs L 143 b_143_76 ls st h Q := by
  rw [V_sw, if_neg (by decide)]
  have hj : m_jmp 143 40 (36) = b_143_76 := rfl
  exact ⟨fun ⟨off, ho, hk⟩ => by
    have h2 : some (36 : Int) = some off := ho
    cases h2
    rw [hj] at hk
    exact hk, fun hk => ⟨36, rfl, by rw [hj]; exact hk⟩⟩
theorem W_143_1 {r : MCode} {ls st : List MV} {h : MHp} {Q : MOut → MHp → Prop} : m_ok xs L 143 ((40, .tableswitch 92 0 4 #[36, 43, 64, 71, 85]) :: r) ls (vI 1 :: st) h Q ↔ m_ok xs L 143 b_143_83 ls st h Q := by
  rw [V_sw, if_neg (by decide)]
  have hj : m_jmp 143 40 (43) = b_143_83 := rfl
  exact ⟨fun ⟨off, ho, hk⟩ => by
    have h2 : some (43 : Int) = some off := ho
    cases h2
    rw [hj] at hk
    exact hk, fun hk => ⟨43, rfl, by rw [hj]; exact hk⟩⟩
theorem W_143_2 {r : MCode} {ls st : List MV} {h : MHp} {Q : MOut → MHp → Prop} : m_ok xs L 143 ((40, .tableswitch 92 0 4 #[36, 43, 64, 71, 85]) :: r) ls (vI 2 :: st) h Q ↔ m_ok xs L 143 b_143_104 ls st h Q := by
  rw [V_sw, if_neg (by decide)]
  have hj : m_jmp 143 40 (64) = b_143_104 := rfl
  exact ⟨fun ⟨off, ho, hk⟩ => by
    have h2 : some (64 : Int) = some off := ho
    cases h2
    rw [hj] at hk
    exact hk, fun hk => ⟨64, rfl, by rw [hj]; exact hk⟩⟩
theorem W_143_3 {r : MCode} {ls st : List MV} {h : MHp} {Q : MOut → MHp → Prop} : m_ok xs L 143 ((40, .tableswitch 92 0 4 #[36, 43, 64, 71, 85]) :: r) ls (vI 3 :: st) h Q ↔ m_ok xs L 143 b_143_111 ls st h Q := by
  rw [V_sw, if_neg (by decide)]
  have hj : m_jmp 143 40 (71) = b_143_111 := rfl
  exact ⟨fun ⟨off, ho, hk⟩ => by
    have h2 : some (71 : Int) = some off := ho
    cases h2
    rw [hj] at hk
    exact hk, fun hk => ⟨71, rfl, by rw [hj]; exact hk⟩⟩
theorem W_143_4 {r : MCode} {ls st : List MV} {h : MHp} {Q : MOut → MHp → Prop} : m_ok xs L 143 ((40, .tableswitch 92 0 4 #[36, 43, 64, 71, 85]) :: r) ls (vI 4 :: st) h Q ↔ m_ok xs L 143 b_143_125 ls st h Q := by
  rw [V_sw, if_neg (by decide)]
  have hj : m_jmp 143 40 (85) = b_143_125 := rfl
  exact ⟨fun ⟨off, ho, hk⟩ => by
    have h2 : some (85 : Int) = some off := ho
    cases h2
    rw [hj] at hk
    exact hk, fun hk => ⟨85, rfl, by rw [hj]; exact hk⟩⟩
theorem W_143_d {r : MCode} {ls st : List MV} {h : MHp} {Q : MOut → MHp → Prop} {v : Int} (hv : v < 0 ∨ 4 < v) : m_ok xs L 143 ((40, .tableswitch 92 0 4 #[36, 43, 64, 71, 85]) :: r) ls (vI v :: st) h Q ↔ m_ok xs L 143 b_143_132 ls st h Q := by
  rw [V_sw, if_pos hv]
  have hj : m_jmp 143 40 (92) = b_143_132 := rfl
  rw [hj]
theorem m_138 {S : Sg} {A T C t k : Nat} (ps : PS S A T C) (nc : NC S T C) (ht : t < T) (hk : (k : Int) < S 54 0 t) : ∃ S2, (FM2 S S2 ∧ NC S2 T C ∧ S2 2000 0 0 = 0) ∧ ∀ Q, m_do xs L 138 [vR 296, vI t, vI k] (mk S e) Q ↔ Q (.inl (some (vI (qArr S t k)))) (mk S2 e) := by
  obtain ⟨ht6, hk6⟩ := stopRan ps ht hk
  have h102 := isStop (xs := xs) (L := L) (e := e) ps (t : Int) (k : Int)
  simp only [if_pos (show (0 ≤ (t : Int) ∧ (t : Int) < T) ∧ 0 ≤ (k : Int) ∧ (k : Int) < S 54 0 (t : Int).toNat from by rw [Int.toNat_natCast]; omega)] at h102
  have h99 := refu0 (xs := xs) (L := L) (e := e) (S := S)
  have ps1 : PS (up S 2000 0 0 0) A T C := PS_up ps rfl
  obtain ⟨S2, ⟨fn, nc2, mr, h2034⟩, i115⟩ := n_115 (xs := xs) (L := L) (e := e) ps1 (NC_up ps nc rfl rfl (by decide))
  rw [nrm_2000] at mr
  have h2000 : S2 2000 0 0 = 0 := by rw [fn 2000 0 0 rfl, up_s]
  have hx : (6 * (t : Int) + (k : Int)).toNat = 6 * t + k := by omega
  have hv : S2 79 0 (6 * t + k) = rN S 79 0 (6 * t + k) := R79 mr.2.1 (by omega)
  have hq := qArr_eq ps ht hk6
  refine ⟨S2, ⟨FN_FM2 rfl fn, nc2, h2000⟩, fun Q => m_do_eq ?_ Q⟩
  by_cases h : rN S 79 0 (6 * t + k) < 2000
  · rw [if_pos h] at hq
    rw [hq]
    repeat' first
      | (refine V_icmp_ge.mpr ?_; first | rw [if_pos (by omega)] | rw [if_neg (by omega)] | split)
      | (refine V_if_eq.mpr ?_; first | rw [if_pos (by omega)] | rw [if_neg (by omega)] | split)
      | (simp (disch := (first | omega | (simp (disch := omega) only [up_f, up_s, up_i, up_k, up_e]; omega))) only [up_f, up_s, up_i, up_k, up_e, V_iconst, V_bipush, V_sipush, V_conti, V_contn, V_goto, Option.some.injEq, exists_eq_left', true_and, and_true, m_fit, Option.isSome_some, List.map_nil, List.map_cons, List.sum_nil, List.sum_cons, List.all_nil, List.all_cons, m_cat, decide_true, Bool.and_true, Bool.true_and, Nat.zero_le, Int.toNat_natCast, Int.reduceAdd, Int.reduceSub, Int.reduceMul, Int.reduceNeg, Int.reduceLE, Int.reduceLT, Nat.reduceAdd, Nat.reduceLeDiff, Int.reduceToNat, Int.reduceEq, decide_eq_true_eq, true_or, or_true, exists_and_left, and_self, Nat.reduceMul, Nat.reduceSub, Nat.reduceLT, m_oa, Nat.reduceEqDiff, or_false, false_or, Sum.inl.injEq, Sum.inr.injEq, ↓reduceIte, ne_eq, not_false_eq_true, Int.reduceNe, exists_eq_left, D_138, R_138, X_138, I_138_181, J_138_7, J_138_11, I_138_167, J_138_18, I_138_257, F_138_98, J_138_43, J_138_47, V_aloadn0, V_iloadn1, V_iloadn2, T_10, G_10_35, A_326, T_a326, B_326, V_imul, m_mul_eq, V_iadd, m_add_eq, U_iaload, V_istoren3, V_iloadn3, b_138_0, b_138_14, b_138_15, b_138_23, b_138_50, b_138_51, h102, h99, i115, hx, hv])
  · rw [if_neg h] at hq
    rw [hq]
    repeat' first
      | (refine V_icmp_ge.mpr ?_; first | rw [if_pos (by omega)] | rw [if_neg (by omega)] | split)
      | (refine V_if_eq.mpr ?_; first | rw [if_pos (by omega)] | rw [if_neg (by omega)] | split)
      | (simp (disch := (first | omega | (simp (disch := omega) only [up_f, up_s, up_i, up_k, up_e]; omega))) only [up_f, up_s, up_i, up_k, up_e, V_iconst, V_bipush, V_sipush, V_conti, V_contn, V_goto, Option.some.injEq, exists_eq_left', true_and, and_true, m_fit, Option.isSome_some, List.map_nil, List.map_cons, List.sum_nil, List.sum_cons, List.all_nil, List.all_cons, m_cat, decide_true, Bool.and_true, Bool.true_and, Nat.zero_le, Int.toNat_natCast, Int.reduceAdd, Int.reduceSub, Int.reduceMul, Int.reduceNeg, Int.reduceLE, Int.reduceLT, Nat.reduceAdd, Nat.reduceLeDiff, Int.reduceToNat, Int.reduceEq, decide_eq_true_eq, true_or, or_true, exists_and_left, and_self, Nat.reduceMul, Nat.reduceSub, Nat.reduceLT, m_oa, Nat.reduceEqDiff, or_false, false_or, Sum.inl.injEq, Sum.inr.injEq, ↓reduceIte, ne_eq, not_false_eq_true, Int.reduceNe, exists_eq_left, D_138, R_138, X_138, I_138_181, J_138_7, J_138_11, I_138_167, J_138_18, I_138_257, F_138_98, J_138_43, J_138_47, V_aloadn0, V_iloadn1, V_iloadn2, T_10, G_10_35, A_326, T_a326, B_326, V_imul, m_mul_eq, V_iadd, m_add_eq, U_iaload, V_istoren3, V_iloadn3, b_138_0, b_138_14, b_138_15, b_138_23, b_138_50, b_138_51, h102, h99, i115, hx, hv])
theorem m_139 {S : Sg} {A T C t k : Nat} (ps : PS S A T C) (nc : NC S T C) (ht : t < T) (hk : (k : Int) < S 54 0 t) : ∃ S2, (FM2 S S2 ∧ NC S2 T C ∧ S2 2000 0 0 = 0) ∧ ∀ Q, m_do xs L 139 [vR 296, vI t, vI k] (mk S e) Q ↔ Q (.inl (some (vI (rN S 80 0 (6 * t + k))))) (mk S2 e) := by
  obtain ⟨ht6, hk6⟩ := stopRan ps ht hk
  have h102 := isStop (xs := xs) (L := L) (e := e) ps (t : Int) (k : Int)
  simp only [if_pos (show (0 ≤ (t : Int) ∧ (t : Int) < T) ∧ 0 ≤ (k : Int) ∧ (k : Int) < S 54 0 (t : Int).toNat from by rw [Int.toNat_natCast]; omega)] at h102
  have h99 := refu0 (xs := xs) (L := L) (e := e) (S := S)
  have ps1 : PS (up S 2000 0 0 0) A T C := PS_up ps rfl
  obtain ⟨S2, ⟨fn, nc2, mr, h2034⟩, i115⟩ := n_115 (xs := xs) (L := L) (e := e) ps1 (NC_up ps nc rfl rfl (by decide))
  rw [nrm_2000] at mr
  have h2000 : S2 2000 0 0 = 0 := by rw [fn 2000 0 0 rfl, up_s]
  have hx : (6 * (t : Int) + (k : Int)).toNat = 6 * t + k := by omega
  have hv : S2 80 0 (6 * t + k) = rN S 80 0 (6 * t + k) := R80 mr.2.1 (by omega)
  refine ⟨S2, ⟨FN_FM2 rfl fn, nc2, h2000⟩, fun Q => m_do_eq ?_ Q⟩
  repeat' first
    | (refine V_if_eq.mpr ?_; first | rw [if_pos (by omega)] | rw [if_neg (by omega)] | split)
    | (simp (disch := (first | omega | (simp (disch := omega) only [up_f, up_s, up_i, up_k, up_e]; omega))) only [up_f, up_s, up_i, up_k, up_e, V_iconst, V_bipush, V_sipush, V_conti, V_contn, V_goto, Option.some.injEq, exists_eq_left', true_and, and_true, m_fit, Option.isSome_some, List.map_nil, List.map_cons, List.sum_nil, List.sum_cons, List.all_nil, List.all_cons, m_cat, decide_true, Bool.and_true, Bool.true_and, Nat.zero_le, Int.toNat_natCast, Int.reduceAdd, Int.reduceSub, Int.reduceMul, Int.reduceNeg, Int.reduceLE, Int.reduceLT, Nat.reduceAdd, Nat.reduceLeDiff, Int.reduceToNat, Int.reduceEq, decide_eq_true_eq, true_or, or_true, exists_and_left, and_self, Nat.reduceMul, Nat.reduceSub, Nat.reduceLT, m_oa, Nat.reduceEqDiff, or_false, false_or, Sum.inl.injEq, Sum.inr.injEq, ↓reduceIte, ne_eq, not_false_eq_true, Int.reduceNe, exists_eq_left, D_139, R_139, X_139, I_139_181, J_139_7, J_139_11, I_139_167, J_139_18, I_139_257, F_139_101, V_aloadn0, V_iloadn1, V_iloadn2, T_10, G_10_36, A_327, T_a327, B_327, V_imul, m_mul_eq, V_iadd, m_add_eq, U_iaload, b_139_0, b_139_14, b_139_15, b_139_23, h102, h99, i115, hx, hv])
  all_goals first | exact ⟨rfl, rfl⟩ | rfl
theorem m_140 {S : Sg} {A T C t k : Nat} (ps : PS S A T C) (nc : NC S T C) (ht : t < T) (hk : (k : Int) < S 54 0 t) : ∃ S2, (FM2 S S2 ∧ NC S2 T C ∧ S2 2000 0 0 = 0) ∧ ∀ Q, m_do xs L 140 [vR 296, vI t, vI k] (mk S e) Q ↔ Q (.inl (some (vI (rN S 80 0 (6 * t + k))))) (mk S2 e) := by
  obtain ⟨S2, a, i⟩ := m_139 (xs := xs) (L := L) (e := e) ps nc ht hk
  refine ⟨S2, a, fun Q => m_do_eq ?_ Q⟩
  repeat' first
    | (simp (disch := (first | omega | (simp (disch := omega) only [up_f, up_s, up_i, up_k, up_e]; omega))) only [up_f, up_s, up_i, up_k, up_e, V_iconst, V_bipush, V_sipush, V_conti, V_contn, V_goto, Option.some.injEq, exists_eq_left', true_and, and_true, m_fit, Option.isSome_some, List.map_nil, List.map_cons, List.sum_nil, List.sum_cons, List.all_nil, List.all_cons, m_cat, decide_true, Bool.and_true, Bool.true_and, Nat.zero_le, Int.toNat_natCast, Int.reduceAdd, Int.reduceSub, Int.reduceMul, Int.reduceNeg, Int.reduceLE, Int.reduceLT, Nat.reduceAdd, Nat.reduceLeDiff, Int.reduceToNat, Int.reduceEq, decide_eq_true_eq, true_or, or_true, exists_and_left, and_self, Nat.reduceMul, Nat.reduceSub, Nat.reduceLT, m_oa, Nat.reduceEqDiff, or_false, false_or, Sum.inl.injEq, Sum.inr.injEq, ↓reduceIte, ne_eq, not_false_eq_true, Int.reduceNe, exists_eq_left, D_140, R_140, X_140, I_140_260, V_aloadn0, V_iloadn1, V_iloadn2, T_10, b_140_0, i])
theorem m_141 {S : Sg} {A T C t k : Nat} (ps : PS S A T C) (nc : NC S T C) (ht : t < T) (hk : (k : Int) < S 54 0 t) {p : Nat} (hp : p < 10) : ∃ S2, (FM2 S S2 ∧ NC S2 T C ∧ S2 2000 0 0 = 0) ∧ ∀ Q, m_do xs L 141 [vR 296, vI t, vI k, vI p] (mk S e) Q ↔ Q (.inl (some (vI (rN S 87 0 (60 * t + (10 * k + p)))))) (mk S2 e) := by
  obtain ⟨ht6, hk6⟩ := stopRan ps ht hk
  have h102 := isStop (xs := xs) (L := L) (e := e) ps (t : Int) (k : Int)
  simp only [if_pos (show (0 ≤ (t : Int) ∧ (t : Int) < T) ∧ 0 ≤ (k : Int) ∧ (k : Int) < S 54 0 (t : Int).toNat from by rw [Int.toNat_natCast]; omega)] at h102
  have h99 := refu0 (xs := xs) (L := L) (e := e) (S := S)
  have ps1 : PS (up S 2000 0 0 0) A T C := PS_up ps rfl
  obtain ⟨S2, ⟨fn, nc2, mr, h2034⟩, i115⟩ := n_115 (xs := xs) (L := L) (e := e) ps1 (NC_up ps nc rfl rfl (by decide))
  rw [nrm_2000] at mr
  have h2000 : S2 2000 0 0 = 0 := by rw [fn 2000 0 0 rfl, up_s]
  have h98 := inr (xs := xs) (L := L) (e := e) (a := (p : Int)) (b := 0) (c := 9)
  simp only [if_pos (show (0 : Int) ≤ (p : Int) ∧ (p : Int) ≤ 9 by omega)] at h98
  have hx : (10 * (6 * (t : Int) + (k : Int)) + (p : Int)).toNat = 60 * t + (10 * k + p) := by omega
  have hv : S2 87 0 (60 * t + (10 * k + p)) = rN S 87 0 (60 * t + (10 * k + p)) := R87 mr.2.1 (by omega)
  refine ⟨S2, ⟨FN_FM2 rfl fn, nc2, h2000⟩, fun Q => m_do_eq ?_ Q⟩
  repeat' first
    | (refine V_if_eq.mpr ?_; first | rw [if_pos (by omega)] | rw [if_neg (by omega)] | split)
    | (refine V_if_ne.mpr ?_; first | rw [if_pos (by omega)] | rw [if_neg (by omega)] | split)
    | (simp (disch := (first | omega | (simp (disch := omega) only [up_f, up_s, up_i, up_k, up_e]; omega))) only [up_f, up_s, up_i, up_k, up_e, V_iconst, V_bipush, V_sipush, V_conti, V_contn, V_goto, Option.some.injEq, exists_eq_left', true_and, and_true, m_fit, Option.isSome_some, List.map_nil, List.map_cons, List.sum_nil, List.sum_cons, List.all_nil, List.all_cons, m_cat, decide_true, Bool.and_true, Bool.true_and, Nat.zero_le, Int.toNat_natCast, Int.reduceAdd, Int.reduceSub, Int.reduceMul, Int.reduceNeg, Int.reduceLE, Int.reduceLT, Nat.reduceAdd, Nat.reduceLeDiff, Int.reduceToNat, Int.reduceEq, decide_eq_true_eq, true_or, or_true, exists_and_left, and_self, Nat.reduceMul, Nat.reduceSub, Nat.reduceLT, m_oa, Nat.reduceEqDiff, or_false, false_or, Sum.inl.injEq, Sum.inr.injEq, ↓reduceIte, ne_eq, not_false_eq_true, Int.reduceNe, exists_eq_left, D_141, R_141, X_141, I_141_181, J_141_7, J_141_11, I_141_150, J_141_21, J_141_25, I_141_167, J_141_32, I_141_257, F_141_122, V_aloadn0, V_iloadn1, V_iloadn2, T_10, V_iloadn3, G_10_43, A_334, T_a334, B_334, V_imul, m_mul_eq, V_iadd, m_add_eq, U_iaload, b_141_0, b_141_14, b_141_28, b_141_29, b_141_37, h102, h99, i115, h98, hx, hv])
  all_goals first | exact ⟨rfl, rfl⟩ | rfl
theorem m_142 {S : Sg} {A T C t k : Nat} (ps : PS S A T C) (nc : NC S T C) (ht : t < T) (hk : (k : Int) < S 54 0 t) : ∃ S2, (FM2 S S2 ∧ NC S2 T C ∧ S2 2000 0 0 = 0) ∧ ∀ Q, m_do xs L 142 [vR 296, vI t, vI k] (mk S e) Q ↔ Q (.inl (some (vF (UInt32.ofNat (qSh S t k).toNat)))) (mk S2 e) := by
  obtain ⟨ht6, hk6⟩ := stopRan ps ht hk
  have h102 := isStop (xs := xs) (L := L) (e := e) ps (t : Int) (k : Int)
  simp only [if_pos (show (0 ≤ (t : Int) ∧ (t : Int) < T) ∧ 0 ≤ (k : Int) ∧ (k : Int) < S 54 0 (t : Int).toNat from by rw [Int.toNat_natCast]; omega)] at h102
  have h99 := refu0 (xs := xs) (L := L) (e := e) (S := S)
  have ps1 : PS (up S 2000 0 0 0) A T C := PS_up ps rfl
  obtain ⟨S2, ⟨fn, nc2, mr, h2034⟩, i115⟩ := n_115 (xs := xs) (L := L) (e := e) ps1 (NC_up ps nc rfl rfl (by decide))
  rw [nrm_2000] at mr
  have h2000 : S2 2000 0 0 = 0 := by rw [fn 2000 0 0 rfl, up_s]
  have hx : (6 * (t : Int) + (k : Int)).toNat = 6 * t + k := by omega
  have hv : S2 80 0 (6 * t + k) = rN S 80 0 (6 * t + k) := R80 mr.2.1 (by omega)
  have wd := (WN_ruA (PS_WP ps) 2000 (by omega)).2.2.2.2.2 (6 * t + k) (by omega)
  refine ⟨S2, ⟨FN_FM2 rfl fn, nc2, h2000⟩, fun Q => m_do_eq ?_ Q⟩
  by_cases h : rN S 80 0 (6 * t + k) = -1
  · have hq : UInt32.ofNat (qSh S t k).toNat = 0 := by
      unfold qSh shB
      rw [if_pos h]
      rfl
    rw [hq]
    repeat' first
      | (refine V_icmp_ne.mpr ?_; first | rw [if_pos (by omega)] | rw [if_neg (by omega)] | split)
      | (refine V_if_eq.mpr ?_; first | rw [if_pos (by omega)] | rw [if_neg (by omega)] | split)
      | (simp (disch := (first | omega | (simp (disch := omega) only [up_f, up_s, up_i, up_k, up_e]; omega))) only [up_f, up_s, up_i, up_k, up_e, V_iconst, V_bipush, V_sipush, V_conti, V_contn, V_goto, Option.some.injEq, exists_eq_left', true_and, and_true, m_fit, Option.isSome_some, List.map_nil, List.map_cons, List.sum_nil, List.sum_cons, List.all_nil, List.all_cons, m_cat, decide_true, Bool.and_true, Bool.true_and, Nat.zero_le, Int.toNat_natCast, Int.reduceAdd, Int.reduceSub, Int.reduceMul, Int.reduceNeg, Int.reduceLE, Int.reduceLT, Nat.reduceAdd, Nat.reduceLeDiff, Int.reduceToNat, Int.reduceEq, decide_eq_true_eq, true_or, or_true, exists_and_left, and_self, Nat.reduceMul, Nat.reduceSub, Nat.reduceLT, m_oa, Nat.reduceEqDiff, or_false, false_or, Sum.inl.injEq, Sum.inr.injEq, ↓reduceIte, ne_eq, not_false_eq_true, Int.reduceNe, exists_eq_left, D_142, R_142, X_142, I_142_181, J_142_7, J_142_11, I_142_167, J_142_18, I_142_257, F_142_101, J_142_41, J_142_45, C_142_263, F_142_116, F_142_119, V_aloadn0, V_iloadn1, V_iloadn2, T_10, V_fconst, V_imul, m_mul_eq, V_iadd, m_add_eq, V_istoren3, G_10_36, A_327, T_a327, B_327, V_iloadn3, U_iaload, G_10_41, A_332, T_a332, B_332, V_i2f, G_10_42, A_333, T_a333, B_333, V_fdiv, V_fmul, b_142_0, b_142_14, b_142_15, b_142_23, b_142_48, b_142_67, h102, h99, i115, hx, hv, h])
    all_goals first | exact ⟨rfl, rfl⟩ | rfl
  · have hq : UInt32.ofNat (qSh S t k).toNat = FP.fmul 1120403456 (FP.fdiv (FP.i2f (Int32.ofInt (rN S 85 0 (6 * t + k)))) (FP.i2f (Int32.ofInt (rN S 86 0 (6 * t + k))))) := by
      unfold qSh shB
      rw [if_neg h, Int.toNat_natCast, UInt32.ofNat_toNat]
    rw [hq]
    have wd2 : 60 ≤ rN S 85 0 (6 * t + k) ∧ rN S 85 0 (6 * t + k) ≤ 900 ∧ 80 ≤ rN S 86 0 (6 * t + k) ∧ rN S 86 0 (6 * t + k) ≤ 900 := by
      rcases wd with wd | wd
      · exact absurd wd h
      · exact wd.2.2
    obtain ⟨v85, v86⟩ := mr.2.1.2 (6 * t + k) (by omega) h
    have v85b : S2 85 0 (6 * t + k) = rN S 85 0 (6 * t + k) := v85
    have v86b : S2 86 0 (6 * t + k) = rN S 86 0 (6 * t + k) := v86
    have f1 := nn32_of (div_nn (b := rN S 85 0 (6 * t + k)) (w := rN S 86 0 (6 * t + k)) (by omega))
    have f2 := nn32_of (mul_nn (div_nn (b := rN S 85 0 (6 * t + k)) (w := rN S 86 0 (6 * t + k)) (by omega)))
    repeat' first
      | (refine V_icmp_ne.mpr ?_; first | rw [if_pos (by omega)] | rw [if_neg (by omega)] | split)
      | (refine V_if_eq.mpr ?_; first | rw [if_pos (by omega)] | rw [if_neg (by omega)] | split)
      | (simp (disch := (first | omega | (simp (disch := omega) only [up_f, up_s, up_i, up_k, up_e]; omega))) only [up_f, up_s, up_i, up_k, up_e, V_iconst, V_bipush, V_sipush, V_conti, V_contn, V_goto, Option.some.injEq, exists_eq_left', true_and, and_true, m_fit, Option.isSome_some, List.map_nil, List.map_cons, List.sum_nil, List.sum_cons, List.all_nil, List.all_cons, m_cat, decide_true, Bool.and_true, Bool.true_and, Nat.zero_le, Int.toNat_natCast, Int.reduceAdd, Int.reduceSub, Int.reduceMul, Int.reduceNeg, Int.reduceLE, Int.reduceLT, Nat.reduceAdd, Nat.reduceLeDiff, Int.reduceToNat, Int.reduceEq, decide_eq_true_eq, true_or, or_true, exists_and_left, and_self, Nat.reduceMul, Nat.reduceSub, Nat.reduceLT, m_oa, Nat.reduceEqDiff, or_false, false_or, Sum.inl.injEq, Sum.inr.injEq, ↓reduceIte, ne_eq, not_false_eq_true, Int.reduceNe, exists_eq_left, D_142, R_142, X_142, I_142_181, J_142_7, J_142_11, I_142_167, J_142_18, I_142_257, F_142_101, J_142_41, J_142_45, C_142_263, F_142_116, F_142_119, V_aloadn0, V_iloadn1, V_iloadn2, T_10, V_fconst, V_imul, m_mul_eq, V_iadd, m_add_eq, V_istoren3, G_10_36, A_327, T_a327, B_327, V_iloadn3, U_iaload, G_10_41, A_332, T_a332, B_332, V_i2f, G_10_42, A_333, T_a333, B_333, V_fdiv, V_fmul, b_142_0, b_142_14, b_142_15, b_142_23, b_142_48, b_142_67, h102, h99, i115, hx, hv, h, v85b, v86b, f1, f2])
    all_goals first | exact ⟨rfl, rfl⟩ | rfl
theorem m_146 {S : Sg} {A T C a b : Nat} (ps : PS S A T C) (nc : NC S T C) (ha : a < 6) (hb : b < 6) : ∃ S2, (FM2 S S2 ∧ NC S2 T C ∧ S2 2000 0 0 = 0) ∧ ∀ Q, m_do xs L 146 [vR 296, vI a, vI b] (mk S e) Q ↔ Q (.inl (some (vI (rN S 93 0 (6 * a + b))))) (mk S2 e) := by
  have h99 := refu0 (xs := xs) (L := L) (e := e) (S := S)
  have ps1 : PS (up S 2000 0 0 0) A T C := PS_up ps rfl
  obtain ⟨S2, ⟨fn, nc2, mr, h2034⟩, i115⟩ := n_115 (xs := xs) (L := L) (e := e) ps1 (NC_up ps nc rfl rfl (by decide))
  rw [nrm_2000] at mr
  have h2000 : S2 2000 0 0 = 0 := by rw [fn 2000 0 0 rfl, up_s]
  have h98 := inr (xs := xs) (L := L) (e := e) (a := (a : Int)) (b := 0) (c := 5)
  simp only [if_pos (show (0 : Int) ≤ (a : Int) ∧ (a : Int) ≤ 5 by omega)] at h98
  have h98b := inr (xs := xs) (L := L) (e := e) (a := (b : Int)) (b := 0) (c := 5)
  simp only [if_pos (show (0 : Int) ≤ (b : Int) ∧ (b : Int) ≤ 5 by omega)] at h98b
  have hx : (6 * (a : Int) + (b : Int)).toNat = 6 * a + b := by omega
  have hv : S2 93 0 (6 * a + b) = rN S 93 0 (6 * a + b) := R93 mr.2.1 (by omega)
  refine ⟨S2, ⟨FN_FM2 rfl fn, nc2, h2000⟩, fun Q => m_do_eq ?_ Q⟩
  repeat' first
    | (refine V_if_eq.mpr ?_; first | rw [if_pos (by omega)] | rw [if_neg (by omega)] | split)
    | (simp (disch := (first | omega | (simp (disch := omega) only [up_f, up_s, up_i, up_k, up_e]; omega))) only [up_f, up_s, up_i, up_k, up_e, V_iconst, V_bipush, V_sipush, V_conti, V_contn, V_goto, Option.some.injEq, exists_eq_left', true_and, and_true, m_fit, Option.isSome_some, List.map_nil, List.map_cons, List.sum_nil, List.sum_cons, List.all_nil, List.all_cons, m_cat, decide_true, Bool.and_true, Bool.true_and, Nat.zero_le, Int.toNat_natCast, Int.reduceAdd, Int.reduceSub, Int.reduceMul, Int.reduceNeg, Int.reduceLE, Int.reduceLT, Nat.reduceAdd, Nat.reduceLeDiff, Int.reduceToNat, Int.reduceEq, decide_eq_true_eq, true_or, or_true, exists_and_left, and_self, Nat.reduceMul, Nat.reduceSub, Nat.reduceLT, m_oa, Nat.reduceEqDiff, or_false, false_or, Sum.inl.injEq, Sum.inr.injEq, ↓reduceIte, ne_eq, not_false_eq_true, Int.reduceNe, exists_eq_left, D_146, R_146, X_146, I_146_150, J_146_7, J_146_16, J_146_20, I_146_167, J_146_27, I_146_257, F_146_140, V_aloadn0, V_iloadn1, V_iloadn2, T_10, G_10_49, A_340, T_a340, B_340, V_imul, m_mul_eq, V_iadd, m_add_eq, U_iaload, b_146_0, b_146_23, b_146_24, b_146_32, h98, h98b, h99, i115, hx, hv])
theorem home_iff {S : Sg} {A T C c : Nat} (ps : PS S A T C) (hc : c < C) : (S 68 0 c = 0 ∧ 0 < S 69 0 c ∧ rN S 90 0 c = S 69 0 c) ↔ (0 < S 69 0 c ∧ S 69 0 c ≤ rN S 90 0 c) := by
  have wc := (WN_ruA (PS_WP ps) 2000 (by omega)).2.2.1 c hc
  rw [nrm_p (by rfl), nrm_p (by rfl)] at wc
  unfold rN recA
  omega
theorem m_143 {S : Sg} {A T C c w : Nat} (ps : PS S A T C) (nc : NC S T C) (hc : c < C) (hw : w < 6) : ∃ S2, (FM2 S S2 ∧ NC S2 T C ∧ S2 2000 0 0 = 0) ∧ ∀ Q, m_do xs L 143 [vR 296, vI c, vI w] (mk S e) Q ↔ Q (.inl (some (vI (qCo S c w)))) (mk S2 e) := by
  have hC : C ≤ 10 := ps.1.2.2.2.2.2.2.2.2
  have hc10 : c < 10 := by omega
  have h103 := isCoach (xs := xs) (L := L) (e := e) ps (c : Int)
  simp only [if_pos (show 0 ≤ (c : Int) ∧ (c : Int) < C by omega)] at h103
  have h98 := inr (xs := xs) (L := L) (e := e) (a := (w : Int)) (b := 0) (c := 5)
  simp only [if_pos (show (0 : Int) ≤ (w : Int) ∧ (w : Int) ≤ 5 by omega)] at h98
  have h99 := refu0 (xs := xs) (L := L) (e := e) (S := S)
  have ps1 : PS (up S 2000 0 0 0) A T C := PS_up ps rfl
  obtain ⟨S2, ⟨fn, nc2, mr, h2034⟩, i115⟩ := n_115 (xs := xs) (L := L) (e := e) ps1 (NC_up ps nc rfl rfl (by decide))
  rw [nrm_2000] at mr
  have h2000 : S2 2000 0 0 = 0 := by rw [fn 2000 0 0 rfl, up_s]
  have v0 : S2 88 0 c = rN S 88 0 c := R88 mr.2.1 hc10
  have v1 : S2 89 0 c = rN S 89 0 c := R89 mr.2.1 hc10
  have v2 : S2 90 0 c = rN S 90 0 c := R90 mr.2.1 hc10
  have v4 : S2 91 0 c = rN S 91 0 c := R91 mr.2.1 hc10
  have v68 : S2 68 0 c = S 68 0 c := by rw [mr.1.1 68 _ rfl, nrm_p (by rfl)]
  have v69 : S2 69 0 c = S 69 0 c := by rw [mr.1.1 69 _ rfl, nrm_p (by rfl)]
  have h144 := s_144 (xs := xs) (L := L) (S := S2) (e := e) hc10
  rw [v68, v69, v2] at h144
  refine ⟨S2, ⟨FN_FM2 rfl fn, nc2, h2000⟩, fun Q => m_do_eq ?_ Q⟩
  have hcase : w = 0 ∨ w = 1 ∨ w = 2 ∨ w = 3 ∨ w = 4 ∨ w = 5 := by omega
  rcases hcase with rfl | rfl | rfl | rfl | rfl | rfl
  · rw [show ((0 : Nat) : Int) = 0 from rfl] at h98 ⊢
    repeat' first
      | (refine V_icmp_ne.mpr ?_; first | rw [if_pos (by omega)] | rw [if_neg (by omega)] | split)
      | (refine V_if_eq.mpr ?_; first | rw [if_pos (by omega)] | rw [if_neg (by omega)] | split)
      | (refine V_if_ne.mpr ?_; first | rw [if_pos (by omega)] | rw [if_neg (by omega)] | split)
      | (simp (disch := (first | omega | (simp (disch := omega) only [up_f, up_s, up_i, up_k, up_e]; omega))) only [up_f, up_s, up_i, up_k, up_e, V_iconst, V_bipush, V_sipush, V_conti, V_contn, V_goto, Option.some.injEq, exists_eq_left', true_and, and_true, m_fit, Option.isSome_some, List.map_nil, List.map_cons, List.sum_nil, List.sum_cons, List.all_nil, List.all_cons, m_cat, decide_true, Bool.and_true, Bool.true_and, Nat.zero_le, Int.toNat_natCast, Int.reduceAdd, Int.reduceSub, Int.reduceMul, Int.reduceNeg, Int.reduceLE, Int.reduceLT, Nat.reduceAdd, Nat.reduceLeDiff, Int.reduceToNat, Int.reduceEq, decide_eq_true_eq, true_or, or_true, exists_and_left, and_self, Nat.reduceMul, Nat.reduceSub, Nat.reduceLT, m_oa, Nat.reduceEqDiff, or_false, false_or, Sum.inl.injEq, Sum.inr.injEq, ↓reduceIte, ne_eq, not_false_eq_true, Int.reduceNe, exists_eq_left, D_143, R_143, X_143, I_143_185, J_143_6, J_143_10, I_143_150, J_143_19, J_143_23, I_143_167, J_143_30, I_143_257, J_143_40_76, J_143_40_83, J_143_40_104, J_143_40_111, J_143_40_125, J_143_40_132, F_143_125, J_143_90, J_143_94, F_143_128, F_143_131, I_143_264, J_143_116, J_143_120, F_143_134, F_143_65, J_143_138, J_143_142, V_aloadn0, V_iloadn1, T_10, V_iloadn2, G_10_44, A_335, T_a335, B_335, U_iaload, G_10_45, A_336, T_a336, B_336, G_10_46, A_337, T_a337, B_337, G_10_47, A_338, T_a338, B_338, G_10_22, A_315, T_a315, B_315, U_baload, b_143_0, b_143_13, b_143_26, b_143_27, b_143_35, b_143_76, b_143_83, b_143_97, b_143_103, b_143_104, b_143_111, b_143_123, b_143_124, b_143_125, b_143_132, b_143_145, b_143_146, h103, h98, h99, i115, W_143_0, v0])
    all_goals first | exact ⟨rfl, rfl⟩ | rfl
  · rw [show ((1 : Nat) : Int) = 1 from rfl] at h98 ⊢
    have hq : qCo S c 1 = if rN S 88 0 c = -1 then -1 else rN S 89 0 c := rfl
    by_cases h : rN S 88 0 c = -1
    · rw [if_pos h] at hq
      rw [hq]
      repeat' first
        | (refine V_icmp_ne.mpr ?_; first | rw [if_pos (by omega)] | rw [if_neg (by omega)] | split)
        | (refine V_if_eq.mpr ?_; first | rw [if_pos (by omega)] | rw [if_neg (by omega)] | split)
        | (refine V_if_ne.mpr ?_; first | rw [if_pos (by omega)] | rw [if_neg (by omega)] | split)
        | (simp (disch := (first | omega | (simp (disch := omega) only [up_f, up_s, up_i, up_k, up_e]; omega))) only [up_f, up_s, up_i, up_k, up_e, V_iconst, V_bipush, V_sipush, V_conti, V_contn, V_goto, Option.some.injEq, exists_eq_left', true_and, and_true, m_fit, Option.isSome_some, List.map_nil, List.map_cons, List.sum_nil, List.sum_cons, List.all_nil, List.all_cons, m_cat, decide_true, Bool.and_true, Bool.true_and, Nat.zero_le, Int.toNat_natCast, Int.reduceAdd, Int.reduceSub, Int.reduceMul, Int.reduceNeg, Int.reduceLE, Int.reduceLT, Nat.reduceAdd, Nat.reduceLeDiff, Int.reduceToNat, Int.reduceEq, decide_eq_true_eq, true_or, or_true, exists_and_left, and_self, Nat.reduceMul, Nat.reduceSub, Nat.reduceLT, m_oa, Nat.reduceEqDiff, or_false, false_or, Sum.inl.injEq, Sum.inr.injEq, ↓reduceIte, ne_eq, not_false_eq_true, Int.reduceNe, exists_eq_left, D_143, R_143, X_143, I_143_185, J_143_6, J_143_10, I_143_150, J_143_19, J_143_23, I_143_167, J_143_30, I_143_257, J_143_40_76, J_143_40_83, J_143_40_104, J_143_40_111, J_143_40_125, J_143_40_132, F_143_125, J_143_90, J_143_94, F_143_128, F_143_131, I_143_264, J_143_116, J_143_120, F_143_134, F_143_65, J_143_138, J_143_142, V_aloadn0, V_iloadn1, T_10, V_iloadn2, G_10_44, A_335, T_a335, B_335, U_iaload, G_10_45, A_336, T_a336, B_336, G_10_46, A_337, T_a337, B_337, G_10_47, A_338, T_a338, B_338, G_10_22, A_315, T_a315, B_315, U_baload, b_143_0, b_143_13, b_143_26, b_143_27, b_143_35, b_143_76, b_143_83, b_143_97, b_143_103, b_143_104, b_143_111, b_143_123, b_143_124, b_143_125, b_143_132, b_143_145, b_143_146, h103, h98, h99, i115, W_143_1, v0, v1, h])
    · rw [if_neg h] at hq
      rw [hq]
      repeat' first
        | (refine V_icmp_ne.mpr ?_; first | rw [if_pos (by omega)] | rw [if_neg (by omega)] | split)
        | (refine V_if_eq.mpr ?_; first | rw [if_pos (by omega)] | rw [if_neg (by omega)] | split)
        | (refine V_if_ne.mpr ?_; first | rw [if_pos (by omega)] | rw [if_neg (by omega)] | split)
        | (simp (disch := (first | omega | (simp (disch := omega) only [up_f, up_s, up_i, up_k, up_e]; omega))) only [up_f, up_s, up_i, up_k, up_e, V_iconst, V_bipush, V_sipush, V_conti, V_contn, V_goto, Option.some.injEq, exists_eq_left', true_and, and_true, m_fit, Option.isSome_some, List.map_nil, List.map_cons, List.sum_nil, List.sum_cons, List.all_nil, List.all_cons, m_cat, decide_true, Bool.and_true, Bool.true_and, Nat.zero_le, Int.toNat_natCast, Int.reduceAdd, Int.reduceSub, Int.reduceMul, Int.reduceNeg, Int.reduceLE, Int.reduceLT, Nat.reduceAdd, Nat.reduceLeDiff, Int.reduceToNat, Int.reduceEq, decide_eq_true_eq, true_or, or_true, exists_and_left, and_self, Nat.reduceMul, Nat.reduceSub, Nat.reduceLT, m_oa, Nat.reduceEqDiff, or_false, false_or, Sum.inl.injEq, Sum.inr.injEq, ↓reduceIte, ne_eq, not_false_eq_true, Int.reduceNe, exists_eq_left, D_143, R_143, X_143, I_143_185, J_143_6, J_143_10, I_143_150, J_143_19, J_143_23, I_143_167, J_143_30, I_143_257, J_143_40_76, J_143_40_83, J_143_40_104, J_143_40_111, J_143_40_125, J_143_40_132, F_143_125, J_143_90, J_143_94, F_143_128, F_143_131, I_143_264, J_143_116, J_143_120, F_143_134, F_143_65, J_143_138, J_143_142, V_aloadn0, V_iloadn1, T_10, V_iloadn2, G_10_44, A_335, T_a335, B_335, U_iaload, G_10_45, A_336, T_a336, B_336, G_10_46, A_337, T_a337, B_337, G_10_47, A_338, T_a338, B_338, G_10_22, A_315, T_a315, B_315, U_baload, b_143_0, b_143_13, b_143_26, b_143_27, b_143_35, b_143_76, b_143_83, b_143_97, b_143_103, b_143_104, b_143_111, b_143_123, b_143_124, b_143_125, b_143_132, b_143_145, b_143_146, h103, h98, h99, i115, W_143_1, v0, v1, h])
  · rw [show ((2 : Nat) : Int) = 2 from rfl] at h98 ⊢
    repeat' first
      | (refine V_icmp_ne.mpr ?_; first | rw [if_pos (by omega)] | rw [if_neg (by omega)] | split)
      | (refine V_if_eq.mpr ?_; first | rw [if_pos (by omega)] | rw [if_neg (by omega)] | split)
      | (refine V_if_ne.mpr ?_; first | rw [if_pos (by omega)] | rw [if_neg (by omega)] | split)
      | (simp (disch := (first | omega | (simp (disch := omega) only [up_f, up_s, up_i, up_k, up_e]; omega))) only [up_f, up_s, up_i, up_k, up_e, V_iconst, V_bipush, V_sipush, V_conti, V_contn, V_goto, Option.some.injEq, exists_eq_left', true_and, and_true, m_fit, Option.isSome_some, List.map_nil, List.map_cons, List.sum_nil, List.sum_cons, List.all_nil, List.all_cons, m_cat, decide_true, Bool.and_true, Bool.true_and, Nat.zero_le, Int.toNat_natCast, Int.reduceAdd, Int.reduceSub, Int.reduceMul, Int.reduceNeg, Int.reduceLE, Int.reduceLT, Nat.reduceAdd, Nat.reduceLeDiff, Int.reduceToNat, Int.reduceEq, decide_eq_true_eq, true_or, or_true, exists_and_left, and_self, Nat.reduceMul, Nat.reduceSub, Nat.reduceLT, m_oa, Nat.reduceEqDiff, or_false, false_or, Sum.inl.injEq, Sum.inr.injEq, ↓reduceIte, ne_eq, not_false_eq_true, Int.reduceNe, exists_eq_left, D_143, R_143, X_143, I_143_185, J_143_6, J_143_10, I_143_150, J_143_19, J_143_23, I_143_167, J_143_30, I_143_257, J_143_40_76, J_143_40_83, J_143_40_104, J_143_40_111, J_143_40_125, J_143_40_132, F_143_125, J_143_90, J_143_94, F_143_128, F_143_131, I_143_264, J_143_116, J_143_120, F_143_134, F_143_65, J_143_138, J_143_142, V_aloadn0, V_iloadn1, T_10, V_iloadn2, G_10_44, A_335, T_a335, B_335, U_iaload, G_10_45, A_336, T_a336, B_336, G_10_46, A_337, T_a337, B_337, G_10_47, A_338, T_a338, B_338, G_10_22, A_315, T_a315, B_315, U_baload, b_143_0, b_143_13, b_143_26, b_143_27, b_143_35, b_143_76, b_143_83, b_143_97, b_143_103, b_143_104, b_143_111, b_143_123, b_143_124, b_143_125, b_143_132, b_143_145, b_143_146, h103, h98, h99, i115, W_143_2, v2])
    all_goals first | exact ⟨rfl, rfl⟩ | rfl
  · rw [show ((3 : Nat) : Int) = 3 from rfl] at h98 ⊢
    have hq : qCo S c 3 = if 0 < S 69 0 c ∧ S 69 0 c ≤ rN S 90 0 c then 1 else 0 := rfl
    have hi := home_iff ps hc
    by_cases h : 0 < S 69 0 c ∧ S 69 0 c ≤ rN S 90 0 c
    · simp only [if_pos (hi.mpr h)] at h144
      rw [if_pos h] at hq
      rw [hq]
      repeat' first
        | (refine V_icmp_ne.mpr ?_; first | rw [if_pos (by omega)] | rw [if_neg (by omega)] | split)
        | (refine V_if_eq.mpr ?_; first | rw [if_pos (by omega)] | rw [if_neg (by omega)] | split)
        | (refine V_if_ne.mpr ?_; first | rw [if_pos (by omega)] | rw [if_neg (by omega)] | split)
        | (simp (disch := (first | omega | (simp (disch := omega) only [up_f, up_s, up_i, up_k, up_e]; omega))) only [up_f, up_s, up_i, up_k, up_e, V_iconst, V_bipush, V_sipush, V_conti, V_contn, V_goto, Option.some.injEq, exists_eq_left', true_and, and_true, m_fit, Option.isSome_some, List.map_nil, List.map_cons, List.sum_nil, List.sum_cons, List.all_nil, List.all_cons, m_cat, decide_true, Bool.and_true, Bool.true_and, Nat.zero_le, Int.toNat_natCast, Int.reduceAdd, Int.reduceSub, Int.reduceMul, Int.reduceNeg, Int.reduceLE, Int.reduceLT, Nat.reduceAdd, Nat.reduceLeDiff, Int.reduceToNat, Int.reduceEq, decide_eq_true_eq, true_or, or_true, exists_and_left, and_self, Nat.reduceMul, Nat.reduceSub, Nat.reduceLT, m_oa, Nat.reduceEqDiff, or_false, false_or, Sum.inl.injEq, Sum.inr.injEq, ↓reduceIte, ne_eq, not_false_eq_true, Int.reduceNe, exists_eq_left, D_143, R_143, X_143, I_143_185, J_143_6, J_143_10, I_143_150, J_143_19, J_143_23, I_143_167, J_143_30, I_143_257, J_143_40_76, J_143_40_83, J_143_40_104, J_143_40_111, J_143_40_125, J_143_40_132, F_143_125, J_143_90, J_143_94, F_143_128, F_143_131, I_143_264, J_143_116, J_143_120, F_143_134, F_143_65, J_143_138, J_143_142, V_aloadn0, V_iloadn1, T_10, V_iloadn2, G_10_44, A_335, T_a335, B_335, U_iaload, G_10_45, A_336, T_a336, B_336, G_10_46, A_337, T_a337, B_337, G_10_47, A_338, T_a338, B_338, G_10_22, A_315, T_a315, B_315, U_baload, b_143_0, b_143_13, b_143_26, b_143_27, b_143_35, b_143_76, b_143_83, b_143_97, b_143_103, b_143_104, b_143_111, b_143_123, b_143_124, b_143_125, b_143_132, b_143_145, b_143_146, h103, h98, h99, i115, W_143_3, h144])
    · simp only [if_neg (fun z => h (hi.mp z))] at h144
      rw [if_neg h] at hq
      rw [hq]
      repeat' first
        | (refine V_icmp_ne.mpr ?_; first | rw [if_pos (by omega)] | rw [if_neg (by omega)] | split)
        | (refine V_if_eq.mpr ?_; first | rw [if_pos (by omega)] | rw [if_neg (by omega)] | split)
        | (refine V_if_ne.mpr ?_; first | rw [if_pos (by omega)] | rw [if_neg (by omega)] | split)
        | (simp (disch := (first | omega | (simp (disch := omega) only [up_f, up_s, up_i, up_k, up_e]; omega))) only [up_f, up_s, up_i, up_k, up_e, V_iconst, V_bipush, V_sipush, V_conti, V_contn, V_goto, Option.some.injEq, exists_eq_left', true_and, and_true, m_fit, Option.isSome_some, List.map_nil, List.map_cons, List.sum_nil, List.sum_cons, List.all_nil, List.all_cons, m_cat, decide_true, Bool.and_true, Bool.true_and, Nat.zero_le, Int.toNat_natCast, Int.reduceAdd, Int.reduceSub, Int.reduceMul, Int.reduceNeg, Int.reduceLE, Int.reduceLT, Nat.reduceAdd, Nat.reduceLeDiff, Int.reduceToNat, Int.reduceEq, decide_eq_true_eq, true_or, or_true, exists_and_left, and_self, Nat.reduceMul, Nat.reduceSub, Nat.reduceLT, m_oa, Nat.reduceEqDiff, or_false, false_or, Sum.inl.injEq, Sum.inr.injEq, ↓reduceIte, ne_eq, not_false_eq_true, Int.reduceNe, exists_eq_left, D_143, R_143, X_143, I_143_185, J_143_6, J_143_10, I_143_150, J_143_19, J_143_23, I_143_167, J_143_30, I_143_257, J_143_40_76, J_143_40_83, J_143_40_104, J_143_40_111, J_143_40_125, J_143_40_132, F_143_125, J_143_90, J_143_94, F_143_128, F_143_131, I_143_264, J_143_116, J_143_120, F_143_134, F_143_65, J_143_138, J_143_142, V_aloadn0, V_iloadn1, T_10, V_iloadn2, G_10_44, A_335, T_a335, B_335, U_iaload, G_10_45, A_336, T_a336, B_336, G_10_46, A_337, T_a337, B_337, G_10_47, A_338, T_a338, B_338, G_10_22, A_315, T_a315, B_315, U_baload, b_143_0, b_143_13, b_143_26, b_143_27, b_143_35, b_143_76, b_143_83, b_143_97, b_143_103, b_143_104, b_143_111, b_143_123, b_143_124, b_143_125, b_143_132, b_143_145, b_143_146, h103, h98, h99, i115, W_143_3, h144])
  · rw [show ((4 : Nat) : Int) = 4 from rfl] at h98 ⊢
    repeat' first
      | (refine V_icmp_ne.mpr ?_; first | rw [if_pos (by omega)] | rw [if_neg (by omega)] | split)
      | (refine V_if_eq.mpr ?_; first | rw [if_pos (by omega)] | rw [if_neg (by omega)] | split)
      | (refine V_if_ne.mpr ?_; first | rw [if_pos (by omega)] | rw [if_neg (by omega)] | split)
      | (simp (disch := (first | omega | (simp (disch := omega) only [up_f, up_s, up_i, up_k, up_e]; omega))) only [up_f, up_s, up_i, up_k, up_e, V_iconst, V_bipush, V_sipush, V_conti, V_contn, V_goto, Option.some.injEq, exists_eq_left', true_and, and_true, m_fit, Option.isSome_some, List.map_nil, List.map_cons, List.sum_nil, List.sum_cons, List.all_nil, List.all_cons, m_cat, decide_true, Bool.and_true, Bool.true_and, Nat.zero_le, Int.toNat_natCast, Int.reduceAdd, Int.reduceSub, Int.reduceMul, Int.reduceNeg, Int.reduceLE, Int.reduceLT, Nat.reduceAdd, Nat.reduceLeDiff, Int.reduceToNat, Int.reduceEq, decide_eq_true_eq, true_or, or_true, exists_and_left, and_self, Nat.reduceMul, Nat.reduceSub, Nat.reduceLT, m_oa, Nat.reduceEqDiff, or_false, false_or, Sum.inl.injEq, Sum.inr.injEq, ↓reduceIte, ne_eq, not_false_eq_true, Int.reduceNe, exists_eq_left, D_143, R_143, X_143, I_143_185, J_143_6, J_143_10, I_143_150, J_143_19, J_143_23, I_143_167, J_143_30, I_143_257, J_143_40_76, J_143_40_83, J_143_40_104, J_143_40_111, J_143_40_125, J_143_40_132, F_143_125, J_143_90, J_143_94, F_143_128, F_143_131, I_143_264, J_143_116, J_143_120, F_143_134, F_143_65, J_143_138, J_143_142, V_aloadn0, V_iloadn1, T_10, V_iloadn2, G_10_44, A_335, T_a335, B_335, U_iaload, G_10_45, A_336, T_a336, B_336, G_10_46, A_337, T_a337, B_337, G_10_47, A_338, T_a338, B_338, G_10_22, A_315, T_a315, B_315, U_baload, b_143_0, b_143_13, b_143_26, b_143_27, b_143_35, b_143_76, b_143_83, b_143_97, b_143_103, b_143_104, b_143_111, b_143_123, b_143_124, b_143_125, b_143_132, b_143_145, b_143_146, h103, h98, h99, i115, W_143_4, v4])
    all_goals first | exact ⟨rfl, rfl⟩ | rfl
  · rw [show ((5 : Nat) : Int) = 5 from rfl] at h98 ⊢
    have hq : qCo S c 5 = if S 68 0 c = 0 then 0 else 1 := rfl
    have hw5 : (5 : Int) < 0 ∨ 4 < (5 : Int) := by omega
    by_cases h : S 68 0 c = 0
    · rw [if_pos h] at hq
      rw [hq]
      repeat' first
        | (refine V_icmp_ne.mpr ?_; first | rw [if_pos (by omega)] | rw [if_neg (by omega)] | split)
        | (refine V_if_eq.mpr ?_; first | rw [if_pos (by omega)] | rw [if_neg (by omega)] | split)
        | (refine V_if_ne.mpr ?_; first | rw [if_pos (by omega)] | rw [if_neg (by omega)] | split)
        | (simp (disch := (first | omega | (simp (disch := omega) only [up_f, up_s, up_i, up_k, up_e]; omega))) only [up_f, up_s, up_i, up_k, up_e, V_iconst, V_bipush, V_sipush, V_conti, V_contn, V_goto, Option.some.injEq, exists_eq_left', true_and, and_true, m_fit, Option.isSome_some, List.map_nil, List.map_cons, List.sum_nil, List.sum_cons, List.all_nil, List.all_cons, m_cat, decide_true, Bool.and_true, Bool.true_and, Nat.zero_le, Int.toNat_natCast, Int.reduceAdd, Int.reduceSub, Int.reduceMul, Int.reduceNeg, Int.reduceLE, Int.reduceLT, Nat.reduceAdd, Nat.reduceLeDiff, Int.reduceToNat, Int.reduceEq, decide_eq_true_eq, true_or, or_true, exists_and_left, and_self, Nat.reduceMul, Nat.reduceSub, Nat.reduceLT, m_oa, Nat.reduceEqDiff, or_false, false_or, Sum.inl.injEq, Sum.inr.injEq, ↓reduceIte, ne_eq, not_false_eq_true, Int.reduceNe, exists_eq_left, D_143, R_143, X_143, I_143_185, J_143_6, J_143_10, I_143_150, J_143_19, J_143_23, I_143_167, J_143_30, I_143_257, J_143_40_76, J_143_40_83, J_143_40_104, J_143_40_111, J_143_40_125, J_143_40_132, F_143_125, J_143_90, J_143_94, F_143_128, F_143_131, I_143_264, J_143_116, J_143_120, F_143_134, F_143_65, J_143_138, J_143_142, V_aloadn0, V_iloadn1, T_10, V_iloadn2, G_10_44, A_335, T_a335, B_335, U_iaload, G_10_45, A_336, T_a336, B_336, G_10_46, A_337, T_a337, B_337, G_10_47, A_338, T_a338, B_338, G_10_22, A_315, T_a315, B_315, U_baload, b_143_0, b_143_13, b_143_26, b_143_27, b_143_35, b_143_76, b_143_83, b_143_97, b_143_103, b_143_104, b_143_111, b_143_123, b_143_124, b_143_125, b_143_132, b_143_145, b_143_146, h103, h98, h99, i115, W_143_d hw5, v68])
    · rw [if_neg h] at hq
      rw [hq]
      repeat' first
        | (refine V_icmp_ne.mpr ?_; first | rw [if_pos (by omega)] | rw [if_neg (by omega)] | split)
        | (refine V_if_eq.mpr ?_; first | rw [if_pos (by omega)] | rw [if_neg (by omega)] | split)
        | (refine V_if_ne.mpr ?_; first | rw [if_pos (by omega)] | rw [if_neg (by omega)] | split)
        | (simp (disch := (first | omega | (simp (disch := omega) only [up_f, up_s, up_i, up_k, up_e]; omega))) only [up_f, up_s, up_i, up_k, up_e, V_iconst, V_bipush, V_sipush, V_conti, V_contn, V_goto, Option.some.injEq, exists_eq_left', true_and, and_true, m_fit, Option.isSome_some, List.map_nil, List.map_cons, List.sum_nil, List.sum_cons, List.all_nil, List.all_cons, m_cat, decide_true, Bool.and_true, Bool.true_and, Nat.zero_le, Int.toNat_natCast, Int.reduceAdd, Int.reduceSub, Int.reduceMul, Int.reduceNeg, Int.reduceLE, Int.reduceLT, Nat.reduceAdd, Nat.reduceLeDiff, Int.reduceToNat, Int.reduceEq, decide_eq_true_eq, true_or, or_true, exists_and_left, and_self, Nat.reduceMul, Nat.reduceSub, Nat.reduceLT, m_oa, Nat.reduceEqDiff, or_false, false_or, Sum.inl.injEq, Sum.inr.injEq, ↓reduceIte, ne_eq, not_false_eq_true, Int.reduceNe, exists_eq_left, D_143, R_143, X_143, I_143_185, J_143_6, J_143_10, I_143_150, J_143_19, J_143_23, I_143_167, J_143_30, I_143_257, J_143_40_76, J_143_40_83, J_143_40_104, J_143_40_111, J_143_40_125, J_143_40_132, F_143_125, J_143_90, J_143_94, F_143_128, F_143_131, I_143_264, J_143_116, J_143_120, F_143_134, F_143_65, J_143_138, J_143_142, V_aloadn0, V_iloadn1, T_10, V_iloadn2, G_10_44, A_335, T_a335, B_335, U_iaload, G_10_45, A_336, T_a336, B_336, G_10_46, A_337, T_a337, B_337, G_10_47, A_338, T_a338, B_338, G_10_22, A_315, T_a315, B_315, U_baload, b_143_0, b_143_13, b_143_26, b_143_27, b_143_35, b_143_76, b_143_83, b_143_97, b_143_103, b_143_104, b_143_111, b_143_123, b_143_124, b_143_125, b_143_132, b_143_145, b_143_146, h103, h98, h99, i115, W_143_d hw5, v68])
theorem k_145 {D S : Sg} {T C : Nat} {Q : MOut → MHp → Prop} (wp : WP D T C) (mr : MR T D S S (recA D)) (K : Q (.inl (some (vI (hmA D (recA D).1 C)))) (mk S e)) : ∀ (z c : Nat) (cc : Int), c + z = C → cc = c → m_ok xs L 145 b_145_8 [vR 296, vI (hmA D (recA D).1 c), vI cc] [] (mk S e) Q
  | 0, c, cc, hz, hcc => by
    have hc : c = C := by omega
    subst hc
    subst hcc
    have h2014 : S 2014 0 0 = c := by rw [mr.1.1 2014 _ rfl]; exact wp.2.1
    unfold b_145_8
    repeat' first
      | (refine V_icmp_ge.mpr ?_; first | rw [if_pos (by omega)] | rw [if_neg (by omega)] | split)
      | (refine V_if_eq.mpr ?_; first | rw [if_pos (by omega)] | rw [if_neg (by omega)] | split)
      | (simp (disch := (first | omega | (simp (disch := omega) only [up_f, up_s, up_i, up_k, up_e]; omega))) only [up_f, up_s, up_i, up_k, up_e, V_iconst, V_bipush, V_sipush, V_conti, V_contn, V_goto, Option.some.injEq, exists_eq_left', true_and, and_true, m_fit, Option.isSome_some, List.map_nil, List.map_cons, List.sum_nil, List.sum_cons, List.all_nil, List.all_cons, m_cat, decide_true, Bool.and_true, Bool.true_and, Nat.zero_le, Int.toNat_natCast, Int.reduceAdd, Int.reduceSub, Int.reduceMul, Int.reduceNeg, Int.reduceLE, Int.reduceLT, Nat.reduceAdd, Nat.reduceLeDiff, Int.reduceToNat, Int.reduceEq, decide_eq_true_eq, true_or, or_true, exists_and_left, and_self, Nat.reduceMul, Nat.reduceSub, Nat.reduceLT, m_oa, Nat.reduceEqDiff, or_false, false_or, Sum.inl.injEq, Sum.inr.injEq, ↓reduceIte, ne_eq, not_false_eq_true, Int.reduceNe, exists_eq_left, D_145, R_145, X_145, I_145_257, F_145_161, J_145_13, I_145_264, J_145_22, J_145_26, J_145_35, V_aloadn0, T_10, V_istoren1, V_istoren2, V_iloadn2, G_10_14, V_iloadn1, V_iadd, m_add_eq, V_iinc2, b_145_0, b_145_29, b_145_30, b_145_38, h2014])
    all_goals exact K
  | z + 1, c, cc, hz, hcc => by
    subst hcc
    have hC : C ≤ 10 := wp.2.2.2.1
    have hcC : c < C := by omega
    have hc10 : c < 10 := by omega
    have h2014 : S 2014 0 0 = C := by rw [mr.1.1 2014 _ rfl]; exact wp.2.1
    have hr := hmA_ran (D := D) (N := (recA D).1) c
    have h144 := s_144 (xs := xs) (L := L) (S := S) (e := e) hc10
    rw [mr.1.1 68 _ rfl, mr.1.1 69 _ rfl, R90 mr.2.1 hc10] at h144
    have wc := (WN_ruA wp 2000 (by omega)).2.2.1 c hcC
    have hi : (D 68 0 c = 0 ∧ 0 < D 69 0 c ∧ (recA D).1 90 0 c = D 69 0 c) ↔ (0 < D 69 0 c ∧ D 69 0 c ≤ (recA D).1 90 0 c) := by
      unfold recA
      omega
    have kk := k_145 wp mr K z (c + 1) ((c : Int) + 1) (by omega) (by omega)
    by_cases h : 0 < D 69 0 c ∧ D 69 0 c ≤ (recA D).1 90 0 c
    · simp only [if_pos (hi.mpr h)] at h144
      have hE : hmA D (recA D).1 (c + 1) = hmA D (recA D).1 c + 1 := by rw [hmA, if_pos h]
      rw [hE] at kk
      unfold b_145_8
      repeat' first
        | (refine V_icmp_ge.mpr ?_; first | rw [if_pos (by omega)] | rw [if_neg (by omega)] | split)
        | (refine V_if_eq.mpr ?_; first | rw [if_pos (by omega)] | rw [if_neg (by omega)] | split)
        | (simp (disch := (first | omega | (simp (disch := omega) only [up_f, up_s, up_i, up_k, up_e]; omega))) only [up_f, up_s, up_i, up_k, up_e, V_iconst, V_bipush, V_sipush, V_conti, V_contn, V_goto, Option.some.injEq, exists_eq_left', true_and, and_true, m_fit, Option.isSome_some, List.map_nil, List.map_cons, List.sum_nil, List.sum_cons, List.all_nil, List.all_cons, m_cat, decide_true, Bool.and_true, Bool.true_and, Nat.zero_le, Int.toNat_natCast, Int.reduceAdd, Int.reduceSub, Int.reduceMul, Int.reduceNeg, Int.reduceLE, Int.reduceLT, Nat.reduceAdd, Nat.reduceLeDiff, Int.reduceToNat, Int.reduceEq, decide_eq_true_eq, true_or, or_true, exists_and_left, and_self, Nat.reduceMul, Nat.reduceSub, Nat.reduceLT, m_oa, Nat.reduceEqDiff, or_false, false_or, Sum.inl.injEq, Sum.inr.injEq, ↓reduceIte, ne_eq, not_false_eq_true, Int.reduceNe, exists_eq_left, D_145, R_145, X_145, I_145_257, F_145_161, J_145_13, I_145_264, J_145_22, J_145_26, J_145_35, V_aloadn0, T_10, V_istoren1, V_istoren2, V_iloadn2, G_10_14, V_iloadn1, V_iadd, m_add_eq, V_iinc2, b_145_0, b_145_29, b_145_30, b_145_38, h2014, h144])
      exact kk
    · simp only [if_neg (fun z => h (hi.mp z))] at h144
      have hE : hmA D (recA D).1 (c + 1) = hmA D (recA D).1 c + 0 := by rw [hmA, if_neg h]
      rw [hE] at kk
      unfold b_145_8
      repeat' first
        | (refine V_icmp_ge.mpr ?_; first | rw [if_pos (by omega)] | rw [if_neg (by omega)] | split)
        | (refine V_if_eq.mpr ?_; first | rw [if_pos (by omega)] | rw [if_neg (by omega)] | split)
        | (simp (disch := (first | omega | (simp (disch := omega) only [up_f, up_s, up_i, up_k, up_e]; omega))) only [up_f, up_s, up_i, up_k, up_e, V_iconst, V_bipush, V_sipush, V_conti, V_contn, V_goto, Option.some.injEq, exists_eq_left', true_and, and_true, m_fit, Option.isSome_some, List.map_nil, List.map_cons, List.sum_nil, List.sum_cons, List.all_nil, List.all_cons, m_cat, decide_true, Bool.and_true, Bool.true_and, Nat.zero_le, Int.toNat_natCast, Int.reduceAdd, Int.reduceSub, Int.reduceMul, Int.reduceNeg, Int.reduceLE, Int.reduceLT, Nat.reduceAdd, Nat.reduceLeDiff, Int.reduceToNat, Int.reduceEq, decide_eq_true_eq, true_or, or_true, exists_and_left, and_self, Nat.reduceMul, Nat.reduceSub, Nat.reduceLT, m_oa, Nat.reduceEqDiff, or_false, false_or, Sum.inl.injEq, Sum.inr.injEq, ↓reduceIte, ne_eq, not_false_eq_true, Int.reduceNe, exists_eq_left, D_145, R_145, X_145, I_145_257, F_145_161, J_145_13, I_145_264, J_145_22, J_145_26, J_145_35, V_aloadn0, T_10, V_istoren1, V_istoren2, V_iloadn2, G_10_14, V_iloadn1, V_iadd, m_add_eq, V_iinc2, b_145_0, b_145_29, b_145_30, b_145_38, h2014, h144])
      exact kk
theorem r_145 {T C : Nat} {D S : Sg} (wp : WP D T C) (pm : PM D S) (h01 : S 2034 0 0 = 0 ∨ S 2034 0 0 = 1) (hc : S 2034 0 0 = 1 → MR T D S S (recA D)) :
    ∃ S2, (MR T D S2 S2 (recA D) ∧ S2 2034 0 0 = 1 ∧ ∀ f i k, (f < 79 ∨ 93 < f) → ¬ f = 2034 → S2 f i k = S f i k) ∧ ∀ Q, m_do xs L 145 [vR 296] (mk S e) Q ↔ Q (.inl (some (vI (hmA D (recA D).1 C)))) (mk S2 e) := by
  obtain ⟨S2, ⟨c1, c2, c3⟩, i⟩ := r_115 (xs := xs) (L := L) (e := e) wp pm h01 hc
  refine ⟨S2, ⟨c1, c2, c3⟩, fun Q => m_do_eq ?_ Q⟩
  repeat' first
    | (refine V_icmp_ge.mpr ?_; first | rw [if_pos (by omega)] | rw [if_neg (by omega)] | split)
    | (refine V_if_eq.mpr ?_; first | rw [if_pos (by omega)] | rw [if_neg (by omega)] | split)
    | (simp (disch := (first | omega | (simp (disch := omega) only [up_f, up_s, up_i, up_k, up_e]; omega))) only [up_f, up_s, up_i, up_k, up_e, V_iconst, V_bipush, V_sipush, V_conti, V_contn, V_goto, Option.some.injEq, exists_eq_left', true_and, and_true, m_fit, Option.isSome_some, List.map_nil, List.map_cons, List.sum_nil, List.sum_cons, List.all_nil, List.all_cons, m_cat, decide_true, Bool.and_true, Bool.true_and, Nat.zero_le, Int.toNat_natCast, Int.reduceAdd, Int.reduceSub, Int.reduceMul, Int.reduceNeg, Int.reduceLE, Int.reduceLT, Nat.reduceAdd, Nat.reduceLeDiff, Int.reduceToNat, Int.reduceEq, decide_eq_true_eq, true_or, or_true, exists_and_left, and_self, Nat.reduceMul, Nat.reduceSub, Nat.reduceLT, m_oa, Nat.reduceEqDiff, or_false, false_or, Sum.inl.injEq, Sum.inr.injEq, ↓reduceIte, ne_eq, not_false_eq_true, Int.reduceNe, exists_eq_left, D_145, R_145, X_145, I_145_257, F_145_161, J_145_13, I_145_264, J_145_22, J_145_26, J_145_35, V_aloadn0, T_10, V_istoren1, V_istoren2, V_iloadn2, G_10_14, V_iloadn1, V_iadd, m_add_eq, V_iinc2, b_145_0, b_145_29, b_145_30, b_145_38, i])
  exact k_145 wp c1 ⟨rfl, rfl⟩ C 0 0 (by omega) rfl
theorem m_147 {S : Sg} {A T C : Nat} (ps : PS S A T C) (nc : NC S T C) : ∃ S2, (FM2 S S2 ∧ NC S2 T C ∧ S2 2000 0 0 = 0) ∧ ∀ Q, m_do xs L 147 [vR 296] (mk S e) Q ↔ Q (.inl (some (vI (qHm S C)))) (mk S2 e) := by
  have ps1 : PS (up S 2000 0 0 0) A T C := PS_up ps rfl
  obtain ⟨S2, ⟨fn, nc2, mr, h2034⟩, i115⟩ := n_115 (xs := xs) (L := L) (e := e) ps1 (NC_up ps nc rfl rfl (by decide))
  rw [nrm_2000] at mr
  have h2000 : S2 2000 0 0 = 0 := by rw [fn 2000 0 0 rfl, up_s]
  have i145 : ∀ Q, m_do xs L 145 [vR 296] (mk (up S 2000 0 0 0) e) Q ↔ Q (.inl (some (vI (qHm S C)))) (mk S2 e) := fun Q => m_do_eq (by
    repeat' first
      | (refine V_icmp_ge.mpr ?_; first | rw [if_pos (by omega)] | rw [if_neg (by omega)] | split)
      | (refine V_if_eq.mpr ?_; first | rw [if_pos (by omega)] | rw [if_neg (by omega)] | split)
      | (simp (disch := (first | omega | (simp (disch := omega) only [up_f, up_s, up_i, up_k, up_e]; omega))) only [up_f, up_s, up_i, up_k, up_e, V_iconst, V_bipush, V_sipush, V_conti, V_contn, V_goto, Option.some.injEq, exists_eq_left', true_and, and_true, m_fit, Option.isSome_some, List.map_nil, List.map_cons, List.sum_nil, List.sum_cons, List.all_nil, List.all_cons, m_cat, decide_true, Bool.and_true, Bool.true_and, Nat.zero_le, Int.toNat_natCast, Int.reduceAdd, Int.reduceSub, Int.reduceMul, Int.reduceNeg, Int.reduceLE, Int.reduceLT, Nat.reduceAdd, Nat.reduceLeDiff, Int.reduceToNat, Int.reduceEq, decide_eq_true_eq, true_or, or_true, exists_and_left, and_self, Nat.reduceMul, Nat.reduceSub, Nat.reduceLT, m_oa, Nat.reduceEqDiff, or_false, false_or, Sum.inl.injEq, Sum.inr.injEq, ↓reduceIte, ne_eq, not_false_eq_true, Int.reduceNe, exists_eq_left, D_145, R_145, X_145, I_145_257, F_145_161, J_145_13, I_145_264, J_145_22, J_145_26, J_145_35, V_aloadn0, T_10, V_istoren1, V_istoren2, V_iloadn2, G_10_14, V_iloadn1, V_iadd, m_add_eq, V_iinc2, b_145_0, b_145_29, b_145_30, b_145_38, i115])
    exact k_145 (PS_WP ps) mr ⟨rfl, rfl⟩ C 0 0 (by omega) rfl) Q
  refine ⟨S2, ⟨FN_FM2 rfl fn, nc2, h2000⟩, fun Q => m_do_eq ?_ Q⟩
  repeat' first
    | (simp (disch := (first | omega | (simp (disch := omega) only [up_f, up_s, up_i, up_k, up_e]; omega))) only [up_f, up_s, up_i, up_k, up_e, V_iconst, V_bipush, V_sipush, V_conti, V_contn, V_goto, Option.some.injEq, exists_eq_left', true_and, and_true, m_fit, Option.isSome_some, List.map_nil, List.map_cons, List.sum_nil, List.sum_cons, List.all_nil, List.all_cons, m_cat, decide_true, Bool.and_true, Bool.true_and, Nat.zero_le, Int.toNat_natCast, Int.reduceAdd, Int.reduceSub, Int.reduceMul, Int.reduceNeg, Int.reduceLE, Int.reduceLT, Nat.reduceAdd, Nat.reduceLeDiff, Int.reduceToNat, Int.reduceEq, decide_eq_true_eq, true_or, or_true, exists_and_left, and_self, Nat.reduceMul, Nat.reduceSub, Nat.reduceLT, m_oa, Nat.reduceEqDiff, or_false, false_or, Sum.inl.injEq, Sum.inr.injEq, ↓reduceIte, ne_eq, not_false_eq_true, Int.reduceNe, exists_eq_left, D_147, R_147, X_147, W_147_143, I_147_267, V_aloadn0, G_10_0, P_10_0, T_10, b_147_0, i145])
  all_goals first | exact ⟨rfl, rfl⟩ | rfl
theorem k_148 {S : Sg} {A T C t : Nat} {was : Int} {Q : MOut → MHp → Prop} (ps : PS S A T C) (ht : t < T) (K : ∀ (S2 : Sg) (m1 : Int) (jj : Int) (v : MV), (∀ f i j, (f < 79 ∨ 93 < f) → ¬ f = 2034 → ¬ f = 2000 → ¬ (f = 53 ∧ i = 0 ∧ j = t) → S2 f i j = S f i j) → S2 2000 0 0 = 0 → m_ok xs L 148 b_148_100 [vR 296, vI t, vI was, vI (bsA S t C 19).1, vI m1, vI jj, v] [] (mk S2 e) Q) : ∀ (z j : Nat) (jj : Int) (S1 : Sg) (v : MV), j + z = 19 → jj = (10 * j : Nat) → (∀ f i j, (f < 79 ∨ 93 < f) → ¬ f = 2034 → ¬ f = 2000 → ¬ (f = 53 ∧ i = 0 ∧ j = t) → S1 f i j = S f i j) → S1 2000 0 0 = 0 → m_ok xs L 148 b_148_37 [vR 296, vI t, vI was, vI (bsA S t C j).1, vI (bsA S t C j).2, vI jj, v] [] (mk S1 e) Q
  | 0, j, jj, S1, v, hz, hjj, fr, h20 => by
    have hj : j = 19 := by omega
    subst hj
    subst hjj
    have kk := fun m1 jj v => K S1 m1 jj v fr h20
    rw [show ((10 * 19 : Nat) : Int) = 190 from rfl]
    unfold b_148_37
    repeat' first
      | (refine V_icmp_gt.mpr ?_; first | rw [if_pos (by omega)] | rw [if_neg (by omega)] | split)
      | (refine V_icmp_le.mpr ?_; first | rw [if_pos (by omega)] | rw [if_neg (by omega)] | split)
      | (refine V_if_eq.mpr ?_; first | rw [if_pos (by omega)] | rw [if_neg (by omega)] | split)
      | (simp (disch := (first | omega | (simp (disch := omega) only [up_f, up_s, up_i, up_k, up_e]; omega))) only [up_f, up_s, up_i, up_k, up_e, V_iconst, V_bipush, V_sipush, V_conti, V_contn, V_goto, Option.some.injEq, exists_eq_left', true_and, and_true, m_fit, Option.isSome_some, List.map_nil, List.map_cons, List.sum_nil, List.sum_cons, List.all_nil, List.all_cons, m_cat, decide_true, Bool.and_true, Bool.true_and, Nat.zero_le, Int.toNat_natCast, Int.reduceAdd, Int.reduceSub, Int.reduceMul, Int.reduceNeg, Int.reduceLE, Int.reduceLT, Nat.reduceAdd, Nat.reduceLeDiff, Int.reduceToNat, Int.reduceEq, decide_eq_true_eq, true_or, or_true, exists_and_left, and_self, Nat.reduceMul, Nat.reduceSub, Nat.reduceLT, m_oa, Nat.reduceEqDiff, or_false, false_or, Sum.inl.injEq, Sum.inr.injEq, ↓reduceIte, ne_eq, not_false_eq_true, Int.reduceNe, exists_eq_left, D_148, R_148, X_148, I_148_157, J_148_6, J_148_10, I_148_167, J_148_17, F_148_19, J_148_42, W_148_173, I_148_267, J_148_68, J_148_73, J_148_82, J_148_87, J_148_97, V_aloadn0, V_iloadn1, T_10, G_10_6, A_300, T_a300, B_300, U_iaload, V_istoren2, V_istoren3, V_istore4, V_istore5, V_iload5, U_iastore, G_10_34, P_10_34, V_istore6, V_iload6, V_iload4, V_iloadn3, V_iinc5, m_add_eq, V_iloadn2, b_148_0, b_148_13, b_148_14, b_148_22, b_148_76, b_148_77, b_148_90, b_148_92])
    all_goals exact kk _ _ _
  | z + 1, j, jj, S1, v, hz, hjj, fr, h20 => by
    subst hjj
    have hT : T ≤ 6 := ps.1.2.2.2.2.2.1
    have ht6 : t < 6 := by omega
    have hD : nrm (up (up S1 53 0 t (10 * j : Nat)) 2034 0 0 0) = up (nrm S) 53 0 t (10 * j : Nat) := by
      rw [← nrm_pat]
      refine nrm_ext (fun f i j2 hf => ?_)
      have hy := psF_yes hf
      rw [up_f (by omega)]
      simp only [up]
      split
      · rfl
      · rename_i hno
        exact fr f i j2 (by omega) (by omega) (by omega) hno
    have hz0 : up (up S1 53 0 t (10 * j : Nat)) 2034 0 0 0 2034 0 0 = 0 := up_s
    obtain ⟨S2, ⟨mr, h34, fr2⟩, i145⟩ := r_145 (xs := xs) (L := L) (e := e) (D := up (nrm S) 53 0 t (10 * j : Nat)) (S := up (up S1 53 0 t (10 * j : Nat)) 2034 0 0 0) (WP_pat (PS_WP ps) (by omega)) (by rw [← hD]; exact PS_PM) (Or.inl hz0) (fun z => by omega)
    have fr3 : (∀ f i j, (f < 79 ∨ 93 < f) → ¬ f = 2034 → ¬ f = 2000 → ¬ (f = 53 ∧ i = 0 ∧ j = t) → S2 f i j = S f i j) := fun f i j2 h1 h2 h3 h4 => by
      rw [fr2 f i j2 h1 h2, up_f h2]
      simp only [up]
      rw [if_neg h4]
      exact fr f i j2 h1 h2 h3 h4
    have h203 : S2 2000 0 0 = 0 := by
      rw [fr2 2000 0 0 (by omega) (by omega), up_f (by decide), up_f (by decide)]
      exact h20
    have kk := fun jj v hjj => k_148 ps ht K z (j + 1) jj S2 v (by omega) hjj fr3 h203
    have hr := hmA_ran (D := up (nrm S) 53 0 t (10 * j : Nat)) (N := (recA (up (nrm S) 53 0 t (10 * j : Nat))).1) C
    by_cases h : (bsA S t C j).2 < hmA (up (nrm S) 53 0 t (10 * j : Nat)) (recA (up (nrm S) 53 0 t (10 * j : Nat))).1 C
    · have hE : bsA S t C (j + 1) = (((10 * j : Nat) : Int), hmA (up (nrm S) 53 0 t (10 * j : Nat)) (recA (up (nrm S) 53 0 t (10 * j : Nat))).1 C) := by rw [bsA, if_pos h]
      rw [hE] at kk
      unfold b_148_37
      repeat' first
        | (refine V_icmp_gt.mpr ?_; first | rw [if_pos (by omega)] | rw [if_neg (by omega)] | split)
        | (refine V_icmp_le.mpr ?_; first | rw [if_pos (by omega)] | rw [if_neg (by omega)] | split)
        | (refine V_if_eq.mpr ?_; first | rw [if_pos (by omega)] | rw [if_neg (by omega)] | split)
        | (simp (disch := (first | omega | (simp (disch := omega) only [up_f, up_s, up_i, up_k, up_e]; omega))) only [up_f, up_s, up_i, up_k, up_e, V_iconst, V_bipush, V_sipush, V_conti, V_contn, V_goto, Option.some.injEq, exists_eq_left', true_and, and_true, m_fit, Option.isSome_some, List.map_nil, List.map_cons, List.sum_nil, List.sum_cons, List.all_nil, List.all_cons, m_cat, decide_true, Bool.and_true, Bool.true_and, Nat.zero_le, Int.toNat_natCast, Int.reduceAdd, Int.reduceSub, Int.reduceMul, Int.reduceNeg, Int.reduceLE, Int.reduceLT, Nat.reduceAdd, Nat.reduceLeDiff, Int.reduceToNat, Int.reduceEq, decide_eq_true_eq, true_or, or_true, exists_and_left, and_self, Nat.reduceMul, Nat.reduceSub, Nat.reduceLT, m_oa, Nat.reduceEqDiff, or_false, false_or, Sum.inl.injEq, Sum.inr.injEq, ↓reduceIte, ne_eq, not_false_eq_true, Int.reduceNe, exists_eq_left, D_148, R_148, X_148, I_148_157, J_148_6, J_148_10, I_148_167, J_148_17, F_148_19, J_148_42, W_148_173, I_148_267, J_148_68, J_148_73, J_148_82, J_148_87, J_148_97, V_aloadn0, V_iloadn1, T_10, G_10_6, A_300, T_a300, B_300, U_iaload, V_istoren2, V_istoren3, V_istore4, V_istore5, V_iload5, U_iastore, G_10_34, P_10_34, V_istore6, V_iload6, V_iload4, V_iloadn3, V_iinc5, m_add_eq, V_iloadn2, b_148_0, b_148_13, b_148_14, b_148_22, b_148_76, b_148_77, b_148_90, b_148_92, i145])
      exact kk _ _ (by omega)
    · have hE : bsA S t C (j + 1) = bsA S t C j := by rw [bsA, if_neg h]
      rw [hE] at kk
      unfold b_148_37
      repeat' first
        | (refine V_icmp_gt.mpr ?_; first | rw [if_pos (by omega)] | rw [if_neg (by omega)] | split)
        | (refine V_icmp_le.mpr ?_; first | rw [if_pos (by omega)] | rw [if_neg (by omega)] | split)
        | (refine V_if_eq.mpr ?_; first | rw [if_pos (by omega)] | rw [if_neg (by omega)] | split)
        | (simp (disch := (first | omega | (simp (disch := omega) only [up_f, up_s, up_i, up_k, up_e]; omega))) only [up_f, up_s, up_i, up_k, up_e, V_iconst, V_bipush, V_sipush, V_conti, V_contn, V_goto, Option.some.injEq, exists_eq_left', true_and, and_true, m_fit, Option.isSome_some, List.map_nil, List.map_cons, List.sum_nil, List.sum_cons, List.all_nil, List.all_cons, m_cat, decide_true, Bool.and_true, Bool.true_and, Nat.zero_le, Int.toNat_natCast, Int.reduceAdd, Int.reduceSub, Int.reduceMul, Int.reduceNeg, Int.reduceLE, Int.reduceLT, Nat.reduceAdd, Nat.reduceLeDiff, Int.reduceToNat, Int.reduceEq, decide_eq_true_eq, true_or, or_true, exists_and_left, and_self, Nat.reduceMul, Nat.reduceSub, Nat.reduceLT, m_oa, Nat.reduceEqDiff, or_false, false_or, Sum.inl.injEq, Sum.inr.injEq, ↓reduceIte, ne_eq, not_false_eq_true, Int.reduceNe, exists_eq_left, D_148, R_148, X_148, I_148_157, J_148_6, J_148_10, I_148_167, J_148_17, F_148_19, J_148_42, W_148_173, I_148_267, J_148_68, J_148_73, J_148_82, J_148_87, J_148_97, V_aloadn0, V_iloadn1, T_10, G_10_6, A_300, T_a300, B_300, U_iaload, V_istoren2, V_istoren3, V_istore4, V_istore5, V_iload5, U_iastore, G_10_34, P_10_34, V_istore6, V_iload6, V_iload4, V_iloadn3, V_iinc5, m_add_eq, V_iloadn2, b_148_0, b_148_13, b_148_14, b_148_22, b_148_76, b_148_77, b_148_90, b_148_92, i145])
      exact kk _ _ (by omega)
theorem m_148 {S : Sg} {A T C t : Nat} (ps : PS S A T C) (nc : NC S T C) (ht : t < T) : ∃ S2, (FM2 S S2 ∧ NC S2 T C ∧ S2 2000 0 0 = 0) ∧ ∀ Q, m_do xs L 148 [vR 296, vI t] (mk S e) Q ↔ Q (.inl (some (vI (bsA S t C 19).1))) (mk S2 e) := by
  have hT : T ≤ 6 := ps.1.2.2.2.2.2.1
  have hC : C ≤ 10 := ps.1.2.2.2.2.2.2.2.2
  have ht6 : t < 6 := by omega
  have h101 := isTrain (xs := xs) (L := L) (e := e) ps (t : Int)
  simp only [if_pos (show 0 ≤ (t : Int) ∧ (t : Int) < T by omega)] at h101
  have h99 := refu0 (xs := xs) (L := L) (e := e) (S := S)
  refine m_do_ex ?_
  repeat' first
    | (refine V_icmp_gt.mpr ?_; first | rw [if_pos (by omega)] | rw [if_neg (by omega)] | split)
    | (refine V_icmp_le.mpr ?_; first | rw [if_pos (by omega)] | rw [if_neg (by omega)] | split)
    | (refine V_if_eq.mpr ?_; first | rw [if_pos (by omega)] | rw [if_neg (by omega)] | split)
    | (simp (disch := (first | omega | (simp (disch := omega) only [up_f, up_s, up_i, up_k, up_e]; omega))) only [up_f, up_s, up_i, up_k, up_e, V_iconst, V_bipush, V_sipush, V_conti, V_contn, V_goto, Option.some.injEq, exists_eq_left', true_and, and_true, m_fit, Option.isSome_some, List.map_nil, List.map_cons, List.sum_nil, List.sum_cons, List.all_nil, List.all_cons, m_cat, decide_true, Bool.and_true, Bool.true_and, Nat.zero_le, Int.toNat_natCast, Int.reduceAdd, Int.reduceSub, Int.reduceMul, Int.reduceNeg, Int.reduceLE, Int.reduceLT, Nat.reduceAdd, Nat.reduceLeDiff, Int.reduceToNat, Int.reduceEq, decide_eq_true_eq, true_or, or_true, exists_and_left, and_self, Nat.reduceMul, Nat.reduceSub, Nat.reduceLT, m_oa, Nat.reduceEqDiff, or_false, false_or, Sum.inl.injEq, Sum.inr.injEq, ↓reduceIte, ne_eq, not_false_eq_true, Int.reduceNe, exists_eq_left, D_148, R_148, X_148, I_148_157, J_148_6, J_148_10, I_148_167, J_148_17, F_148_19, J_148_42, W_148_173, I_148_267, J_148_68, J_148_73, J_148_82, J_148_87, J_148_97, V_aloadn0, V_iloadn1, T_10, G_10_6, A_300, T_a300, B_300, U_iaload, V_istoren2, V_istoren3, V_istore4, V_istore5, V_iload5, U_iastore, G_10_34, P_10_34, V_istore6, V_iload6, V_iload4, V_iloadn3, V_iinc5, m_add_eq, V_iloadn2, b_148_0, b_148_13, b_148_14, b_148_22, b_148_76, b_148_77, b_148_90, b_148_92, h101, h99])
  refine k_148 ps ht (fun S2 m1 jj v fr h20 => ?_) 19 0 0 _ _ (by omega) rfl (fun f i j h1 h2 h3 h4 => up_f h3) up_s
  unfold b_148_100
  repeat' first
    | (refine V_icmp_gt.mpr ?_; first | rw [if_pos (by omega)] | rw [if_neg (by omega)] | split)
    | (refine V_icmp_le.mpr ?_; first | rw [if_pos (by omega)] | rw [if_neg (by omega)] | split)
    | (refine V_if_eq.mpr ?_; first | rw [if_pos (by omega)] | rw [if_neg (by omega)] | split)
    | (simp (disch := (first | omega | (simp (disch := omega) only [up_f, up_s, up_i, up_k, up_e]; omega))) only [up_f, up_s, up_i, up_k, up_e, V_iconst, V_bipush, V_sipush, V_conti, V_contn, V_goto, Option.some.injEq, exists_eq_left', true_and, and_true, m_fit, Option.isSome_some, List.map_nil, List.map_cons, List.sum_nil, List.sum_cons, List.all_nil, List.all_cons, m_cat, decide_true, Bool.and_true, Bool.true_and, Nat.zero_le, Int.toNat_natCast, Int.reduceAdd, Int.reduceSub, Int.reduceMul, Int.reduceNeg, Int.reduceLE, Int.reduceLT, Nat.reduceAdd, Nat.reduceLeDiff, Int.reduceToNat, Int.reduceEq, decide_eq_true_eq, true_or, or_true, exists_and_left, and_self, Nat.reduceMul, Nat.reduceSub, Nat.reduceLT, m_oa, Nat.reduceEqDiff, or_false, false_or, Sum.inl.injEq, Sum.inr.injEq, ↓reduceIte, ne_eq, not_false_eq_true, Int.reduceNe, exists_eq_left, D_148, R_148, X_148, I_148_157, J_148_6, J_148_10, I_148_167, J_148_17, F_148_19, J_148_42, W_148_173, I_148_267, J_148_68, J_148_73, J_148_82, J_148_87, J_148_97, V_aloadn0, V_iloadn1, T_10, G_10_6, A_300, T_a300, B_300, U_iaload, V_istoren2, V_istoren3, V_istore4, V_istore5, V_iload5, U_iastore, G_10_34, P_10_34, V_istore6, V_iload6, V_iload4, V_iloadn3, V_iinc5, m_add_eq, V_iloadn2, b_148_0, b_148_13, b_148_14, b_148_22, b_148_76, b_148_77, b_148_90, b_148_92, b_148_100])
  have fr5 : ∀ f i j, niF f = false → ¬ f = 2000 → up (up S2 53 0 t (S 53 0 t)) 2034 0 0 0 f i j = S f i j := fun f i j hf hg => by
    have hn := niF_no hf
    rw [up_f (by omega)]
    simp only [up]
    split
    · rename_i z
      rw [z.1, z.2.1, z.2.2]
    · rename_i z
      exact fr f i j (by omega) (by omega) hg z
  refine ⟨_, rfl, fr5, ?_, by simp (disch := omega) only [up_f]; exact h20⟩
  have fr6 : ∀ f i j, (f < 79 ∨ 93 < f) → ¬ f = 2034 → ¬ f = 2000 → up (up S2 53 0 t (S 53 0 t)) 2034 0 0 0 f i j = S f i j := fun f i j h1 h2 h3 => by
    rw [up_f h2]
    simp only [up]
    split
    · rename_i z
      rw [z.1, z.2.1, z.2.2]
    · rename_i z
      exact fr f i j h1 h2 h3 z
  obtain ⟨n1, n2, n3, n4, n5, n6, n7⟩ := nc
  have hD : nrm (up (up S2 53 0 t (S 53 0 t)) 2034 0 0 0) = nrm S := nrm_ext (fun f i j hf => by
    have hy := psF_yes hf
    exact fr6 f i j (by omega) (by omega) (by omega))
  have hcp : ∀ f i j, cpF f = true → up (up S2 53 0 t (S 53 0 t)) 2034 0 0 0 f i j = S f i j := fun f i j hf => by
    have hy := cpF_yes hf
    exact fr6 f i j (by omega) (by omega) (by omega)
  have hfp : ∀ n f i j, fpC n f i → up (up S2 53 0 t (S 53 0 t)) 2034 0 0 0 f i j = S f i j := fun n f i j hf => fr6 f i j (by unfold fpC at hf; omega) (by unfold fpC at hf; omega) (by unfold fpC at hf; omega)
  unfold NC
  rw [hD, fr6 1205 0 0 (by omega) (by omega) (by omega), fr6 1205 1 0 (by omega) (by omega) (by omega), fr6 1406 0 0 (by omega) (by omega) (by omega), up_s]
  exact ⟨n1, n2, n3, fun z => CR_ext (n4 z) hcp (hfp 0) (by omega) hT hC, fun z => CR_ext (n5 z) hcp (hfp 1) (by omega) hT hC, Or.inl rfl, fun z => by omega⟩
end V
