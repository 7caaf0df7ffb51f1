/-! ===== a row filled ===== -/
def fillS (S : Sg) (F I n : Nat) (v : Int) : Sg := fun f i k => if f = F ∧ i = I ∧ k < n then v else S f i k
theorem fillS_0 {S : Sg} {F I : Nat} {v : Int} : fillS S F I 0 v = S := by
  funext f i k
  simp [fillS]
theorem fillS_s {S : Sg} {F I k : Nat} {v : Int} : up (fillS S F I k v) F I k v = fillS S F I (k + 1) v := by
  funext f i j
  simp only [up, fillS]
  by_cases h : f = F ∧ i = I
  · obtain ⟨rfl, rfl⟩ := h
    simp only [true_and]
    by_cases h1 : j = k
    · rw [if_pos h1, if_pos (by omega)]
    · rw [if_neg h1]
      by_cases h2 : j < k
      · rw [if_pos h2, if_pos (by omega)]
      · rw [if_neg h2, if_neg (by omega)]
  · rw [if_neg (fun z => h ⟨z.1, z.2.1⟩), if_neg (fun z => h ⟨z.1, z.2.1⟩), if_neg (fun z => h ⟨z.1, z.2.1⟩)]
section V
variable {xs : Nat → Int32} {L : Nat} {S : Sg} {e : Nat}
theorem l_153 {o F I n k : Nat} {v kk : Int} {Q : MOut → MHp → Prop} (hn : n ≤ 1000) (hL : ∀ S : Sg, m_len (mk S e) o = some n) (hA : ∀ (S : Sg) (x : Int), 0 ≤ x → x < n → m_age (mk S e) o 20 x = some (vI (S F I x.toNat))) (hB : ∀ (S : Sg) (x : Nat) (a : Int), x < n → m_set (mk S e) o x (vI a) = mk (up S F I x a) e) (hk : k < n) (hkk : kk = k)
    (K : m_ok xs L 153 b_153_5 [vR o, vI v, vI (kk + 1), vI n] [] (mk (fillS S F I (k + 1) v) e) Q) : m_ok xs L 153 b_153_5 [vR o, vI v, vI kk, vI n] [] (mk (fillS S F I k v) e) Q := by
  subst hkk
  unfold b_153_5
  repeat' first
    | (refine V_icmp_ge.mpr ?_; first | rw [if_pos (by omega)] | rw [if_neg (by omega)] | split)
    | (simp (disch := (first | omega | (simp (disch := omega) only [up_f, up_s, up_i, up_k, up_e]; omega))) only [up_f, up_s, up_i, up_k, up_e, V_iconst, V_bipush, V_sipush, V_conti, V_contn, V_goto, Option.some.injEq, exists_eq_left', true_and, and_true, m_fit, Option.isSome_some, List.map_nil, List.map_cons, List.sum_nil, List.sum_cons, List.all_nil, List.all_cons, m_cat, decide_true, Bool.and_true, Bool.true_and, Nat.zero_le, Int.toNat_natCast, Int.reduceAdd, Int.reduceSub, Int.reduceMul, Int.reduceNeg, Int.reduceLE, Int.reduceLT, Nat.reduceAdd, Nat.reduceLeDiff, Int.reduceToNat, Int.reduceEq, decide_eq_true_eq, true_or, or_true, exists_and_left, and_self, Nat.reduceMul, Nat.reduceSub, Nat.reduceLT, m_oa, Nat.reduceEqDiff, or_false, false_or, Sum.inl.injEq, Sum.inr.injEq, ↓reduceIte, exists_eq_left, D_153, R_153, X_153, J_153_7, J_153_17, V_istoren2, V_aloadn0, U_alen, V_istoren3, V_iloadn2, V_iloadn3, V_iloadn1, U_iastore, V_iinc2, m_add_eq, b_153_0, b_153_20, hL, hA, hB, fillS_s])
  all_goals first | exact K | omega
theorem k_153 {o F I n : Nat} {v : Int} {Q : MOut → MHp → Prop} (hn : n ≤ 1000) (hL : ∀ S : Sg, m_len (mk S e) o = some n) (hA : ∀ (S : Sg) (x : Int), 0 ≤ x → x < n → m_age (mk S e) o 20 x = some (vI (S F I x.toNat))) (hB : ∀ (S : Sg) (x : Nat) (a : Int), x < n → m_set (mk S e) o x (vI a) = mk (up S F I x a) e) (K : Q (.inl none) (mk (fillS S F I n v) e)) : ∀ z k : Nat, ∀ kk : Int, k + z = n → kk = k → m_ok xs L 153 b_153_5 [vR o, vI v, vI kk, vI n] [] (mk (fillS S F I k v) e) Q
  | 0, k, kk, hz, hkk => by
    have hk : k = n := by omega
    subst hk
    subst hkk
    unfold b_153_5
    repeat' first
      | (refine V_icmp_ge.mpr ?_; first | rw [if_pos (by omega)] | rw [if_neg (by omega)] | split)
      | (simp (disch := (first | omega | (simp (disch := omega) only [up_f, up_s, up_i, up_k, up_e]; omega))) only [up_f, up_s, up_i, up_k, up_e, V_iconst, V_bipush, V_sipush, V_conti, V_contn, V_goto, Option.some.injEq, exists_eq_left', true_and, and_true, m_fit, Option.isSome_some, List.map_nil, List.map_cons, List.sum_nil, List.sum_cons, List.all_nil, List.all_cons, m_cat, decide_true, Bool.and_true, Bool.true_and, Nat.zero_le, Int.toNat_natCast, Int.reduceAdd, Int.reduceSub, Int.reduceMul, Int.reduceNeg, Int.reduceLE, Int.reduceLT, Nat.reduceAdd, Nat.reduceLeDiff, Int.reduceToNat, Int.reduceEq, decide_eq_true_eq, true_or, or_true, exists_and_left, and_self, Nat.reduceMul, Nat.reduceSub, Nat.reduceLT, m_oa, Nat.reduceEqDiff, or_false, false_or, Sum.inl.injEq, Sum.inr.injEq, ↓reduceIte, exists_eq_left, D_153, R_153, X_153, J_153_7, J_153_17, V_istoren2, V_aloadn0, U_alen, V_istoren3, V_iloadn2, V_iloadn3, V_iloadn1, U_iastore, V_iinc2, m_add_eq, b_153_0, b_153_20, hL, hA, hB, fillS_s])
    all_goals (first | exact K | omega)
  | z + 1, k, kk, hz, hkk => l_153 hn hL hA hB (by omega) hkk (k_153 hn hL hA hB K z (k + 1) (kk + 1) (by omega) (by omega))
theorem s_153 {o F I n : Nat} {v : Int} (hn : n ≤ 1000) (hL : ∀ S : Sg, m_len (mk S e) o = some n) (hA : ∀ (S : Sg) (x : Int), 0 ≤ x → x < n → m_age (mk S e) o 20 x = some (vI (S F I x.toNat))) (hB : ∀ (S : Sg) (x : Nat) (a : Int), x < n → m_set (mk S e) o x (vI a) = mk (up S F I x a) e) (Q : MOut → MHp → Prop) : m_do xs L 153 [vR o, vI v] (mk S e) Q ↔ Q (.inl none) (mk (fillS S F I n v) e) := by
  have hn2 : n < 2147483648 := by omega
  refine m_do_eq ?_ Q
  repeat' first
    | (refine V_icmp_ge.mpr ?_; first | rw [if_pos (by omega)] | rw [if_neg (by omega)] | split)
    | (simp (disch := (first | omega | (simp (disch := omega) only [up_f, up_s, up_i, up_k, up_e]; omega))) only [up_f, up_s, up_i, up_k, up_e, V_iconst, V_bipush, V_sipush, V_conti, V_contn, V_goto, Option.some.injEq, exists_eq_left', true_and, and_true, m_fit, Option.isSome_some, List.map_nil, List.map_cons, List.sum_nil, List.sum_cons, List.all_nil, List.all_cons, m_cat, decide_true, Bool.and_true, Bool.true_and, Nat.zero_le, Int.toNat_natCast, Int.reduceAdd, Int.reduceSub, Int.reduceMul, Int.reduceNeg, Int.reduceLE, Int.reduceLT, Nat.reduceAdd, Nat.reduceLeDiff, Int.reduceToNat, Int.reduceEq, decide_eq_true_eq, true_or, or_true, exists_and_left, and_self, Nat.reduceMul, Nat.reduceSub, Nat.reduceLT, m_oa, Nat.reduceEqDiff, or_false, false_or, Sum.inl.injEq, Sum.inr.injEq, ↓reduceIte, exists_eq_left, D_153, R_153, X_153, J_153_7, J_153_17, V_istoren2, V_aloadn0, U_alen, V_istoren3, V_iloadn2, V_iloadn3, V_iloadn1, U_iastore, V_iinc2, m_add_eq, b_153_0, b_153_20, hL, hA, hB, fillS_s, hn2])
  have k := k_153 (xs := xs) (L := L) (S := S) hn hL hA hB (Q := fun a b => a = .inl none ∧ b = mk (fillS S F I n v) e) (v := v) ⟨rfl, rfl⟩ n 0 0 (by omega) rfl
  rw [fillS_0] at k
  exact k
theorem fillS_sF {S : Sg} {F I k : Nat} : up (fillS S F I k 0) F I k ((0 : UInt32).toNat : Int) = fillS S F I (k + 1) 0 := fillS_s
theorem l_154 {o F I n k : Nat} {kk : Int} {Q : MOut → MHp → Prop} (hn : n ≤ 1000) (hL : ∀ S : Sg, m_len (mk S e) o = some n) (hA : ∀ (S : Sg) (x : Int), 0 ≤ x → x < n → m_age (mk S e) o 22 x = some (vF (UInt32.ofNat (S F I x.toNat).toNat))) (hB : ∀ (S : Sg) (x : Nat) (b : UInt32), x < n → m_set (mk S e) o x (vF b) = mk (up S F I x (b.toNat : Int)) e) (hk : k < n) (hkk : kk = k)
    (K : m_ok xs L 154 b_154_5 [vR o, vF 0, vI (kk + 1), vI n] [] (mk (fillS S F I (k + 1) 0) e) Q) : m_ok xs L 154 b_154_5 [vR o, vF 0, vI kk, vI n] [] (mk (fillS S F I k 0) e) Q := by
  subst hkk
  unfold b_154_5
  repeat' first
    | (refine V_icmp_ge.mpr ?_; first | rw [if_pos (by omega)] | rw [if_neg (by omega)] | split)
    | (simp (disch := (first | omega | (simp (disch := omega) only [up_f, up_s, up_i, up_k, up_e]; omega))) only [up_f, up_s, up_i, up_k, up_e, V_iconst, V_bipush, V_sipush, V_conti, V_contn, V_goto, Option.some.injEq, exists_eq_left', true_and, and_true, m_fit, Option.isSome_some, List.map_nil, List.map_cons, List.sum_nil, List.sum_cons, List.all_nil, List.all_cons, m_cat, decide_true, Bool.and_true, Bool.true_and, Nat.zero_le, Int.toNat_natCast, Int.reduceAdd, Int.reduceSub, Int.reduceMul, Int.reduceNeg, Int.reduceLE, Int.reduceLT, Nat.reduceAdd, Nat.reduceLeDiff, Int.reduceToNat, Int.reduceEq, decide_eq_true_eq, true_or, or_true, exists_and_left, and_self, Nat.reduceMul, Nat.reduceSub, Nat.reduceLT, m_oa, Nat.reduceEqDiff, or_false, false_or, Sum.inl.injEq, Sum.inr.injEq, ↓reduceIte, exists_eq_left, D_154, R_154, X_154, J_154_7, J_154_17, V_istoren2, V_aloadn0, U_alen, V_istoren3, V_iloadn2, V_iloadn3, V_floadn1, U_fastore, V_iinc2, m_add_eq, b_154_0, b_154_20, hL, hA, hB, fillS_sF])
  all_goals first | exact K | omega
theorem k_154 {o F I n : Nat} {Q : MOut → MHp → Prop} (hn : n ≤ 1000) (hL : ∀ S : Sg, m_len (mk S e) o = some n) (hA : ∀ (S : Sg) (x : Int), 0 ≤ x → x < n → m_age (mk S e) o 22 x = some (vF (UInt32.ofNat (S F I x.toNat).toNat))) (hB : ∀ (S : Sg) (x : Nat) (b : UInt32), x < n → m_set (mk S e) o x (vF b) = mk (up S F I x (b.toNat : Int)) e) (K : Q (.inl none) (mk (fillS S F I n 0) e)) : ∀ z k : Nat, ∀ kk : Int, k + z = n → kk = k → m_ok xs L 154 b_154_5 [vR o, vF 0, vI kk, vI n] [] (mk (fillS S F I k 0) e) Q
  | 0, k, kk, hz, hkk => by
    have hk : k = n := by omega
    subst hk
    subst hkk
    unfold b_154_5
    repeat' first
      | (refine V_icmp_ge.mpr ?_; first | rw [if_pos (by omega)] | rw [if_neg (by omega)] | split)
      | (simp (disch := (first | omega | (simp (disch := omega) only [up_f, up_s, up_i, up_k, up_e]; omega))) only [up_f, up_s, up_i, up_k, up_e, V_iconst, V_bipush, V_sipush, V_conti, V_contn, V_goto, Option.some.injEq, exists_eq_left', true_and, and_true, m_fit, Option.isSome_some, List.map_nil, List.map_cons, List.sum_nil, List.sum_cons, List.all_nil, List.all_cons, m_cat, decide_true, Bool.and_true, Bool.true_and, Nat.zero_le, Int.toNat_natCast, Int.reduceAdd, Int.reduceSub, Int.reduceMul, Int.reduceNeg, Int.reduceLE, Int.reduceLT, Nat.reduceAdd, Nat.reduceLeDiff, Int.reduceToNat, Int.reduceEq, decide_eq_true_eq, true_or, or_true, exists_and_left, and_self, Nat.reduceMul, Nat.reduceSub, Nat.reduceLT, m_oa, Nat.reduceEqDiff, or_false, false_or, Sum.inl.injEq, Sum.inr.injEq, ↓reduceIte, exists_eq_left, D_154, R_154, X_154, J_154_7, J_154_17, V_istoren2, V_aloadn0, U_alen, V_istoren3, V_iloadn2, V_iloadn3, V_floadn1, U_fastore, V_iinc2, m_add_eq, b_154_0, b_154_20, hL, hA, hB, fillS_sF])
    all_goals (first | exact K | omega)
  | z + 1, k, kk, hz, hkk => l_154 hn hL hA hB (by omega) hkk (k_154 hn hL hA hB K z (k + 1) (kk + 1) (by omega) (by omega))
theorem s_154 {o F I n : Nat} (hn : n ≤ 1000) (hL : ∀ S : Sg, m_len (mk S e) o = some n) (hA : ∀ (S : Sg) (x : Int), 0 ≤ x → x < n → m_age (mk S e) o 22 x = some (vF (UInt32.ofNat (S F I x.toNat).toNat))) (hB : ∀ (S : Sg) (x : Nat) (b : UInt32), x < n → m_set (mk S e) o x (vF b) = mk (up S F I x (b.toNat : Int)) e) (Q : MOut → MHp → Prop) : m_do xs L 154 [vR o, vF 0] (mk S e) Q ↔ Q (.inl none) (mk (fillS S F I n 0) e) := by
  have hn2 : n < 2147483648 := by omega
  refine m_do_eq ?_ Q
  repeat' first
    | (refine V_icmp_ge.mpr ?_; first | rw [if_pos (by omega)] | rw [if_neg (by omega)] | split)
    | (simp (disch := (first | omega | (simp (disch := omega) only [up_f, up_s, up_i, up_k, up_e]; omega))) only [up_f, up_s, up_i, up_k, up_e, V_iconst, V_bipush, V_sipush, V_conti, V_contn, V_goto, Option.some.injEq, exists_eq_left', true_and, and_true, m_fit, Option.isSome_some, List.map_nil, List.map_cons, List.sum_nil, List.sum_cons, List.all_nil, List.all_cons, m_cat, decide_true, Bool.and_true, Bool.true_and, Nat.zero_le, Int.toNat_natCast, Int.reduceAdd, Int.reduceSub, Int.reduceMul, Int.reduceNeg, Int.reduceLE, Int.reduceLT, Nat.reduceAdd, Nat.reduceLeDiff, Int.reduceToNat, Int.reduceEq, decide_eq_true_eq, true_or, or_true, exists_and_left, and_self, Nat.reduceMul, Nat.reduceSub, Nat.reduceLT, m_oa, Nat.reduceEqDiff, or_false, false_or, Sum.inl.injEq, Sum.inr.injEq, ↓reduceIte, exists_eq_left, D_154, R_154, X_154, J_154_7, J_154_17, V_istoren2, V_aloadn0, U_alen, V_istoren3, V_iloadn2, V_iloadn3, V_floadn1, U_fastore, V_iinc2, m_add_eq, b_154_0, b_154_20, hL, hA, hB, fillS_sF, hn2])
  have k := k_154 (xs := xs) (L := L) (S := S) hn hL hA hB (Q := fun a b => a = .inl none ∧ b = mk (fillS S F I n 0) e) ⟨rfl, rfl⟩ n 0 0 (by omega) rfl
  rw [fillS_0] at k
  exact k
theorem f_arr {n i : Nat} (hn : n < 3) (hi : i < 6) {v : Int} (Q : MOut → MHp → Prop) : m_do xs L 153 [vR (ruA1 n i), vI v] (mk S e) Q ↔ Q (.inl none) (mk (fillS S 32 (6 * n + i) 6 v) e) := s_153 (by omega) (fun _ => L_aruA1 hn hi) (fun _ _ h0 h1 => A_ruA1 hn hi h0 h1) (fun _ _ _ h => B_ruA1 hn hi h) Q
theorem f_left {n i : Nat} (hn : n < 3) (hi : i < 6) {v : Int} (Q : MOut → MHp → Prop) : m_do xs L 153 [vR (ruA2 n i), vI v] (mk S e) Q ↔ Q (.inl none) (mk (fillS S 33 (6 * n + i) 6 v) e) := s_153 (by omega) (fun _ => L_aruA2 hn hi) (fun _ _ h0 h1 => A_ruA2 hn hi h0 h1) (fun _ _ _ h => B_ruA2 hn hi h) Q
theorem f_beh {n i : Nat} (hn : n < 3) (hi : i < 6) {v : Int} (Q : MOut → MHp → Prop) : m_do xs L 153 [vR (ruA3 n i), vI v] (mk S e) Q ↔ Q (.inl none) (mk (fillS S 34 (6 * n + i) 60 v) e) := s_153 (by omega) (fun _ => L_aruA3 hn hi) (fun _ _ h0 h1 => A_ruA3 hn hi h0 h1) (fun _ _ _ h => B_ruA3 hn hi h) Q
theorem f_sh {n i : Nat} (hn : n < 3) (hi : i < 6) (Q : MOut → MHp → Prop) : m_do xs L 154 [vR (ruA4 n i), vF 0] (mk S e) Q ↔ Q (.inl none) (mk (fillS S 35 (6 * n + i) 6 0) e) := s_154 (by omega) (fun _ => L_aruA4 hn hi) (fun _ _ h0 h1 => A_ruA4 hn hi h0 h1) (fun _ _ _ h => B_ruA4 hn hi h) Q
theorem f_owed {n i : Nat} (hn : n < 3) {v : Int} (Q : MOut → MHp → Prop) : m_do xs L 153 [vR (ntO n), vI v] (mk S e) Q ↔ Q (.inl none) (mk (fillS S 30 n 36 v) e) := s_153 (by omega) (fun _ => L_antO hn) (fun _ _ h0 h1 => A_ntO hn h0 h1) (fun _ _ _ h => B_ntO hn h) Q
/-- a run as the night begins -/
def runB (S : Sg) (n i : Nat) : Sg := (fillS (fillS (fillS (up (fillS (up (up (up (up (up S 1502 (6 * n + i) 0 (S 1702 i 0)) 1503 (6 * n + i) 0 (0)) 1504 (6 * n + i) 0 (1000000)) 1505 (6 * n + i) 0 (if S 1700 i 0 ≤ 1 then 1000000 else S 11 i 0)) 1507 (6 * n + i) 0 (0)) 32 (6 * n + i) 6 (-1)) 32 (6 * n + i) 0 0) 33 (6 * n + i) 6 (-1)) 34 (6 * n + i) 60 (-1)) 35 (6 * n + i) 6 0)
theorem s_43 {n i : Nat} (hn : n < 3) (hi : i < 6) (Q : MOut → MHp → Prop) : m_do xs L 43 [vR (ru n i)] (mk S e) Q ↔ Q (.inl none) (mk (runB S n i) e) := by
  refine m_do_eq ?_ Q
  repeat' first
    | (refine V_if_eq.mpr ?_; first | rw [if_pos (by omega)] | rw [if_neg (by omega)] | split)
    | (simp (disch := (first | omega | (simp (disch := omega) only [up_f, up_s, up_i, up_k, up_e]; omega))) only [up_f, up_s, up_i, up_k, up_e, V_iconst, V_bipush, V_sipush, V_conti, V_contn, V_goto, Option.some.injEq, exists_eq_left', true_and, and_true, m_fit, Option.isSome_some, List.map_nil, List.map_cons, List.sum_nil, List.sum_cons, List.all_nil, List.all_cons, m_cat, decide_true, Bool.and_true, Bool.true_and, Nat.zero_le, Int.toNat_natCast, Int.reduceAdd, Int.reduceSub, Int.reduceMul, Int.reduceNeg, Int.reduceLE, Int.reduceLT, Nat.reduceAdd, Nat.reduceLeDiff, Int.reduceToNat, Int.reduceEq, decide_eq_true_eq, true_or, or_true, exists_and_left, and_self, Nat.reduceMul, Nat.reduceSub, Nat.reduceLT, m_oa, Nat.reduceEqDiff, or_false, false_or, Sum.inl.injEq, Sum.inr.injEq, ↓reduceIte, exists_eq_left, D_43, R_43, X_43, F_43_32, F_43_36, W_43_41, W_43_42, C_43_45, W_43_46, I_43_49, J_43_27, J_43_32, F_43_53, W_43_56, W_43_59, F_43_15, I_43_62, F_43_18, F_43_21, F_43_24, I_43_68, V_aloadn0, G_5_1, G_7_2, G_5_2, P_5_2, G_5_3, P_5_3, G_5_4, P_5_4, T_5, G_7_4, A_trA1, T_atrA1, B_trA1, U_iaload, G_5_5, P_5_5, G_5_7, P_5_7, G_5_10, A_ruA1, T_aruA1, B_ruA1, U_iastore, G_5_11, A_ruA2, T_aruA2, B_ruA2, G_5_12, A_ruA3, T_aruA3, B_ruA3, G_5_13, A_ruA4, T_aruA4, B_ruA4, V_fconst, b_43_0, b_43_35, b_43_44, s_44, bz, f_arr hn hi, f_left hn hi, f_beh hn hi, f_sh hn hi, Int.zero_add])
  all_goals first | (rw [runB, if_pos (by omega)]; done) | (rw [runB, if_neg (by omega)]; done) | (rw [runB, if_pos (by omega)]; exact ⟨rfl, rfl⟩) | (rw [runB, if_neg (by omega)]; exact ⟨rfl, rfl⟩)
end V
