/-! ===== what the class is asked of the night ===== -/
noncomputable def rN (S : Sg) : Sg := (recA (nrm S)).1
noncomputable def qArr (S : Sg) (t k : Nat) : Int := if (k : Int) ≤ rN S 81 0 t then rN S 79 0 (6 * t + k) else -1
noncomputable def qSh (S : Sg) (t k : Nat) : Int := shB (rN S 80 0 (6 * t + k)) (rN S 85 0 (6 * t + k)) (rN S 86 0 (6 * t + k))
noncomputable def qHm (S : Sg) (C : Nat) : Int := hmA (nrm S) (rN S) C
/-- the best patience of the first j tried, and how many come home with it -/
noncomputable def bsA (S : Sg) (t C : Nat) : Nat → Int × Int
  | 0 => (0, -1)
  | j + 1 => if (bsA S t C j).2 < hmA (up (nrm S) 53 0 t (10 * j : Nat)) (recA (up (nrm S) 53 0 t (10 * j : Nat))).1 C then (((10 * j : Nat) : Int), hmA (up (nrm S) 53 0 t (10 * j : Nat)) (recA (up (nrm S) 53 0 t (10 * j : Nat))).1 C) else bsA S t C j
theorem bsA_ext {S S2 : Sg} {t C : Nat} (h : nrm S2 = nrm S) : ∀ j, bsA S2 t C j = bsA S t C j
  | 0 => rfl
  | j + 1 => by
    unfold bsA
    rw [h, bsA_ext h j]
theorem hmA_ran {D N : Sg} : ∀ k, 0 ≤ hmA D N k ∧ hmA D N k ≤ k
  | 0 => by simp [hmA]
  | k + 1 => by
    have := hmA_ran (D := D) (N := N) k
    unfold hmA
    split <;> omega
section V
variable {xs : Nat → Int32} {L : Nat} {e : Nat}
theorem W_80_0 {r : MCode} {ls st : List MV} {h : MHp} {Q : MOut → MHp → Prop} : m_ok xs L 80 ((29, .tableswitch 68 0 4 #[35, 40, 45, 50, 63]) :: r) ls (vI 0 :: st) h Q ↔ m_ok xs L 80 b_80_64 ls st h Q := by
  rw [V_sw, if_neg (by decide)]
  have hj : m_jmp 80 29 (35) = b_80_64 := rfl
  exact ⟨fun ⟨off, ho, hk⟩ => by
    have h2 : some (35 : Int) = some off := ho
    cases h2
    rw [hj] at hk
    exact hk, fun hk => ⟨35, rfl, by rw [hj]; exact hk⟩⟩
theorem W_80_1 {r : MCode} {ls st : List MV} {h : MHp} {Q : MOut → MHp → Prop} : m_ok xs L 80 ((29, .tableswitch 68 0 4 #[35, 40, 45, 50, 63]) :: r) ls (vI 1 :: st) h Q ↔ m_ok xs L 80 b_80_69 ls st h Q := by
  rw [V_sw, if_neg (by decide)]
  have hj : m_jmp 80 29 (40) = b_80_69 := rfl
  exact ⟨fun ⟨off, ho, hk⟩ => by
    have h2 : some (40 : Int) = some off := ho
    cases h2
    rw [hj] at hk
    exact hk, fun hk => ⟨40, rfl, by rw [hj]; exact hk⟩⟩
theorem W_80_2 {r : MCode} {ls st : List MV} {h : MHp} {Q : MOut → MHp → Prop} : m_ok xs L 80 ((29, .tableswitch 68 0 4 #[35, 40, 45, 50, 63]) :: r) ls (vI 2 :: st) h Q ↔ m_ok xs L 80 b_80_74 ls st h Q := by
  rw [V_sw, if_neg (by decide)]
  have hj : m_jmp 80 29 (45) = b_80_74 := rfl
  exact ⟨fun ⟨off, ho, hk⟩ => by
    have h2 : some (45 : Int) = some off := ho
    cases h2
    rw [hj] at hk
    exact hk, fun hk => ⟨45, rfl, by rw [hj]; exact hk⟩⟩
theorem W_80_3 {r : MCode} {ls st : List MV} {h : MHp} {Q : MOut → MHp → Prop} : m_ok xs L 80 ((29, .tableswitch 68 0 4 #[35, 40, 45, 50, 63]) :: r) ls (vI 3 :: st) h Q ↔ m_ok xs L 80 b_80_79 ls st h Q := by
  rw [V_sw, if_neg (by decide)]
  have hj : m_jmp 80 29 (50) = b_80_79 := rfl
  exact ⟨fun ⟨off, ho, hk⟩ => by
    have h2 : some (50 : Int) = some off := ho
    cases h2
    rw [hj] at hk
    exact hk, fun hk => ⟨50, rfl, by rw [hj]; exact hk⟩⟩
theorem W_80_4 {r : MCode} {ls st : List MV} {h : MHp} {Q : MOut → MHp → Prop} : m_ok xs L 80 ((29, .tableswitch 68 0 4 #[35, 40, 45, 50, 63]) :: r) ls (vI 4 :: st) h Q ↔ m_ok xs L 80 b_80_92 ls st h Q := by
  rw [V_sw, if_neg (by decide)]
  have hj : m_jmp 80 29 (63) = b_80_92 := rfl
  exact ⟨fun ⟨off, ho, hk⟩ => by
    have h2 : some (63 : Int) = some off := ho
    cases h2
    rw [hj] at hk
    exact hk, fun hk => ⟨63, rfl, by rw [hj]; exact hk⟩⟩
theorem W_80_d {r : MCode} {ls st : List MV} {h : MHp} {Q : MOut → MHp → Prop} {v : Int} (hv : v < 0 ∨ 4 < v) : m_ok xs L 80 ((29, .tableswitch 68 0 4 #[35, 40, 45, 50, 63]) :: r) ls (vI v :: st) h Q ↔ m_ok xs L 80 b_80_97 ls st h Q := by
  rw [V_sw, if_pos hv]
  have hj : m_jmp 80 29 (68) = b_80_97 := rfl
  rw [hj]
theorem needStop {S : Sg} {A T C t k : Nat} (ps : PS S A T C) (ht : t < T) (hk : (k : Int) < S 54 0 t) (Q : MOut → MHp → Prop) : m_do xs L 90 [vR 0, vI t, vI k] (mk S e) Q ↔ Q (.inl none) (mk S e) := by
  have h1 := ps.1
  unfold PS1 at h1
  have h3 := (ps.2.2.1 t (by omega)).1
  exact s_90 (by omega) (by omega) (by rw [Int.toNat_natCast, h3]; omega) Q
theorem stopRan {S : Sg} {A T C t k : Nat} (ps : PS S A T C) (ht : t < T) (hk : (k : Int) < S 54 0 t) : t < 6 ∧ k < 6 := by
  have h1 := ps.1
  unfold PS1 at h1
  have h3 := ps.2.2.1 t (by omega)
  omega
theorem c_75 {S : Sg} {A T C t k : Nat} (ps : PS S A T C) (nc : NC S T C) (ht : t < T) (hk : (k : Int) < S 54 0 t) : ∃ S2, (FN S S2 ∧ NC S2 T C) ∧ ∀ Q, m_do xs L 75 [vR 0, vI t, vI k] (mk S e) Q ↔ Q (.inl (some (vI (qArr S t k)))) (mk S2 e) := by
  obtain ⟨ht6, hk6⟩ := stopRan ps ht hk
  have h90 := needStop (xs := xs) (L := L) (e := e) ps ht hk
  obtain ⟨S2, ⟨fn, nc2, cr⟩, i18⟩ := n_18 (xs := xs) (L := L) (e := e) ps nc
  have hv : S2 32 (6 * 0 + t) k = qArr S t k := (cr.2.2.1 t ht).2.2.2.2.1 k hk6
  refine ⟨S2, ⟨fn, nc2⟩, fun Q => m_do_eq ?_ Q⟩
  repeat' first
    | (simp (disch := (first | omega | (simp (disch := omega) only [up_f, up_s, up_i, up_k, up_e]; omega))) only [up_f, up_s, up_i, up_k, up_e, V_iconst, V_bipush, V_sipush, V_conti, V_contn, V_goto, Option.some.injEq, exists_eq_left', true_and, and_true, m_fit, Option.isSome_some, List.map_nil, List.map_cons, List.sum_nil, List.sum_cons, List.all_nil, List.all_cons, m_cat, decide_true, Bool.and_true, Bool.true_and, Nat.zero_le, Int.toNat_natCast, Int.reduceAdd, Int.reduceSub, Int.reduceMul, Int.reduceNeg, Int.reduceLE, Int.reduceLT, Nat.reduceAdd, Nat.reduceLeDiff, Int.reduceToNat, Int.reduceEq, decide_eq_true_eq, true_or, or_true, exists_and_left, and_self, Nat.reduceMul, Nat.reduceSub, Nat.reduceLT, m_oa, Nat.reduceEqDiff, or_false, false_or, Sum.inl.injEq, Sum.inr.injEq, ↓reduceIte, ne_eq, not_false_eq_true, Int.reduceNe, exists_eq_left, D_75, R_75, X_75, I_75_98, F_75_21, I_75_248, F_75_251, F_75_255, V_aloadn0, V_iloadn1, V_iloadn2, T_9, G_9_1, T_2, G_2_1, A_ntR, T_antR, U_aaload, G_5_10, A_ruA1, T_aruA1, B_ruA1, U_iaload, b_75_0, h90, i18, hv])
  all_goals first | exact ⟨rfl, rfl⟩ | rfl
theorem c_76 {S : Sg} {A T C t k : Nat} (ps : PS S A T C) (nc : NC S T C) (ht : t < T) (hk : (k : Int) < S 54 0 t) : ∃ S2, (FN S S2 ∧ NC S2 T C) ∧ ∀ Q, m_do xs L 76 [vR 0, vI t, vI k] (mk S e) Q ↔ Q (.inl (some (vI (rN S 80 0 (6 * t + k))))) (mk S2 e) := by
  obtain ⟨ht6, hk6⟩ := stopRan ps ht hk
  have h90 := needStop (xs := xs) (L := L) (e := e) ps ht hk
  obtain ⟨S2, ⟨fn, nc2, cr⟩, i18⟩ := n_18 (xs := xs) (L := L) (e := e) ps nc
  have hv : S2 33 (6 * 0 + t) k = rN S 80 0 (6 * t + k) := (cr.2.2.1 t ht).2.2.2.2.2.1 k hk6
  refine ⟨S2, ⟨fn, nc2⟩, fun Q => m_do_eq ?_ Q⟩
  repeat' first
    | (simp (disch := (first | omega | (simp (disch := omega) only [up_f, up_s, up_i, up_k, up_e]; omega))) only [up_f, up_s, up_i, up_k, up_e, V_iconst, V_bipush, V_sipush, V_conti, V_contn, V_goto, Option.some.injEq, exists_eq_left', true_and, and_true, m_fit, Option.isSome_some, List.map_nil, List.map_cons, List.sum_nil, List.sum_cons, List.all_nil, List.all_cons, m_cat, decide_true, Bool.and_true, Bool.true_and, Nat.zero_le, Int.toNat_natCast, Int.reduceAdd, Int.reduceSub, Int.reduceMul, Int.reduceNeg, Int.reduceLE, Int.reduceLT, Nat.reduceAdd, Nat.reduceLeDiff, Int.reduceToNat, Int.reduceEq, decide_eq_true_eq, true_or, or_true, exists_and_left, and_self, Nat.reduceMul, Nat.reduceSub, Nat.reduceLT, m_oa, Nat.reduceEqDiff, or_false, false_or, Sum.inl.injEq, Sum.inr.injEq, ↓reduceIte, ne_eq, not_false_eq_true, Int.reduceNe, exists_eq_left, D_76, R_76, X_76, I_76_98, F_76_21, I_76_248, F_76_251, F_76_260, V_aloadn0, V_iloadn1, V_iloadn2, T_9, G_9_1, T_2, G_2_1, A_ntR, T_antR, U_aaload, G_5_11, A_ruA2, T_aruA2, B_ruA2, U_iaload, b_76_0, h90, i18, hv])
  all_goals first | exact ⟨rfl, rfl⟩ | rfl
theorem c_77 {S : Sg} {A T C t k : Nat} (ps : PS S A T C) (nc : NC S T C) (ht : t < T) (hk : (k : Int) < S 54 0 t) : ∃ S2, (FN S S2 ∧ NC S2 T C) ∧ ∀ Q, m_do xs L 77 [vR 0, vI t, vI k] (mk S e) Q ↔ Q (.inl (some (vI (rN S 80 0 (6 * t + k))))) (mk S2 e) := by
  obtain ⟨ht6, hk6⟩ := stopRan ps ht hk
  have h90 := needStop (xs := xs) (L := L) (e := e) ps ht hk
  obtain ⟨S2, ⟨fn, nc2, cr⟩, i18⟩ := n_19 (xs := xs) (L := L) (e := e) ps nc
  have hv : S2 33 (6 * 1 + t) k = rN S 80 0 (6 * t + k) := (cr.2.2.1 t ht).2.2.2.2.2.1 k hk6
  refine ⟨S2, ⟨fn, nc2⟩, fun Q => m_do_eq ?_ Q⟩
  repeat' first
    | (simp (disch := (first | omega | (simp (disch := omega) only [up_f, up_s, up_i, up_k, up_e]; omega))) only [up_f, up_s, up_i, up_k, up_e, V_iconst, V_bipush, V_sipush, V_conti, V_contn, V_goto, Option.some.injEq, exists_eq_left', true_and, and_true, m_fit, Option.isSome_some, List.map_nil, List.map_cons, List.sum_nil, List.sum_cons, List.all_nil, List.all_cons, m_cat, decide_true, Bool.and_true, Bool.true_and, Nat.zero_le, Int.toNat_natCast, Int.reduceAdd, Int.reduceSub, Int.reduceMul, Int.reduceNeg, Int.reduceLE, Int.reduceLT, Nat.reduceAdd, Nat.reduceLeDiff, Int.reduceToNat, Int.reduceEq, decide_eq_true_eq, true_or, or_true, exists_and_left, and_self, Nat.reduceMul, Nat.reduceSub, Nat.reduceLT, m_oa, Nat.reduceEqDiff, or_false, false_or, Sum.inl.injEq, Sum.inr.injEq, ↓reduceIte, ne_eq, not_false_eq_true, Int.reduceNe, exists_eq_left, D_77, R_77, X_77, I_77_98, F_77_25, I_77_263, F_77_251, F_77_260, V_aloadn0, V_iloadn1, V_iloadn2, T_9, G_9_2, T_2, G_2_1, A_ntR, T_antR, U_aaload, G_5_11, A_ruA2, T_aruA2, B_ruA2, U_iaload, b_77_0, h90, i18, hv])
  all_goals first | exact ⟨rfl, rfl⟩ | rfl
theorem c_78 {S : Sg} {A T C t k : Nat} (ps : PS S A T C) (nc : NC S T C) (ht : t < T) (hk : (k : Int) < S 54 0 t) {p : Nat} (hp : p < 10) : ∃ S2, (FN S S2 ∧ NC S2 T C) ∧ ∀ Q, m_do xs L 78 [vR 0, vI t, vI k, vI p] (mk S e) Q ↔ Q (.inl (some (vI (rN S 87 0 (60 * t + (10 * k + p)))))) (mk S2 e) := by
  obtain ⟨ht6, hk6⟩ := stopRan ps ht hk
  have h90 := needStop (xs := xs) (L := L) (e := e) ps ht hk
  obtain ⟨S2, ⟨fn, nc2, cr⟩, i18⟩ := n_18 (xs := xs) (L := L) (e := e) ps nc
  have hv : S2 34 (6 * 0 + t) (10 * k + p) = rN S 87 0 (60 * t + (10 * k + p)) := (cr.2.2.1 t ht).2.2.2.2.2.2.2 (10 * k + p) (by omega)
  have h93 := s_93 (xs := xs) (L := L) (S := S) (e := e) (a := (p : Int)) (b := 0) (c := 9) (by omega)
  have hx : (10 * (k : Int) + (p : Int)).toNat = 10 * k + p := by omega
  refine ⟨S2, ⟨fn, nc2⟩, fun Q => m_do_eq ?_ Q⟩
  repeat' first
    | (simp (disch := (first | omega | (simp (disch := omega) only [up_f, up_s, up_i, up_k, up_e]; omega))) only [up_f, up_s, up_i, up_k, up_e, V_iconst, V_bipush, V_sipush, V_conti, V_contn, V_goto, Option.some.injEq, exists_eq_left', true_and, and_true, m_fit, Option.isSome_some, List.map_nil, List.map_cons, List.sum_nil, List.sum_cons, List.all_nil, List.all_cons, m_cat, decide_true, Bool.and_true, Bool.true_and, Nat.zero_le, Int.toNat_natCast, Int.reduceAdd, Int.reduceSub, Int.reduceMul, Int.reduceNeg, Int.reduceLE, Int.reduceLT, Nat.reduceAdd, Nat.reduceLeDiff, Int.reduceToNat, Int.reduceEq, decide_eq_true_eq, true_or, or_true, exists_and_left, and_self, Nat.reduceMul, Nat.reduceSub, Nat.reduceLT, m_oa, Nat.reduceEqDiff, or_false, false_or, Sum.inl.injEq, Sum.inr.injEq, ↓reduceIte, ne_eq, not_false_eq_true, Int.reduceNe, exists_eq_left, D_78, R_78, X_78, I_78_98, I_78_38, F_78_21, I_78_248, F_78_251, F_78_266, V_aloadn0, V_iloadn1, V_iloadn2, T_9, V_iloadn3, G_9_1, T_2, G_2_1, A_ntR, T_antR, U_aaload, G_5_12, A_ruA3, T_aruA3, B_ruA3, V_imul, m_mul_eq, V_iadd, m_add_eq, U_iaload, b_78_0, h90, i18, hv, h93, hx])
  all_goals first | exact ⟨rfl, rfl⟩ | rfl
theorem c_79 {S : Sg} {A T C t k : Nat} (ps : PS S A T C) (nc : NC S T C) (ht : t < T) (hk : (k : Int) < S 54 0 t) : ∃ S2, (FN S S2 ∧ NC S2 T C) ∧ ∀ Q, m_do xs L 79 [vR 0, vI t, vI k] (mk S e) Q ↔ Q (.inl (some (vF (UInt32.ofNat (qSh S t k).toNat)))) (mk S2 e) := by
  obtain ⟨ht6, hk6⟩ := stopRan ps ht hk
  have h90 := needStop (xs := xs) (L := L) (e := e) ps ht hk
  obtain ⟨S2, ⟨fn, nc2, cr⟩, i18⟩ := n_18 (xs := xs) (L := L) (e := e) ps nc
  have hv : S2 35 (6 * 0 + t) k = qSh S t k := (cr.2.2.1 t ht).2.2.2.2.2.2.1 k hk6
  refine ⟨S2, ⟨fn, nc2⟩, fun Q => m_do_eq ?_ Q⟩
  repeat' first
    | (simp (disch := (first | omega | (simp (disch := omega) only [up_f, up_s, up_i, up_k, up_e]; omega))) only [up_f, up_s, up_i, up_k, up_e, V_iconst, V_bipush, V_sipush, V_conti, V_contn, V_goto, Option.some.injEq, exists_eq_left', true_and, and_true, m_fit, Option.isSome_some, List.map_nil, List.map_cons, List.sum_nil, List.sum_cons, List.all_nil, List.all_cons, m_cat, decide_true, Bool.and_true, Bool.true_and, Nat.zero_le, Int.toNat_natCast, Int.reduceAdd, Int.reduceSub, Int.reduceMul, Int.reduceNeg, Int.reduceLE, Int.reduceLT, Nat.reduceAdd, Nat.reduceLeDiff, Int.reduceToNat, Int.reduceEq, decide_eq_true_eq, true_or, or_true, exists_and_left, and_self, Nat.reduceMul, Nat.reduceSub, Nat.reduceLT, m_oa, Nat.reduceEqDiff, or_false, false_or, Sum.inl.injEq, Sum.inr.injEq, ↓reduceIte, ne_eq, not_false_eq_true, Int.reduceNe, exists_eq_left, D_79, R_79, X_79, I_79_98, F_79_21, I_79_248, F_79_251, F_79_269, V_aloadn0, V_iloadn1, V_iloadn2, T_9, G_9_1, T_2, G_2_1, A_ntR, T_antR, U_aaload, G_5_13, A_ruA4, T_aruA4, B_ruA4, U_faload, b_79_0, h90, i18, hv])
  all_goals first | exact ⟨rfl, rfl⟩ | rfl
theorem c_81 {S : Sg} {A T C a b : Nat} (ps : PS S A T C) (nc : NC S T C) (ha : a < 6) (hb : b < 6) : ∃ S2, (FN S S2 ∧ NC S2 T C) ∧ ∀ Q, m_do xs L 81 [vR 0, vI a, vI b] (mk S e) Q ↔ Q (.inl (some (vI (rN S 93 0 (6 * a + b))))) (mk S2 e) := by
  obtain ⟨S2, ⟨fn, nc2, cr⟩, i18⟩ := n_18 (xs := xs) (L := L) (e := e) ps nc
  have hv : S2 30 0 (6 * a + b) = rN S 93 0 (6 * a + b) := cr.2.2.2.2.1 (6 * a + b) (by omega)
  have h93 := s_93 (xs := xs) (L := L) (S := S) (e := e) (a := (a : Int)) (b := 0) (c := 5) (by omega)
  have h93b := s_93 (xs := xs) (L := L) (S := S) (e := e) (a := (b : Int)) (b := 0) (c := 5) (by omega)
  have hx : (6 * (a : Int) + (b : Int)).toNat = 6 * a + b := by omega
  refine ⟨S2, ⟨fn, nc2⟩, fun Q => m_do_eq ?_ Q⟩
  repeat' first
    | (simp (disch := (first | omega | (simp (disch := omega) only [up_f, up_s, up_i, up_k, up_e]; omega))) only [up_f, up_s, up_i, up_k, up_e, V_iconst, V_bipush, V_sipush, V_conti, V_contn, V_goto, Option.some.injEq, exists_eq_left', true_and, and_true, m_fit, Option.isSome_some, List.map_nil, List.map_cons, List.sum_nil, List.sum_cons, List.all_nil, List.all_cons, m_cat, decide_true, Bool.and_true, Bool.true_and, Nat.zero_le, Int.toNat_natCast, Int.reduceAdd, Int.reduceSub, Int.reduceMul, Int.reduceNeg, Int.reduceLE, Int.reduceLT, Nat.reduceAdd, Nat.reduceLeDiff, Int.reduceToNat, Int.reduceEq, decide_eq_true_eq, true_or, or_true, exists_and_left, and_self, Nat.reduceMul, Nat.reduceSub, Nat.reduceLT, m_oa, Nat.reduceEqDiff, or_false, false_or, Sum.inl.injEq, Sum.inr.injEq, ↓reduceIte, ne_eq, not_false_eq_true, Int.reduceNe, exists_eq_left, D_81, R_81, X_81, I_81_38, F_81_21, I_81_248, F_81_293, V_iloadn1, V_iloadn2, V_aloadn0, G_9_1, T_2, G_2_3, A_ntO, T_antO, B_ntO, V_imul, m_mul_eq, V_iadd, m_add_eq, U_iaload, b_81_0, h93, h93b, i18, hv, hx])
theorem c_82 {S : Sg} {A T C : Nat} (ps : PS S A T C) (nc : NC S T C) : ∃ S2, (FN S S2 ∧ NC S2 T C) ∧ ∀ Q, m_do xs L 82 [vR 0] (mk S e) Q ↔ Q (.inl (some (vI (qHm S C)))) (mk S2 e) := by
  obtain ⟨S2, ⟨fn, nc2, cr⟩, i18⟩ := n_18 (xs := xs) (L := L) (e := e) ps nc
  have hC : C ≤ 10 := ps.1.2.2.2.2.2.2.2.2
  have hcc : S2 1405 0 0 = C := by rw [PC_1405 cr.1]; exact (PS_WP ps).2.1
  have i21 := s_21 (xs := xs) (L := L) (e := e) (n := 0) (by omega) hcc hC
  rw [hmA_C hC cr C (by omega)] at i21
  refine ⟨S2, ⟨fn, nc2⟩, fun Q => m_do_eq ?_ Q⟩
  repeat' first
    | (simp (disch := (first | omega | (simp (disch := omega) only [up_f, up_s, up_i, up_k, up_e]; omega))) only [up_f, up_s, up_i, up_k, up_e, V_iconst, V_bipush, V_sipush, V_conti, V_contn, V_goto, Option.some.injEq, exists_eq_left', true_and, and_true, m_fit, Option.isSome_some, List.map_nil, List.map_cons, List.sum_nil, List.sum_cons, List.all_nil, List.all_cons, m_cat, decide_true, Bool.and_true, Bool.true_and, Nat.zero_le, Int.toNat_natCast, Int.reduceAdd, Int.reduceSub, Int.reduceMul, Int.reduceNeg, Int.reduceLE, Int.reduceLT, Nat.reduceAdd, Nat.reduceLeDiff, Int.reduceToNat, Int.reduceEq, decide_eq_true_eq, true_or, or_true, exists_and_left, and_self, Nat.reduceMul, Nat.reduceSub, Nat.reduceLT, m_oa, Nat.reduceEqDiff, or_false, false_or, Sum.inl.injEq, Sum.inr.injEq, ↓reduceIte, ne_eq, not_false_eq_true, Int.reduceNe, exists_eq_left, D_82, R_82, X_82, F_82_21, I_82_248, I_82_296, V_aloadn0, G_9_1, T_2, b_82_0, i18, i21])
  all_goals first | exact ⟨rfl, rfl⟩ | rfl
theorem needCoach {S : Sg} {A T C c : Nat} (ps : PS S A T C) (hc : c < C) (Q : MOut → MHp → Prop) : m_do xs L 91 [vR 0, vI c] (mk S e) Q ↔ Q (.inl none) (mk S e) := by
  have h1 := ps.1
  unfold PS1 at h1
  exact s_91 (by omega) Q
/-- what is told of a coach -/
noncomputable def qCo (S : Sg) (c w : Nat) : Int := if w = 0 then rN S 88 0 c else if w = 1 then rdc (rN S) c else if w = 2 then rN S 90 0 c else if w = 3 then (if 0 < S 69 0 c ∧ S 69 0 c ≤ rN S 90 0 c then 1 else 0) else if w = 4 then rN S 91 0 c else (if S 68 0 c = 0 then 0 else 1)
theorem c_80 {S : Sg} {A T C c w : Nat} (ps : PS S A T C) (nc : NC S T C) (hc : c < C) (hw : w < 6) : ∃ S2, (FN S S2 ∧ NC S2 T C) ∧ ∀ Q, m_do xs L 80 [vR 0, vI c, vI w] (mk S e) Q ↔ Q (.inl (some (vI (qCo S c w)))) (mk S2 e) := by
  obtain ⟨S2, ⟨fn, nc2, cr⟩, i18⟩ := n_18 (xs := xs) (L := L) (e := e) ps nc
  have hC : C ≤ 10 := ps.1.2.2.2.2.2.2.2.2
  have hc10 : c < 10 := by omega
  have h91 := needCoach (xs := xs) (L := L) (e := e) ps hc
  have h93 := s_93 (xs := xs) (L := L) (S := S) (e := e) (a := (w : Int)) (b := 0) (c := 5) (by omega)
  have w1 := cr.2.1 c hc
  have v0 : S2 1801 (10 * 0 + c) 0 = rN S 88 0 c := w1.1
  have v1 : S2 1802 (10 * 0 + c) 0 = rdc (rN S) c := w1.2.1
  have v2 : S2 1803 (10 * 0 + c) 0 = rN S 90 0 c := w1.2.2.1
  have v4 : S2 1804 (10 * 0 + c) 0 = rN S 91 0 c := w1.2.2.2
  have v5 : S2 1108 c 0 = S 68 0 c := by rw [PC_1108 cr.1 hc10, nrm_p (by rfl)]
  have v69 : S2 1109 c 0 = S 69 0 c := by rw [PC_1109 cr.1 hc10, nrm_p (by rfl)]
  have h58 := s_58 (xs := xs) (L := L) (S := S2) (e := e) (n := 0) (i := c) (by omega) hc10
  rw [v2, v69] at h58
  refine ⟨S2, ⟨fn, nc2⟩, fun Q => m_do_eq ?_ Q⟩
  have hcase : w = 0 ∨ w = 1 ∨ w = 2 ∨ w = 3 ∨ w = 4 ∨ w = 5 := by omega
  rcases hcase with rfl | rfl | rfl | rfl | rfl | rfl
  · rw [show ((0 : Nat) : Int) = 0 from rfl] at h93 ⊢
    repeat' first
      | (refine V_if_eq.mpr ?_; first | rw [if_pos (by omega)] | rw [if_neg (by omega)] | split)
      | (simp (disch := (first | omega | (simp (disch := omega) only [up_f, up_s, up_i, up_k, up_e]; omega))) only [up_f, up_s, up_i, up_k, up_e, V_iconst, V_bipush, V_sipush, V_conti, V_contn, V_goto, Option.some.injEq, exists_eq_left', true_and, and_true, m_fit, Option.isSome_some, List.map_nil, List.map_cons, List.sum_nil, List.sum_cons, List.all_nil, List.all_cons, m_cat, decide_true, Bool.and_true, Bool.true_and, Nat.zero_le, Int.toNat_natCast, Int.reduceAdd, Int.reduceSub, Int.reduceMul, Int.reduceNeg, Int.reduceLE, Int.reduceLT, Nat.reduceAdd, Nat.reduceLeDiff, Int.reduceToNat, Int.reduceEq, decide_eq_true_eq, true_or, or_true, exists_and_left, and_self, Nat.reduceMul, Nat.reduceSub, Nat.reduceLT, m_oa, Nat.reduceEqDiff, or_false, false_or, Sum.inl.injEq, Sum.inr.injEq, ↓reduceIte, ne_eq, not_false_eq_true, Int.reduceNe, exists_eq_left, D_80, R_80, X_80, I_80_146, I_80_38, F_80_21, I_80_248, F_80_273, J_80_29_64, J_80_29_69, J_80_29_74, J_80_29_79, J_80_29_92, J_80_29_97, F_80_277, F_80_280, F_80_283, I_80_286, J_80_83, J_80_87, F_80_290, F_80_10, F_80_149, F_80_156, J_80_109, J_80_113, V_aloadn0, V_iloadn1, T_9, V_iloadn2, G_9_1, T_2, G_2_2, A_ntW, T_antW, U_aaload, V_astoren3, V_aloadn3, G_8_1, G_8_2, G_8_3, T_8, G_8_4, G_9_0, G_4_4, A_4, T_a4, G_1_8, b_80_0, b_80_64, b_80_69, b_80_74, b_80_79, b_80_90, b_80_91, b_80_92, b_80_97, b_80_116, b_80_117, h91, h93, i18, W_80_0, v0])
    all_goals first | exact ⟨rfl, rfl⟩ | rfl
  · rw [show ((1 : Nat) : Int) = 1 from rfl] at h93 ⊢
    repeat' first
      | (refine V_if_eq.mpr ?_; first | rw [if_pos (by omega)] | rw [if_neg (by omega)] | split)
      | (simp (disch := (first | omega | (simp (disch := omega) only [up_f, up_s, up_i, up_k, up_e]; omega))) only [up_f, up_s, up_i, up_k, up_e, V_iconst, V_bipush, V_sipush, V_conti, V_contn, V_goto, Option.some.injEq, exists_eq_left', true_and, and_true, m_fit, Option.isSome_some, List.map_nil, List.map_cons, List.sum_nil, List.sum_cons, List.all_nil, List.all_cons, m_cat, decide_true, Bool.and_true, Bool.true_and, Nat.zero_le, Int.toNat_natCast, Int.reduceAdd, Int.reduceSub, Int.reduceMul, Int.reduceNeg, Int.reduceLE, Int.reduceLT, Nat.reduceAdd, Nat.reduceLeDiff, Int.reduceToNat, Int.reduceEq, decide_eq_true_eq, true_or, or_true, exists_and_left, and_self, Nat.reduceMul, Nat.reduceSub, Nat.reduceLT, m_oa, Nat.reduceEqDiff, or_false, false_or, Sum.inl.injEq, Sum.inr.injEq, ↓reduceIte, ne_eq, not_false_eq_true, Int.reduceNe, exists_eq_left, D_80, R_80, X_80, I_80_146, I_80_38, F_80_21, I_80_248, F_80_273, J_80_29_64, J_80_29_69, J_80_29_74, J_80_29_79, J_80_29_92, J_80_29_97, F_80_277, F_80_280, F_80_283, I_80_286, J_80_83, J_80_87, F_80_290, F_80_10, F_80_149, F_80_156, J_80_109, J_80_113, V_aloadn0, V_iloadn1, T_9, V_iloadn2, G_9_1, T_2, G_2_2, A_ntW, T_antW, U_aaload, V_astoren3, V_aloadn3, G_8_1, G_8_2, G_8_3, T_8, G_8_4, G_9_0, G_4_4, A_4, T_a4, G_1_8, b_80_0, b_80_64, b_80_69, b_80_74, b_80_79, b_80_90, b_80_91, b_80_92, b_80_97, b_80_116, b_80_117, h91, h93, i18, W_80_1, v1])
    all_goals first | exact ⟨rfl, rfl⟩ | rfl
  · rw [show ((2 : Nat) : Int) = 2 from rfl] at h93 ⊢
    repeat' first
      | (refine V_if_eq.mpr ?_; first | rw [if_pos (by omega)] | rw [if_neg (by omega)] | split)
      | (simp (disch := (first | omega | (simp (disch := omega) only [up_f, up_s, up_i, up_k, up_e]; omega))) only [up_f, up_s, up_i, up_k, up_e, V_iconst, V_bipush, V_sipush, V_conti, V_contn, V_goto, Option.some.injEq, exists_eq_left', true_and, and_true, m_fit, Option.isSome_some, List.map_nil, List.map_cons, List.sum_nil, List.sum_cons, List.all_nil, List.all_cons, m_cat, decide_true, Bool.and_true, Bool.true_and, Nat.zero_le, Int.toNat_natCast, Int.reduceAdd, Int.reduceSub, Int.reduceMul, Int.reduceNeg, Int.reduceLE, Int.reduceLT, Nat.reduceAdd, Nat.reduceLeDiff, Int.reduceToNat, Int.reduceEq, decide_eq_true_eq, true_or, or_true, exists_and_left, and_self, Nat.reduceMul, Nat.reduceSub, Nat.reduceLT, m_oa, Nat.reduceEqDiff, or_false, false_or, Sum.inl.injEq, Sum.inr.injEq, ↓reduceIte, ne_eq, not_false_eq_true, Int.reduceNe, exists_eq_left, D_80, R_80, X_80, I_80_146, I_80_38, F_80_21, I_80_248, F_80_273, J_80_29_64, J_80_29_69, J_80_29_74, J_80_29_79, J_80_29_92, J_80_29_97, F_80_277, F_80_280, F_80_283, I_80_286, J_80_83, J_80_87, F_80_290, F_80_10, F_80_149, F_80_156, J_80_109, J_80_113, V_aloadn0, V_iloadn1, T_9, V_iloadn2, G_9_1, T_2, G_2_2, A_ntW, T_antW, U_aaload, V_astoren3, V_aloadn3, G_8_1, G_8_2, G_8_3, T_8, G_8_4, G_9_0, G_4_4, A_4, T_a4, G_1_8, b_80_0, b_80_64, b_80_69, b_80_74, b_80_79, b_80_90, b_80_91, b_80_92, b_80_97, b_80_116, b_80_117, h91, h93, i18, W_80_2, v2])
    all_goals first | exact ⟨rfl, rfl⟩ | rfl
  · rw [show ((3 : Nat) : Int) = 3 from rfl] at h93 ⊢
    have hq : qCo S c 3 = if 0 < S 69 0 c ∧ S 69 0 c ≤ rN S 90 0 c then 1 else 0 := rfl
    by_cases h : 0 < S 69 0 c ∧ S 69 0 c ≤ rN S 90 0 c
    · simp only [if_pos h] at h58
      rw [if_pos h] at hq
      rw [hq]
      repeat' first
        | (refine V_if_eq.mpr ?_; first | rw [if_pos (by omega)] | rw [if_neg (by omega)] | split)
        | (simp (disch := (first | omega | (simp (disch := omega) only [up_f, up_s, up_i, up_k, up_e]; omega))) only [up_f, up_s, up_i, up_k, up_e, V_iconst, V_bipush, V_sipush, V_conti, V_contn, V_goto, Option.some.injEq, exists_eq_left', true_and, and_true, m_fit, Option.isSome_some, List.map_nil, List.map_cons, List.sum_nil, List.sum_cons, List.all_nil, List.all_cons, m_cat, decide_true, Bool.and_true, Bool.true_and, Nat.zero_le, Int.toNat_natCast, Int.reduceAdd, Int.reduceSub, Int.reduceMul, Int.reduceNeg, Int.reduceLE, Int.reduceLT, Nat.reduceAdd, Nat.reduceLeDiff, Int.reduceToNat, Int.reduceEq, decide_eq_true_eq, true_or, or_true, exists_and_left, and_self, Nat.reduceMul, Nat.reduceSub, Nat.reduceLT, m_oa, Nat.reduceEqDiff, or_false, false_or, Sum.inl.injEq, Sum.inr.injEq, ↓reduceIte, ne_eq, not_false_eq_true, Int.reduceNe, exists_eq_left, D_80, R_80, X_80, I_80_146, I_80_38, F_80_21, I_80_248, F_80_273, J_80_29_64, J_80_29_69, J_80_29_74, J_80_29_79, J_80_29_92, J_80_29_97, F_80_277, F_80_280, F_80_283, I_80_286, J_80_83, J_80_87, F_80_290, F_80_10, F_80_149, F_80_156, J_80_109, J_80_113, V_aloadn0, V_iloadn1, T_9, V_iloadn2, G_9_1, T_2, G_2_2, A_ntW, T_antW, U_aaload, V_astoren3, V_aloadn3, G_8_1, G_8_2, G_8_3, T_8, G_8_4, G_9_0, G_4_4, A_4, T_a4, G_1_8, b_80_0, b_80_64, b_80_69, b_80_74, b_80_79, b_80_90, b_80_91, b_80_92, b_80_97, b_80_116, b_80_117, h91, h93, i18, W_80_3, h58])
    · simp only [if_neg h] at h58
      rw [if_neg h] at hq
      rw [hq]
      repeat' first
        | (refine V_if_eq.mpr ?_; first | rw [if_pos (by omega)] | rw [if_neg (by omega)] | split)
        | (simp (disch := (first | omega | (simp (disch := omega) only [up_f, up_s, up_i, up_k, up_e]; omega))) only [up_f, up_s, up_i, up_k, up_e, V_iconst, V_bipush, V_sipush, V_conti, V_contn, V_goto, Option.some.injEq, exists_eq_left', true_and, and_true, m_fit, Option.isSome_some, List.map_nil, List.map_cons, List.sum_nil, List.sum_cons, List.all_nil, List.all_cons, m_cat, decide_true, Bool.and_true, Bool.true_and, Nat.zero_le, Int.toNat_natCast, Int.reduceAdd, Int.reduceSub, Int.reduceMul, Int.reduceNeg, Int.reduceLE, Int.reduceLT, Nat.reduceAdd, Nat.reduceLeDiff, Int.reduceToNat, Int.reduceEq, decide_eq_true_eq, true_or, or_true, exists_and_left, and_self, Nat.reduceMul, Nat.reduceSub, Nat.reduceLT, m_oa, Nat.reduceEqDiff, or_false, false_or, Sum.inl.injEq, Sum.inr.injEq, ↓reduceIte, ne_eq, not_false_eq_true, Int.reduceNe, exists_eq_left, D_80, R_80, X_80, I_80_146, I_80_38, F_80_21, I_80_248, F_80_273, J_80_29_64, J_80_29_69, J_80_29_74, J_80_29_79, J_80_29_92, J_80_29_97, F_80_277, F_80_280, F_80_283, I_80_286, J_80_83, J_80_87, F_80_290, F_80_10, F_80_149, F_80_156, J_80_109, J_80_113, V_aloadn0, V_iloadn1, T_9, V_iloadn2, G_9_1, T_2, G_2_2, A_ntW, T_antW, U_aaload, V_astoren3, V_aloadn3, G_8_1, G_8_2, G_8_3, T_8, G_8_4, G_9_0, G_4_4, A_4, T_a4, G_1_8, b_80_0, b_80_64, b_80_69, b_80_74, b_80_79, b_80_90, b_80_91, b_80_92, b_80_97, b_80_116, b_80_117, h91, h93, i18, W_80_3, h58])
  · rw [show ((4 : Nat) : Int) = 4 from rfl] at h93 ⊢
    repeat' first
      | (refine V_if_eq.mpr ?_; first | rw [if_pos (by omega)] | rw [if_neg (by omega)] | split)
      | (simp (disch := (first | omega | (simp (disch := omega) only [up_f, up_s, up_i, up_k, up_e]; omega))) only [up_f, up_s, up_i, up_k, up_e, V_iconst, V_bipush, V_sipush, V_conti, V_contn, V_goto, Option.some.injEq, exists_eq_left', true_and, and_true, m_fit, Option.isSome_some, List.map_nil, List.map_cons, List.sum_nil, List.sum_cons, List.all_nil, List.all_cons, m_cat, decide_true, Bool.and_true, Bool.true_and, Nat.zero_le, Int.toNat_natCast, Int.reduceAdd, Int.reduceSub, Int.reduceMul, Int.reduceNeg, Int.reduceLE, Int.reduceLT, Nat.reduceAdd, Nat.reduceLeDiff, Int.reduceToNat, Int.reduceEq, decide_eq_true_eq, true_or, or_true, exists_and_left, and_self, Nat.reduceMul, Nat.reduceSub, Nat.reduceLT, m_oa, Nat.reduceEqDiff, or_false, false_or, Sum.inl.injEq, Sum.inr.injEq, ↓reduceIte, ne_eq, not_false_eq_true, Int.reduceNe, exists_eq_left, D_80, R_80, X_80, I_80_146, I_80_38, F_80_21, I_80_248, F_80_273, J_80_29_64, J_80_29_69, J_80_29_74, J_80_29_79, J_80_29_92, J_80_29_97, F_80_277, F_80_280, F_80_283, I_80_286, J_80_83, J_80_87, F_80_290, F_80_10, F_80_149, F_80_156, J_80_109, J_80_113, V_aloadn0, V_iloadn1, T_9, V_iloadn2, G_9_1, T_2, G_2_2, A_ntW, T_antW, U_aaload, V_astoren3, V_aloadn3, G_8_1, G_8_2, G_8_3, T_8, G_8_4, G_9_0, G_4_4, A_4, T_a4, G_1_8, b_80_0, b_80_64, b_80_69, b_80_74, b_80_79, b_80_90, b_80_91, b_80_92, b_80_97, b_80_116, b_80_117, h91, h93, i18, W_80_4, v4])
    all_goals first | exact ⟨rfl, rfl⟩ | rfl
  · rw [show ((5 : Nat) : Int) = 5 from rfl] at h93 ⊢
    have hq : qCo S c 5 = if S 68 0 c = 0 then 0 else 1 := rfl
    have hw5 : (5 : Int) < 0 ∨ 4 < (5 : Int) := by omega
    by_cases h : S 68 0 c = 0
    · rw [if_pos h] at hq
      rw [hq]
      repeat' first
        | (refine V_if_eq.mpr ?_; first | rw [if_pos (by omega)] | rw [if_neg (by omega)] | split)
        | (simp (disch := (first | omega | (simp (disch := omega) only [up_f, up_s, up_i, up_k, up_e]; omega))) only [up_f, up_s, up_i, up_k, up_e, V_iconst, V_bipush, V_sipush, V_conti, V_contn, V_goto, Option.some.injEq, exists_eq_left', true_and, and_true, m_fit, Option.isSome_some, List.map_nil, List.map_cons, List.sum_nil, List.sum_cons, List.all_nil, List.all_cons, m_cat, decide_true, Bool.and_true, Bool.true_and, Nat.zero_le, Int.toNat_natCast, Int.reduceAdd, Int.reduceSub, Int.reduceMul, Int.reduceNeg, Int.reduceLE, Int.reduceLT, Nat.reduceAdd, Nat.reduceLeDiff, Int.reduceToNat, Int.reduceEq, decide_eq_true_eq, true_or, or_true, exists_and_left, and_self, Nat.reduceMul, Nat.reduceSub, Nat.reduceLT, m_oa, Nat.reduceEqDiff, or_false, false_or, Sum.inl.injEq, Sum.inr.injEq, ↓reduceIte, ne_eq, not_false_eq_true, Int.reduceNe, exists_eq_left, D_80, R_80, X_80, I_80_146, I_80_38, F_80_21, I_80_248, F_80_273, J_80_29_64, J_80_29_69, J_80_29_74, J_80_29_79, J_80_29_92, J_80_29_97, F_80_277, F_80_280, F_80_283, I_80_286, J_80_83, J_80_87, F_80_290, F_80_10, F_80_149, F_80_156, J_80_109, J_80_113, V_aloadn0, V_iloadn1, T_9, V_iloadn2, G_9_1, T_2, G_2_2, A_ntW, T_antW, U_aaload, V_astoren3, V_aloadn3, G_8_1, G_8_2, G_8_3, T_8, G_8_4, G_9_0, G_4_4, A_4, T_a4, G_1_8, b_80_0, b_80_64, b_80_69, b_80_74, b_80_79, b_80_90, b_80_91, b_80_92, b_80_97, b_80_116, b_80_117, h91, h93, i18, W_80_d hw5, v5])
    · rw [if_neg h] at hq
      rw [hq]
      repeat' first
        | (refine V_if_eq.mpr ?_; first | rw [if_pos (by omega)] | rw [if_neg (by omega)] | split)
        | (simp (disch := (first | omega | (simp (disch := omega) only [up_f, up_s, up_i, up_k, up_e]; omega))) only [up_f, up_s, up_i, up_k, up_e, V_iconst, V_bipush, V_sipush, V_conti, V_contn, V_goto, Option.some.injEq, exists_eq_left', true_and, and_true, m_fit, Option.isSome_some, List.map_nil, List.map_cons, List.sum_nil, List.sum_cons, List.all_nil, List.all_cons, m_cat, decide_true, Bool.and_true, Bool.true_and, Nat.zero_le, Int.toNat_natCast, Int.reduceAdd, Int.reduceSub, Int.reduceMul, Int.reduceNeg, Int.reduceLE, Int.reduceLT, Nat.reduceAdd, Nat.reduceLeDiff, Int.reduceToNat, Int.reduceEq, decide_eq_true_eq, true_or, or_true, exists_and_left, and_self, Nat.reduceMul, Nat.reduceSub, Nat.reduceLT, m_oa, Nat.reduceEqDiff, or_false, false_or, Sum.inl.injEq, Sum.inr.injEq, ↓reduceIte, ne_eq, not_false_eq_true, Int.reduceNe, exists_eq_left, D_80, R_80, X_80, I_80_146, I_80_38, F_80_21, I_80_248, F_80_273, J_80_29_64, J_80_29_69, J_80_29_74, J_80_29_79, J_80_29_92, J_80_29_97, F_80_277, F_80_280, F_80_283, I_80_286, J_80_83, J_80_87, F_80_290, F_80_10, F_80_149, F_80_156, J_80_109, J_80_113, V_aloadn0, V_iloadn1, T_9, V_iloadn2, G_9_1, T_2, G_2_2, A_ntW, T_antW, U_aaload, V_astoren3, V_aloadn3, G_8_1, G_8_2, G_8_3, T_8, G_8_4, G_9_0, G_4_4, A_4, T_a4, G_1_8, b_80_0, b_80_64, b_80_69, b_80_74, b_80_79, b_80_90, b_80_91, b_80_92, b_80_97, b_80_116, b_80_117, h91, h93, i18, W_80_d hw5, v5])
theorem needTrain {S : Sg} {A T C t : Nat} (ps : PS S A T C) (ht : t < T) (Q : MOut → MHp → Prop) : m_do xs L 89 [vR 0, vI t] (mk S e) Q ↔ Q (.inl none) (mk S e) := by
  have h1 := ps.1
  unfold PS1 at h1
  exact s_89 (by omega) Q
theorem k_83 {S : Sg} {A T C t : Nat} {Q : MOut → MHp → Prop} (ht : t < T) (K : ∀ S2, FN S S2 → NC S2 T C → PS S2 A T C → Q (.inl (some (vI (bsA S t C 19).1))) (mk S2 e)) : ∀ (z j : Nat) (jj : Int) (S1 : Sg) (v : MV), j + z = 19 → jj = (10 * j : Nat) → FN S S1 → NC S1 T C → PS S1 A T C → m_ok xs L 83 b_83_12 [vR 0, vI t, vI (bsA S t C j).1, vI (bsA S t C j).2, vI jj, v] [] (mk S1 e) Q
  | 0, j, jj, S1, v, hz, hjj, fn, nc, ps => by
    have hj : j = 19 := by omega
    subst hj
    subst hjj
    have kk := K S1 fn nc ps
    rw [show ((10 * 19 : Nat) : Int) = 190 from rfl]
    unfold b_83_12
    repeat' first
      | (refine V_icmp_gt.mpr ?_; first | rw [if_pos (by omega)] | rw [if_neg (by omega)] | split)
      | (refine V_icmp_le.mpr ?_; first | rw [if_pos (by omega)] | rw [if_neg (by omega)] | split)
      | (simp (disch := (first | omega | (simp (disch := omega) only [up_f, up_s, up_i, up_k, up_e]; omega))) only [up_f, up_s, up_i, up_k, up_e, V_iconst, V_bipush, V_sipush, V_conti, V_contn, V_goto, Option.some.injEq, exists_eq_left', true_and, and_true, m_fit, Option.isSome_some, List.map_nil, List.map_cons, List.sum_nil, List.sum_cons, List.all_nil, List.all_cons, m_cat, decide_true, Bool.and_true, Bool.true_and, Nat.zero_le, Int.toNat_natCast, Int.reduceAdd, Int.reduceSub, Int.reduceMul, Int.reduceNeg, Int.reduceLE, Int.reduceLT, Nat.reduceAdd, Nat.reduceLeDiff, Int.reduceToNat, Int.reduceEq, decide_eq_true_eq, true_or, or_true, exists_and_left, and_self, Nat.reduceMul, Nat.reduceSub, Nat.reduceLT, m_oa, Nat.reduceEqDiff, or_false, false_or, Sum.inl.injEq, Sum.inr.injEq, ↓reduceIte, ne_eq, not_false_eq_true, Int.reduceNe, exists_eq_left, D_83, R_83, X_83, I_83_70, J_83_17, F_83_28, I_83_299, J_83_35, J_83_47, V_aloadn0, V_iloadn1, T_9, V_istoren2, V_istoren3, V_istore4, V_iload4, G_9_3, T_2, V_istore5, V_iload5, V_iloadn3, V_iinc4, m_add_eq, V_iloadn2, b_83_0, b_83_44, b_83_50])
    all_goals exact kk
  | z + 1, j, jj, S1, v, hz, hjj, fn, nc, ps => by
    subst hjj
    have hD : nrm S1 = nrm S := nrm_ext (FN_ps fn)
    obtain ⟨S2, ⟨f2, n2⟩, i20⟩ := n_20 (xs := xs) (L := L) (e := e) (v := ((10 * j : Nat) : Int)) ps nc ht (by omega)
    rw [hD] at i20
    have ps2 := PS_ext ps (FN_ps f2)
    have kk := fun v => k_83 ht K z (j + 1) ((10 * j : Nat) + 10) S2 v (by omega) (by omega) (FN_trans fn f2) n2 ps2
    have hr := hmA_ran (D := up (nrm S) 53 0 t (10 * j : Nat)) (N := (recA (up (nrm S) 53 0 t (10 * j : Nat))).1) C
    by_cases h : (bsA S t C j).2 < hmA (up (nrm S) 53 0 t (10 * j : Nat)) (recA (up (nrm S) 53 0 t (10 * j : Nat))).1 C
    · have hE : bsA S t C (j + 1) = (((10 * j : Nat) : Int), hmA (up (nrm S) 53 0 t (10 * j : Nat)) (recA (up (nrm S) 53 0 t (10 * j : Nat))).1 C) := by rw [bsA, if_pos h]
      rw [hE] at kk
      unfold b_83_12
      repeat' first
        | (refine V_icmp_gt.mpr ?_; first | rw [if_pos (by omega)] | rw [if_neg (by omega)] | split)
        | (refine V_icmp_le.mpr ?_; first | rw [if_pos (by omega)] | rw [if_neg (by omega)] | split)
        | (simp (disch := (first | omega | (simp (disch := omega) only [up_f, up_s, up_i, up_k, up_e]; omega))) only [up_f, up_s, up_i, up_k, up_e, V_iconst, V_bipush, V_sipush, V_conti, V_contn, V_goto, Option.some.injEq, exists_eq_left', true_and, and_true, m_fit, Option.isSome_some, List.map_nil, List.map_cons, List.sum_nil, List.sum_cons, List.all_nil, List.all_cons, m_cat, decide_true, Bool.and_true, Bool.true_and, Nat.zero_le, Int.toNat_natCast, Int.reduceAdd, Int.reduceSub, Int.reduceMul, Int.reduceNeg, Int.reduceLE, Int.reduceLT, Nat.reduceAdd, Nat.reduceLeDiff, Int.reduceToNat, Int.reduceEq, decide_eq_true_eq, true_or, or_true, exists_and_left, and_self, Nat.reduceMul, Nat.reduceSub, Nat.reduceLT, m_oa, Nat.reduceEqDiff, or_false, false_or, Sum.inl.injEq, Sum.inr.injEq, ↓reduceIte, ne_eq, not_false_eq_true, Int.reduceNe, exists_eq_left, D_83, R_83, X_83, I_83_70, J_83_17, F_83_28, I_83_299, J_83_35, J_83_47, V_aloadn0, V_iloadn1, T_9, V_istoren2, V_istoren3, V_istore4, V_iload4, G_9_3, T_2, V_istore5, V_iload5, V_iloadn3, V_iinc4, m_add_eq, V_iloadn2, b_83_0, b_83_44, b_83_50, i20])
      exact kk _
    · have hE : bsA S t C (j + 1) = bsA S t C j := by rw [bsA, if_neg h]
      rw [hE] at kk
      unfold b_83_12
      repeat' first
        | (refine V_icmp_gt.mpr ?_; first | rw [if_pos (by omega)] | rw [if_neg (by omega)] | split)
        | (refine V_icmp_le.mpr ?_; first | rw [if_pos (by omega)] | rw [if_neg (by omega)] | split)
        | (simp (disch := (first | omega | (simp (disch := omega) only [up_f, up_s, up_i, up_k, up_e]; omega))) only [up_f, up_s, up_i, up_k, up_e, V_iconst, V_bipush, V_sipush, V_conti, V_contn, V_goto, Option.some.injEq, exists_eq_left', true_and, and_true, m_fit, Option.isSome_some, List.map_nil, List.map_cons, List.sum_nil, List.sum_cons, List.all_nil, List.all_cons, m_cat, decide_true, Bool.and_true, Bool.true_and, Nat.zero_le, Int.toNat_natCast, Int.reduceAdd, Int.reduceSub, Int.reduceMul, Int.reduceNeg, Int.reduceLE, Int.reduceLT, Nat.reduceAdd, Nat.reduceLeDiff, Int.reduceToNat, Int.reduceEq, decide_eq_true_eq, true_or, or_true, exists_and_left, and_self, Nat.reduceMul, Nat.reduceSub, Nat.reduceLT, m_oa, Nat.reduceEqDiff, or_false, false_or, Sum.inl.injEq, Sum.inr.injEq, ↓reduceIte, ne_eq, not_false_eq_true, Int.reduceNe, exists_eq_left, D_83, R_83, X_83, I_83_70, J_83_17, F_83_28, I_83_299, J_83_35, J_83_47, V_aloadn0, V_iloadn1, T_9, V_istoren2, V_istoren3, V_istore4, V_iload4, G_9_3, T_2, V_istore5, V_iload5, V_iloadn3, V_iinc4, m_add_eq, V_iloadn2, b_83_0, b_83_44, b_83_50, i20])
      exact kk _
theorem c_83 {S : Sg} {A T C t : Nat} (ps : PS S A T C) (nc : NC S T C) (ht : t < T) : ∃ S2, (FN S S2 ∧ NC S2 T C) ∧ ∀ Q, m_do xs L 83 [vR 0, vI t] (mk S e) Q ↔ Q (.inl (some (vI (bsA S t C 19).1))) (mk S2 e) := by
  have h89 := needTrain (xs := xs) (L := L) (e := e) ps ht
  have k : m_do xs L 83 [vR 0, vI t] (mk S e) (fun o h => o = .inl (some (vI (bsA S t C 19).1)) ∧ ∃ S2, h = mk S2 e ∧ (FN S S2 ∧ NC S2 T C)) := by
    repeat' first
      | (refine V_icmp_gt.mpr ?_; first | rw [if_pos (by omega)] | rw [if_neg (by omega)] | split)
      | (refine V_icmp_le.mpr ?_; first | rw [if_pos (by omega)] | rw [if_neg (by omega)] | split)
      | (simp (disch := (first | omega | (simp (disch := omega) only [up_f, up_s, up_i, up_k, up_e]; omega))) only [up_f, up_s, up_i, up_k, up_e, V_iconst, V_bipush, V_sipush, V_conti, V_contn, V_goto, Option.some.injEq, exists_eq_left', true_and, and_true, m_fit, Option.isSome_some, List.map_nil, List.map_cons, List.sum_nil, List.sum_cons, List.all_nil, List.all_cons, m_cat, decide_true, Bool.and_true, Bool.true_and, Nat.zero_le, Int.toNat_natCast, Int.reduceAdd, Int.reduceSub, Int.reduceMul, Int.reduceNeg, Int.reduceLE, Int.reduceLT, Nat.reduceAdd, Nat.reduceLeDiff, Int.reduceToNat, Int.reduceEq, decide_eq_true_eq, true_or, or_true, exists_and_left, and_self, Nat.reduceMul, Nat.reduceSub, Nat.reduceLT, m_oa, Nat.reduceEqDiff, or_false, false_or, Sum.inl.injEq, Sum.inr.injEq, ↓reduceIte, ne_eq, not_false_eq_true, Int.reduceNe, exists_eq_left, D_83, R_83, X_83, I_83_70, J_83_17, F_83_28, I_83_299, J_83_35, J_83_47, V_aloadn0, V_iloadn1, T_9, V_istoren2, V_istoren3, V_istore4, V_iload4, G_9_3, T_2, V_istore5, V_iload5, V_iloadn3, V_iinc4, m_add_eq, V_iloadn2, b_83_0, b_83_44, b_83_50, h89])
    exact k_83 (S := S) ht (fun S2 a1 a2 a3 => ⟨rfl, S2, rfl, a1, a2⟩) 19 0 0 S _ (by omega) rfl FN_refl nc ps
  exact m_do_ex k
end V
