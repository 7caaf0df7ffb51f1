/-! ===== rooms and beds ===== -/
/-- the lowest free bed of three, the highest -/
def fbL (f : Nat → Int) : Int := if f 0 = -1 then 0 else if f 1 = -1 then 1 else if f 2 = -1 then 2 else -1
def fbH (f : Nat → Int) : Int := if f 2 = -1 then 2 else if f 1 = -1 then 1 else if f 0 = -1 then 0 else -1
theorem bx0 {c r : Nat} : (((c : Int) * 6 + (r : Int)) * 3 + 0).toNat = 18 * c + 3 * r + 0 := by omega
theorem bx1 {c r : Nat} : (((c : Int) * 6 + (r : Int)) * 3 + 1).toNat = 18 * c + 3 * r + 1 := by omega
theorem bx2 {c r : Nat} : (((c : Int) * 6 + (r : Int)) * 3 + 2).toNat = 18 * c + 3 * r + 2 := by omega
section V
variable {xs : Nat → Int32} {L : Nat} {S : Sg} {e : Nat}
theorem bm0 {c r : Nat} : (18 * (c : Int) + 3 * (r : Int) + 0).toNat = 18 * c + 3 * r + 0 := by omega
theorem bm1 {c r : Nat} : (18 * (c : Int) + 3 * (r : Int) + 1).toNat = 18 * c + 3 * r + 1 := by omega
theorem bm2 {c r : Nat} : (18 * (c : Int) + 3 * (r : Int) + 2).toNat = 18 * c + 3 * r + 2 := by omega
theorem bxkk {c r k : Nat} : (((c : Int) * 6 + (r : Int)) * 3 + (k : Int)).toNat = 18 * c + 3 * r + k := by omega
/-- one bed more: n sleeps there, g goes; is all the same still? -/
def hh (x n g a w : Int) : Int := if n = -1 ∨ n = g then x else if ¬ x = 0 ∧ a = w then 1 else 0
theorem bxk {c r k : Nat} : (((c : Int) * 6 + (r : Int)) * 3 + (k : Int)).toNat = 18 * c + 3 * r + k := by omega
def hx (sl wm : Nat → Int) (b : Nat) (g w : Int) : Int := hh (hh (hh 1 (sl (b + 0)) g (wm (sl (b + 0)).toNat) w) (sl (b + 1)) g (wm (sl (b + 1)).toNat) w) (sl (b + 2)) g (wm (sl (b + 2)).toNat) w
/-- the room may hold such a person and has a free bed -/
def fits (S : Sg) (c : Nat) (w p : Int) (r : Nat) : Prop := ¬ fbL (fun b => S 40 0 (18 * c + 3 * r + b)) = -1 ∧ (¬ hx (S 40 0) (fun q => S 1301 q 0) (18 * c + 3 * r) (-1) w = 0 ∨ ¬ hx (S 40 0) (fun q => S 1303 q 0) (18 * c + 3 * r) (-1) p = 0)
def rf (f : Nat → Prop) (d : ∀ r, Decidable (f r)) : Int := @ite _ (f 0) (d 0) 0 (@ite _ (f 1) (d 1) 1 (@ite _ (f 2) (d 2) 2 (@ite _ (f 3) (d 3) 3 (@ite _ (f 4) (d 4) 4 (@ite _ (f 5) (d 5) 5 (-1))))))
theorem s_4 {c r : Nat} {low : Int} (hc : c < 10) (hr : r < 6) (Q : MOut → MHp → Prop) : m_do xs L 4 [vR 253, vI c, vI r, vI low] (mk S e) Q ↔ Q (.inl (some (vI (if low = 0 then fbH (fun b => S 40 0 (18 * c + 3 * r + b)) else fbL (fun b => S 40 0 (18 * c + 3 * r + b)))))) (mk (S) (e)) := by
  refine m_do_eq ?_ Q
  repeat' first
    | (refine V_icmp_eq.mpr ?_; first | rw [if_pos (by omega)] | rw [if_neg (by omega)] | split)
    | (refine V_icmp_ge.mpr ?_; first | rw [if_pos (by omega)] | rw [if_neg (by omega)] | split)
    | (refine V_icmp_ne.mpr ?_; first | rw [if_pos (by omega)] | rw [if_neg (by omega)] | split)
    | (refine V_if_ne.mpr ?_; first | rw [if_pos (by omega)] | rw [if_neg (by omega)] | split)
    | (simp (disch := omega) only [up_f, up_s, up_i, up_k, up_e, V_iconst, V_bipush, V_sipush, V_conti, V_contn, V_goto, Option.some.injEq, exists_eq_left', true_and, and_true, m_fit, Option.isSome_some, List.map_nil, List.map_cons, List.sum_nil, List.sum_cons, List.all_nil, List.all_cons, m_cat, decide_true, Bool.and_true, Bool.true_and, Nat.zero_le, Int.toNat_natCast, Int.reduceAdd, Int.reduceSub, Int.reduceMul, Int.reduceNeg, Int.reduceLE, Int.reduceLT, Nat.reduceAdd, Nat.reduceLeDiff, Int.reduceToNat, Int.reduceEq, decide_eq_true_eq, true_or, or_true, exists_and_left, and_self, Nat.reduceMul, Nat.reduceSub, Nat.reduceLT, m_oa, Nat.reduceEqDiff, or_false, false_or, Sum.inl.injEq, Sum.inr.injEq, ↓reduceIte, exists_eq_left, D_4, R_4, X_4, J_4_9, F_4_21, I_4_45, J_4_25, J_4_31, J_4_35, J_4_45, V_istore4, V_istore5, V_iload5, V_aloadn0, G_0_2, A_255, T_a255, B_255, V_iloadn1, V_iloadn2, U_iaload, V_iload4, V_iloadn3, V_iinc5, m_add_eq, b_4_0, b_4_6, b_4_38, b_4_42, b_4_48, s_1, bx0, bx1, bx2])
  all_goals simp_all [fbL, fbH]
theorem s_128 {c r : Nat} (hc : c < 10) (hr : r < 6) (Q : MOut → MHp → Prop) : m_do xs L 128 [vR 296, vI c, vI r] (mk S e) Q ↔ Q (.inl (some (vI (if S 78 0 (18 * c + 3 * r + 0) = -1 ∨ S 78 0 (18 * c + 3 * r + 1) = -1 ∨ S 78 0 (18 * c + 3 * r + 2) = -1 then 1 else 0)))) (mk (S) (e)) := by
  refine m_do_eq ?_ Q
  repeat' first
    | (refine V_icmp_ge.mpr ?_; first | rw [if_pos (by omega)] | rw [if_neg (by omega)] | split)
    | (refine V_icmp_ne.mpr ?_; first | rw [if_pos (by omega)] | rw [if_neg (by omega)] | split)
    | (refine V_if_ne.mpr ?_; first | rw [if_pos (by omega)] | rw [if_neg (by omega)] | split)
    | (simp (disch := omega) only [up_f, up_s, up_i, up_k, up_e, V_iconst, V_bipush, V_sipush, V_conti, V_contn, V_goto, Option.some.injEq, exists_eq_left', true_and, and_true, m_fit, Option.isSome_some, List.map_nil, List.map_cons, List.sum_nil, List.sum_cons, List.all_nil, List.all_cons, m_cat, decide_true, Bool.and_true, Bool.true_and, Nat.zero_le, Int.toNat_natCast, Int.reduceAdd, Int.reduceSub, Int.reduceMul, Int.reduceNeg, Int.reduceLE, Int.reduceLT, Nat.reduceAdd, Nat.reduceLeDiff, Int.reduceToNat, Int.reduceEq, decide_eq_true_eq, true_or, or_true, exists_and_left, and_self, Nat.reduceMul, Nat.reduceSub, Nat.reduceLT, m_oa, Nat.reduceEqDiff, or_false, false_or, Sum.inl.injEq, Sum.inr.injEq, ↓reduceIte, exists_eq_left, D_128, R_128, X_128, J_128_8, J_128_12, F_128_95, J_128_32, J_128_36, J_128_44, V_istoren3, V_istore4, V_iload4, V_iloadn3, V_aloadn0, G_10_33, A_325, T_a325, B_325, V_iloadn1, V_imul, m_mul_eq, V_iloadn2, V_iadd, m_add_eq, U_iaload, V_iinc4, b_128_0, b_128_5, b_128_35, b_128_39, b_128_40, b_128_47, bm0, bm1, bm2])
  all_goals (try simp_all)
  all_goals (intros; omega)
theorem l_5 {c r k : Nat} {kk w p g sx pt : Int} {v : MV} {Q : MOut → MHp → Prop} (hc : c < 10) (hr : r < 6) (hk : k < 3) (hkk : kk = k) (hs : -1 ≤ S 40 0 (18 * c + 3 * r + k) ∧ S 40 0 (18 * c + 3 * r + k) < 40)
    (K : m_ok xs L 5 b_5_9 [vR 253, vI c, vI r, vI w, vI p, vI g, vI (hh sx (S 40 0 (18 * c + 3 * r + k)) g (S 1301 (S 40 0 (18 * c + 3 * r + k)).toNat 0) w), vI (hh pt (S 40 0 (18 * c + 3 * r + k)) g (S 1303 (S 40 0 (18 * c + 3 * r + k)).toNat 0) p), vI (kk + 1), vI (S 40 0 (18 * c + 3 * r + k))] [] (mk S e) Q) : m_ok xs L 5 b_5_9 [vR 253, vI c, vI r, vI w, vI p, vI g, vI sx, vI pt, vI kk, v] [] (mk S e) Q := by
  subst hkk
  unfold b_5_9
  repeat' first
    | (refine V_icmp_eq.mpr ?_; first | rw [if_pos (by omega)] | rw [if_neg (by omega)] | split)
    | (refine V_icmp_ge.mpr ?_; first | rw [if_pos (by omega)] | rw [if_neg (by omega)] | split)
    | (refine V_icmp_ne.mpr ?_; first | rw [if_pos (by omega)] | rw [if_neg (by omega)] | split)
    | (refine V_if_eq.mpr ?_; first | rw [if_pos (by omega)] | rw [if_neg (by omega)] | split)
    | (refine V_if_ne.mpr ?_; first | rw [if_pos (by omega)] | rw [if_neg (by omega)] | split)
    | (simp (disch := omega) only [up_f, up_s, up_i, up_k, up_e, V_iconst, V_bipush, V_sipush, V_conti, V_contn, V_goto, Option.some.injEq, exists_eq_left', true_and, and_true, m_fit, Option.isSome_some, List.map_nil, List.map_cons, List.sum_nil, List.sum_cons, List.all_nil, List.all_cons, m_cat, decide_true, Bool.and_true, Bool.true_and, Nat.zero_le, Int.toNat_natCast, Int.reduceAdd, Int.reduceSub, Int.reduceMul, Int.reduceNeg, Int.reduceLE, Int.reduceLT, Nat.reduceAdd, Nat.reduceLeDiff, Int.reduceToNat, Int.reduceEq, decide_eq_true_eq, true_or, or_true, exists_and_left, and_self, Nat.reduceMul, Nat.reduceSub, Nat.reduceLT, m_oa, Nat.reduceEqDiff, or_false, false_or, Sum.inl.injEq, Sum.inr.injEq, ↓reduceIte, exists_eq_left, D_5, R_5, X_5, J_5_12, F_5_21, I_5_45, J_5_32, J_5_39, J_5_44, F_5_11, F_5_49, J_5_58, J_5_62, J_5_70, F_5_53, J_5_85, J_5_89, J_5_98, J_5_103, J_5_108, J_5_112, V_istore6, V_istore7, V_istore8, V_iload8, V_aloadn0, G_0_2, A_255, T_a255, B_255, V_iloadn1, V_iloadn2, U_iaload, V_istore9, V_iload9, V_iload5, V_iload6, G_0_0, A_254, T_a254, U_aaload, G_3_1, V_iloadn3, V_iload7, G_3_3, V_iload4, V_iinc8, m_add_eq, b_5_0, b_5_65, b_5_66, b_5_92, b_5_93, b_5_95, b_5_101, b_5_111, b_5_115, b_5_116, s_1, bxk])
  all_goals (refine cast ?_ K; simp_all [hh])
theorem s_5 {c r : Nat} {w p g : Int} (hc : c < 10) (hr : r < 6) (hs : ∀ x, x < 180 → -1 ≤ S 40 0 x ∧ S 40 0 x < 40) (Q : MOut → MHp → Prop) : m_do xs L 5 [vR 253, vI c, vI r, vI w, vI p, vI g] (mk S e) Q ↔ Q (.inl (some (vI (if ¬ hx (S 40 0) (fun q => S 1301 q 0) (18 * c + 3 * r) g w = 0 ∨ ¬ hx (S 40 0) (fun q => S 1303 q 0) (18 * c + 3 * r) g p = 0 then 1 else 0)))) (mk S e) := by
  refine m_do_eq ?_ Q
  repeat' first
    | (refine V_icmp_eq.mpr ?_; first | rw [if_pos (by omega)] | rw [if_neg (by omega)] | split)
    | (refine V_icmp_ge.mpr ?_; first | rw [if_pos (by omega)] | rw [if_neg (by omega)] | split)
    | (refine V_icmp_ne.mpr ?_; first | rw [if_pos (by omega)] | rw [if_neg (by omega)] | split)
    | (refine V_if_eq.mpr ?_; first | rw [if_pos (by omega)] | rw [if_neg (by omega)] | split)
    | (refine V_if_ne.mpr ?_; first | rw [if_pos (by omega)] | rw [if_neg (by omega)] | split)
    | (simp (disch := omega) only [up_f, up_s, up_i, up_k, up_e, V_iconst, V_bipush, V_sipush, V_conti, V_contn, V_goto, Option.some.injEq, exists_eq_left', true_and, and_true, m_fit, Option.isSome_some, List.map_nil, List.map_cons, List.sum_nil, List.sum_cons, List.all_nil, List.all_cons, m_cat, decide_true, Bool.and_true, Bool.true_and, Nat.zero_le, Int.toNat_natCast, Int.reduceAdd, Int.reduceSub, Int.reduceMul, Int.reduceNeg, Int.reduceLE, Int.reduceLT, Nat.reduceAdd, Nat.reduceLeDiff, Int.reduceToNat, Int.reduceEq, decide_eq_true_eq, true_or, or_true, exists_and_left, and_self, Nat.reduceMul, Nat.reduceSub, Nat.reduceLT, m_oa, Nat.reduceEqDiff, or_false, false_or, Sum.inl.injEq, Sum.inr.injEq, ↓reduceIte, exists_eq_left, D_5, R_5, X_5, J_5_12, F_5_21, I_5_45, J_5_32, J_5_39, J_5_44, F_5_11, F_5_49, J_5_58, J_5_62, J_5_70, F_5_53, J_5_85, J_5_89, J_5_98, J_5_103, J_5_108, J_5_112, V_istore6, V_istore7, V_istore8, V_iload8, V_aloadn0, G_0_2, A_255, T_a255, B_255, V_iloadn1, V_iloadn2, U_iaload, V_istore9, V_iload9, V_iload5, V_iload6, G_0_0, A_254, T_a254, U_aaload, G_3_1, V_iloadn3, V_iload7, G_3_3, V_iload4, V_iinc8, m_add_eq, b_5_0, b_5_65, b_5_66, b_5_92, b_5_93, b_5_95, b_5_101, b_5_111, b_5_115, b_5_116])
  refine l_5 (k := 0) hc hr (by omega) rfl (hs _ (by omega)) ?_
  refine l_5 (k := 1) hc hr (by omega) rfl (hs _ (by omega)) ?_
  refine l_5 (k := 2) hc hr (by omega) rfl (hs _ (by omega)) ?_
  unfold b_5_9
  repeat' first
    | (refine V_icmp_eq.mpr ?_; first | rw [if_pos (by omega)] | rw [if_neg (by omega)] | split)
    | (refine V_icmp_ge.mpr ?_; first | rw [if_pos (by omega)] | rw [if_neg (by omega)] | split)
    | (refine V_icmp_ne.mpr ?_; first | rw [if_pos (by omega)] | rw [if_neg (by omega)] | split)
    | (refine V_if_eq.mpr ?_; first | rw [if_pos (by omega)] | rw [if_neg (by omega)] | split)
    | (refine V_if_ne.mpr ?_; first | rw [if_pos (by omega)] | rw [if_neg (by omega)] | split)
    | (simp (disch := omega) only [up_f, up_s, up_i, up_k, up_e, V_iconst, V_bipush, V_sipush, V_conti, V_contn, V_goto, Option.some.injEq, exists_eq_left', true_and, and_true, m_fit, Option.isSome_some, List.map_nil, List.map_cons, List.sum_nil, List.sum_cons, List.all_nil, List.all_cons, m_cat, decide_true, Bool.and_true, Bool.true_and, Nat.zero_le, Int.toNat_natCast, Int.reduceAdd, Int.reduceSub, Int.reduceMul, Int.reduceNeg, Int.reduceLE, Int.reduceLT, Nat.reduceAdd, Nat.reduceLeDiff, Int.reduceToNat, Int.reduceEq, decide_eq_true_eq, true_or, or_true, exists_and_left, and_self, Nat.reduceMul, Nat.reduceSub, Nat.reduceLT, m_oa, Nat.reduceEqDiff, or_false, false_or, Sum.inl.injEq, Sum.inr.injEq, ↓reduceIte, exists_eq_left, D_5, R_5, X_5, J_5_12, F_5_21, I_5_45, J_5_32, J_5_39, J_5_44, F_5_11, F_5_49, J_5_58, J_5_62, J_5_70, F_5_53, J_5_85, J_5_89, J_5_98, J_5_103, J_5_108, J_5_112, V_istore6, V_istore7, V_istore8, V_iload8, V_aloadn0, G_0_2, A_255, T_a255, B_255, V_iloadn1, V_iloadn2, U_iaload, V_istore9, V_iload9, V_iload5, V_iload6, G_0_0, A_254, T_a254, U_aaload, G_3_1, V_iloadn3, V_iload7, G_3_3, V_iload4, V_iinc8, m_add_eq, b_5_0, b_5_65, b_5_66, b_5_92, b_5_93, b_5_95, b_5_101, b_5_111, b_5_115, b_5_116])
  all_goals simp_all [hx]
theorem l_3 {c k : Nat} {kk w p : Int} {Q : MOut → MHp → Prop} (hc : c < 10) (hk : k < 6) (hkk : kk = k) (hs : ∀ x, x < 180 → -1 ≤ S 40 0 x ∧ S 40 0 x < 40)
    (K0 : ¬ fits S c w p k → m_ok xs L 3 b_3_3 [vR 253, vI c, vI w, vI p, vI (kk + 1)] [] (mk S e) Q) (K1 : fits S c w p k → Q (.inl (some (vI kk))) (mk S e)) : m_ok xs L 3 b_3_3 [vR 253, vI c, vI w, vI p, vI kk] [] (mk S e) Q := by
  subst hkk
  unfold b_3_3
  repeat' first
    | (refine V_icmp_eq.mpr ?_; first | rw [if_pos (by omega)] | rw [if_neg (by omega)] | split)
    | (refine V_icmp_ge.mpr ?_; first | rw [if_pos (by omega)] | rw [if_neg (by omega)] | split)
    | (refine V_if_eq.mpr ?_; first | rw [if_pos (by omega)] | rw [if_neg (by omega)] | split)
    | (simp (disch := omega) only [up_f, up_s, up_i, up_k, up_e, V_iconst, V_bipush, V_sipush, V_conti, V_contn, V_goto, Option.some.injEq, exists_eq_left', true_and, and_true, m_fit, Option.isSome_some, List.map_nil, List.map_cons, List.sum_nil, List.sum_cons, List.all_nil, List.all_cons, m_cat, decide_true, Bool.and_true, Bool.true_and, Nat.zero_le, Int.toNat_natCast, Int.reduceAdd, Int.reduceSub, Int.reduceMul, Int.reduceNeg, Int.reduceLE, Int.reduceLT, Nat.reduceAdd, Nat.reduceLeDiff, Int.reduceToNat, Int.reduceEq, decide_eq_true_eq, true_or, or_true, exists_and_left, and_self, Nat.reduceMul, Nat.reduceSub, Nat.reduceLT, m_oa, Nat.reduceEqDiff, or_false, false_or, Sum.inl.injEq, Sum.inr.injEq, ↓reduceIte, exists_eq_left, D_3, R_3, X_3, J_3_7, I_3_37, J_3_19, I_3_41, J_3_32, J_3_41, V_istore4, V_iload4, V_aloadn0, V_iloadn1, T_0, V_iloadn2, V_iloadn3, V_iinc4, m_add_eq, b_3_0, b_3_38, b_3_44, s_4, s_5, if_neg (show ¬ (1 : Int) = 0 by decide)])
  all_goals first | exact K0 (by simp_all [fits]) | exact K1 (by simp_all [fits])
noncomputable def rfI (S : Sg) (c : Nat) (w p : Int) : Int := rf (fits S c w p) (fun _ => Classical.propDecidable _)
theorem s_3 {c : Nat} {w p : Int} (hc : c < 10) (hs : ∀ x, x < 180 → -1 ≤ S 40 0 x ∧ S 40 0 x < 40) (Q : MOut → MHp → Prop) : m_do xs L 3 [vR 253, vI c, vI w, vI p] (mk S e) Q ↔ Q (.inl (some (vI (rfI S c w p)))) (mk S e) := by
  refine m_do_eq ?_ Q
  repeat' first
    | (refine V_icmp_eq.mpr ?_; first | rw [if_pos (by omega)] | rw [if_neg (by omega)] | split)
    | (refine V_icmp_ge.mpr ?_; first | rw [if_pos (by omega)] | rw [if_neg (by omega)] | split)
    | (refine V_if_eq.mpr ?_; first | rw [if_pos (by omega)] | rw [if_neg (by omega)] | split)
    | (simp (disch := omega) only [up_f, up_s, up_i, up_k, up_e, V_iconst, V_bipush, V_sipush, V_conti, V_contn, V_goto, Option.some.injEq, exists_eq_left', true_and, and_true, m_fit, Option.isSome_some, List.map_nil, List.map_cons, List.sum_nil, List.sum_cons, List.all_nil, List.all_cons, m_cat, decide_true, Bool.and_true, Bool.true_and, Nat.zero_le, Int.toNat_natCast, Int.reduceAdd, Int.reduceSub, Int.reduceMul, Int.reduceNeg, Int.reduceLE, Int.reduceLT, Nat.reduceAdd, Nat.reduceLeDiff, Int.reduceToNat, Int.reduceEq, decide_eq_true_eq, true_or, or_true, exists_and_left, and_self, Nat.reduceMul, Nat.reduceSub, Nat.reduceLT, m_oa, Nat.reduceEqDiff, or_false, false_or, Sum.inl.injEq, Sum.inr.injEq, ↓reduceIte, exists_eq_left, D_3, R_3, X_3, J_3_7, I_3_37, J_3_19, I_3_41, J_3_32, J_3_41, V_istore4, V_iload4, V_aloadn0, V_iloadn1, T_0, V_iloadn2, V_iloadn3, V_iinc4, m_add_eq, b_3_0, b_3_38, b_3_44])
  refine l_3 (k := 0) hc (by omega) rfl hs (fun h0 => ?_) (fun h0 => by simp [rfI, rf, h0])
  refine l_3 (k := 1) hc (by omega) rfl hs (fun h1 => ?_) (fun h1 => by simp [rfI, rf, h0, h1])
  refine l_3 (k := 2) hc (by omega) rfl hs (fun h2 => ?_) (fun h2 => by simp [rfI, rf, h0, h1, h2])
  refine l_3 (k := 3) hc (by omega) rfl hs (fun h3 => ?_) (fun h3 => by simp [rfI, rf, h0, h1, h2, h3])
  refine l_3 (k := 4) hc (by omega) rfl hs (fun h4 => ?_) (fun h4 => by simp [rfI, rf, h0, h1, h2, h3, h4])
  refine l_3 (k := 5) hc (by omega) rfl hs (fun h5 => ?_) (fun h5 => by simp [rfI, rf, h0, h1, h2, h3, h4, h5])
  unfold b_3_3
  repeat' first
    | (refine V_icmp_eq.mpr ?_; first | rw [if_pos (by omega)] | rw [if_neg (by omega)] | split)
    | (refine V_icmp_ge.mpr ?_; first | rw [if_pos (by omega)] | rw [if_neg (by omega)] | split)
    | (refine V_if_eq.mpr ?_; first | rw [if_pos (by omega)] | rw [if_neg (by omega)] | split)
    | (simp (disch := omega) only [up_f, up_s, up_i, up_k, up_e, V_iconst, V_bipush, V_sipush, V_conti, V_contn, V_goto, Option.some.injEq, exists_eq_left', true_and, and_true, m_fit, Option.isSome_some, List.map_nil, List.map_cons, List.sum_nil, List.sum_cons, List.all_nil, List.all_cons, m_cat, decide_true, Bool.and_true, Bool.true_and, Nat.zero_le, Int.toNat_natCast, Int.reduceAdd, Int.reduceSub, Int.reduceMul, Int.reduceNeg, Int.reduceLE, Int.reduceLT, Nat.reduceAdd, Nat.reduceLeDiff, Int.reduceToNat, Int.reduceEq, decide_eq_true_eq, true_or, or_true, exists_and_left, and_self, Nat.reduceMul, Nat.reduceSub, Nat.reduceLT, m_oa, Nat.reduceEqDiff, or_false, false_or, Sum.inl.injEq, Sum.inr.injEq, ↓reduceIte, exists_eq_left, D_3, R_3, X_3, J_3_7, I_3_37, J_3_19, I_3_41, J_3_32, J_3_41, V_istore4, V_iload4, V_aloadn0, V_iloadn1, T_0, V_iloadn2, V_iloadn3, V_iinc4, m_add_eq, b_3_0, b_3_38, b_3_44])
  simp [rfI, rf, h0, h1, h2, h3, h4, h5]
theorem s_2 (hp : 0 ≤ S 1001 0 0 ∧ S 1001 0 0 < 40) (Q : MOut → MHp → Prop) : m_do xs L 2 [vR 253] (mk S e) Q ↔ Q (.inl (some (vR (pe (S 1001 0 0).toNat)))) (mk (up S 1001 0 0 (S 1001 0 0 + 1)) (e)) := by
  refine m_do_eq ?_ Q
  repeat' first
    | (simp (disch := omega) only [up_f, up_s, up_i, up_k, up_e, V_iconst, V_bipush, V_sipush, V_conti, V_contn, V_goto, Option.some.injEq, exists_eq_left', true_and, and_true, m_fit, Option.isSome_some, List.map_nil, List.map_cons, List.sum_nil, List.sum_cons, List.all_nil, List.all_cons, m_cat, decide_true, Bool.and_true, Bool.true_and, Nat.zero_le, Int.toNat_natCast, Int.reduceAdd, Int.reduceSub, Int.reduceMul, Int.reduceNeg, Int.reduceLE, Int.reduceLT, Nat.reduceAdd, Nat.reduceLeDiff, Int.reduceToNat, Int.reduceEq, decide_eq_true_eq, true_or, or_true, exists_and_left, and_self, Nat.reduceMul, Nat.reduceSub, Nat.reduceLT, m_oa, Nat.reduceEqDiff, or_false, false_or, Sum.inl.injEq, Sum.inr.injEq, ↓reduceIte, exists_eq_left, D_2, R_2, X_2, F_2_11, F_2_17, W_2_17, V_aloadn0, G_0_0, A_254, T_a254, G_0_1, U_aaload, V_astoren1, V_dup_vI, V_dup_vR, V_iadd, m_add_eq, P_0_1, V_aloadn1, b_2_0])
theorem s_7 {p c r b : Nat} (hp : p < 40) (hc : c < 10) (hr : r < 6) (hb : b < 3) (Q : MOut → MHp → Prop) : m_do xs L 7 [vR 253, vR (pe p), vI c, vI r, vI b] (mk S e) Q ↔ Q (.inl none) (mk (up (up (up (up S 1304 p 0 c) 1305 p 0 r) 1306 p 0 b) 40 0 (18 * c + 3 * r + b) (S 1300 p 0)) (e)) := by
  refine m_do_eq ?_ Q
  repeat' first
    | (simp (disch := omega) only [up_f, up_s, up_i, up_k, up_e, V_iconst, V_bipush, V_sipush, V_conti, V_contn, V_goto, Option.some.injEq, exists_eq_left', true_and, and_true, m_fit, Option.isSome_some, List.map_nil, List.map_cons, List.sum_nil, List.sum_cons, List.all_nil, List.all_cons, m_cat, decide_true, Bool.and_true, Bool.true_and, Nat.zero_le, Int.toNat_natCast, Int.reduceAdd, Int.reduceSub, Int.reduceMul, Int.reduceNeg, Int.reduceLE, Int.reduceLT, Nat.reduceAdd, Nat.reduceLeDiff, Int.reduceToNat, Int.reduceEq, decide_eq_true_eq, true_or, or_true, exists_and_left, and_self, Nat.reduceMul, Nat.reduceSub, Nat.reduceLT, m_oa, Nat.reduceEqDiff, or_false, false_or, Sum.inl.injEq, Sum.inr.injEq, ↓reduceIte, exists_eq_left, D_7, R_7, X_7, W_7_63, W_7_66, W_7_69, F_7_21, I_7_45, F_7_72, V_aloadn1, V_iloadn2, G_3_4, P_3_4, V_iloadn3, G_3_5, P_3_5, V_iload4, G_3_6, P_3_6, V_aloadn0, G_0_2, A_255, T_a255, B_255, G_3_0, U_iastore, b_7_0, s_1, bxk])
  all_goals simp [up]
theorem s_9 {p : Nat} {m : Int} (hp : p < 40) (h1 : 0 ≤ S 1307 p 0 + m ∧ S 1307 p 0 + m < 1000000) (h2 : 0 ≤ S 1003 0 0 + m ∧ S 1003 0 0 + m < 1000000) (Q : MOut → MHp → Prop) : m_do xs L 9 [vR 253, vR (pe p), vI m] (mk S e) Q ↔ Q (.inl none) (mk (up (up S 1307 p 0 (S 1307 p 0 + m)) 1003 0 0 (S 1003 0 0 + m)) (e)) := by
  refine m_do_eq ?_ Q
  repeat' first
    | (simp (disch := omega) only [up_f, up_s, up_i, up_k, up_e, V_iconst, V_bipush, V_sipush, V_conti, V_contn, V_goto, Option.some.injEq, exists_eq_left', true_and, and_true, m_fit, Option.isSome_some, List.map_nil, List.map_cons, List.sum_nil, List.sum_cons, List.all_nil, List.all_cons, m_cat, decide_true, Bool.and_true, Bool.true_and, Nat.zero_le, Int.toNat_natCast, Int.reduceAdd, Int.reduceSub, Int.reduceMul, Int.reduceNeg, Int.reduceLE, Int.reduceLT, Nat.reduceAdd, Nat.reduceLeDiff, Int.reduceToNat, Int.reduceEq, decide_eq_true_eq, true_or, or_true, exists_and_left, and_self, Nat.reduceMul, Nat.reduceSub, Nat.reduceLT, m_oa, Nat.reduceEqDiff, or_false, false_or, Sum.inl.injEq, Sum.inr.injEq, ↓reduceIte, exists_eq_left, D_9, R_9, X_9, F_9_75, W_9_75, F_9_25, W_9_25, V_aloadn1, V_dup_vI, V_dup_vR, G_3_7, V_iloadn2, V_iadd, m_add_eq, P_3_7, V_aloadn0, G_0_3, P_0_3, b_9_0])
  all_goals simp [up]
noncomputable def bedI (S : Sg) (p c r : Nat) : Int := if S 1302 p 0 < 60 then fbH (fun b => S 40 0 (18 * c + 3 * r + b)) else fbL (fun b => S 40 0 (18 * c + 3 * r + b))
theorem fb_ran (f : Nat → Int) : (fbL f = -1 ∨ ∃ b : Nat, b < 3 ∧ fbL f = b) ∧ (fbH f = -1 ∨ ∃ b : Nat, b < 3 ∧ fbH f = b) := by
  constructor
  · unfold fbL
    split
    · exact Or.inr ⟨0, by omega, rfl⟩
    · split
      · exact Or.inr ⟨1, by omega, rfl⟩
      · split
        · exact Or.inr ⟨2, by omega, rfl⟩
        · exact Or.inl rfl
  · unfold fbH
    split
    · exact Or.inr ⟨2, by omega, rfl⟩
    · split
      · exact Or.inr ⟨1, by omega, rfl⟩
      · split
        · exact Or.inr ⟨0, by omega, rfl⟩
        · exact Or.inl rfl
theorem s_6 {p c r b : Nat} (hp : p < 40) (hc : c < 10) (hr : r < 6) (hb : b < 3) (he : bedI S p c r = b) (Q : MOut → MHp → Prop) : m_do xs L 6 [vR 253, vR (pe p), vI c, vI r] (mk S e) Q ↔ Q (.inl none) (mk (up (up (up (up S 1304 p 0 c) 1305 p 0 r) 1306 p 0 b) 40 0 (18 * c + 3 * r + b) (S 1300 p 0)) (e)) := by
  refine m_do_eq ?_ Q
  have hd : ∀ low : Int, (low = 0 ↔ S 1302 p 0 < 60) → m_ok xs L 6 b_6_17 [vR 253, vR (pe p), vI c, vI r, vU] [vI low, vI r, vI c, vR 253] (mk S e) (fun a b_1 => a = .inl none ∧ b_1 = mk (up (up (up (up S 1304 p 0 c) 1305 p 0 r) 1306 p 0 b) 40 0 (18 * c + 3 * r + b) (S 1300 p 0)) e) := by
    intro low hl
    have h4 : (if low = 0 then fbH (fun b => S 40 0 (18 * c + 3 * r + b)) else fbL (fun b => S 40 0 (18 * c + 3 * r + b))) = (b : Int) := by
      rw [← he, bedI]
      by_cases h : low = 0
      · rw [if_pos h, if_pos (hl.mp h)]
      · rw [if_neg h, if_neg (fun z => h (hl.mpr z))]
    unfold b_6_17
    repeat' first
      | (refine V_icmp_eq.mpr ?_; first | rw [if_pos (by omega)] | rw [if_neg (by omega)] | split)
      | (refine V_icmp_lt.mpr ?_; first | rw [if_pos (by omega)] | rw [if_neg (by omega)] | split)
      | (simp (disch := omega) only [up_f, up_s, up_i, up_k, up_e, V_iconst, V_bipush, V_sipush, V_conti, V_contn, V_goto, Option.some.injEq, exists_eq_left', true_and, and_true, m_fit, Option.isSome_some, List.map_nil, List.map_cons, List.sum_nil, List.sum_cons, List.all_nil, List.all_cons, m_cat, decide_true, Bool.and_true, Bool.true_and, Nat.zero_le, Int.toNat_natCast, Int.reduceAdd, Int.reduceSub, Int.reduceMul, Int.reduceNeg, Int.reduceLE, Int.reduceLT, Nat.reduceAdd, Nat.reduceLeDiff, Int.reduceToNat, Int.reduceEq, decide_eq_true_eq, true_or, or_true, exists_and_left, and_self, Nat.reduceMul, Nat.reduceSub, Nat.reduceLT, m_oa, Nat.reduceEqDiff, or_false, false_or, Sum.inl.injEq, Sum.inr.injEq, ↓reduceIte, exists_eq_left, D_6, R_6, X_6, F_6_56, J_6_9, J_6_13, I_6_37, J_6_25, I_6_59, V_aloadn0, V_iloadn2, V_iloadn3, V_aloadn1, G_3_2, T_0, V_istore4, V_iload4, b_6_0, b_6_16, b_6_37, s_4, h4, s_7])
  repeat' first
    | (refine V_icmp_eq.mpr ?_; first | rw [if_pos (by omega)] | rw [if_neg (by omega)] | split)
    | (refine V_icmp_lt.mpr ?_; first | rw [if_pos (by omega)] | rw [if_neg (by omega)] | split)
    | (simp (disch := omega) only [up_f, up_s, up_i, up_k, up_e, V_iconst, V_bipush, V_sipush, V_conti, V_contn, V_goto, Option.some.injEq, exists_eq_left', true_and, and_true, m_fit, Option.isSome_some, List.map_nil, List.map_cons, List.sum_nil, List.sum_cons, List.all_nil, List.all_cons, m_cat, decide_true, Bool.and_true, Bool.true_and, Nat.zero_le, Int.toNat_natCast, Int.reduceAdd, Int.reduceSub, Int.reduceMul, Int.reduceNeg, Int.reduceLE, Int.reduceLT, Nat.reduceAdd, Nat.reduceLeDiff, Int.reduceToNat, Int.reduceEq, decide_eq_true_eq, true_or, or_true, exists_and_left, and_self, Nat.reduceMul, Nat.reduceSub, Nat.reduceLT, m_oa, Nat.reduceEqDiff, or_false, false_or, Sum.inl.injEq, Sum.inr.injEq, ↓reduceIte, exists_eq_left, D_6, R_6, X_6, F_6_56, J_6_9, J_6_13, I_6_37, J_6_25, I_6_59, V_aloadn0, V_iloadn2, V_iloadn3, V_aloadn1, G_3_2, T_0, V_istore4, V_iload4, b_6_0, b_6_16, b_6_37, s_4, s_7, if_neg (show ¬ (1 : Int) = 0 by decide)])
  all_goals (refine hd _ ?_; simp_all)
theorem s_8 {p c r b : Nat} (hp : p < 40) (hc : c < 10) (hr : r < 6) (hb : b < 3) (h1 : S 1304 p 0 = c) (h2 : S 1305 p 0 = r) (h3 : S 1306 p 0 = b) (Q : MOut → MHp → Prop) : m_do xs L 8 [vR 253, vR (pe p)] (mk S e) Q ↔ Q (.inl none) (mk (up (up (up (up S 40 0 (18 * c + 3 * r + b) (-1)) 1304 p 0 (-1)) 1305 p 0 (-1)) 1306 p 0 (-1)) (e)) := by
  refine m_do_eq ?_ Q
  repeat' first
    | (simp (disch := omega) only [up_f, up_s, up_i, up_k, up_e, V_iconst, V_bipush, V_sipush, V_conti, V_contn, V_goto, Option.some.injEq, exists_eq_left', true_and, and_true, m_fit, Option.isSome_some, List.map_nil, List.map_cons, List.sum_nil, List.sum_cons, List.all_nil, List.all_cons, m_cat, decide_true, Bool.and_true, Bool.true_and, Nat.zero_le, Int.toNat_natCast, Int.reduceAdd, Int.reduceSub, Int.reduceMul, Int.reduceNeg, Int.reduceLE, Int.reduceLT, Nat.reduceAdd, Nat.reduceLeDiff, Int.reduceToNat, Int.reduceEq, decide_eq_true_eq, true_or, or_true, exists_and_left, and_self, Nat.reduceMul, Nat.reduceSub, Nat.reduceLT, m_oa, Nat.reduceEqDiff, or_false, false_or, Sum.inl.injEq, Sum.inr.injEq, ↓reduceIte, exists_eq_left, D_8, R_8, X_8, F_8_21, F_8_63, F_8_66, F_8_69, I_8_45, W_8_63, W_8_66, W_8_69, V_aloadn0, G_0_2, A_255, T_a255, B_255, V_aloadn1, G_3_4, G_3_5, G_3_6, U_iastore, P_3_4, P_3_5, P_3_6, b_8_0, s_1, bxk, h1, h2, h3])
theorem s_10n {p q : Nat} (hp : p < 40) (hq : q < 40) (h : S 1304 p 0 = -1 ∨ S 1304 q 0 = -1) (Q : MOut → MHp → Prop) : m_do xs L 10 [vR 253, vR (pe p), vR (pe q)] (mk S e) Q ↔ Q (.inl (some (vI 0))) (mk (S) (e)) := by
  refine m_do_eq ?_ Q
  repeat' first
    | (refine V_icmp_eq.mpr ?_; first | rw [if_pos (by omega)] | rw [if_neg (by omega)] | split)
    | (refine V_if_eq.mpr ?_; first | rw [if_pos (by omega)] | rw [if_neg (by omega)] | split)
    | (simp (disch := omega) only [up_f, up_s, up_i, up_k, up_e, V_iconst, V_bipush, V_sipush, V_conti, V_contn, V_goto, Option.some.injEq, exists_eq_left', true_and, and_true, m_fit, Option.isSome_some, List.map_nil, List.map_cons, List.sum_nil, List.sum_cons, List.all_nil, List.all_cons, m_cat, decide_true, Bool.and_true, Bool.true_and, Nat.zero_le, Int.toNat_natCast, Int.reduceAdd, Int.reduceSub, Int.reduceMul, Int.reduceNeg, Int.reduceLE, Int.reduceLT, Nat.reduceAdd, Nat.reduceLeDiff, Int.reduceToNat, Int.reduceEq, decide_eq_true_eq, true_or, or_true, exists_and_left, and_self, Nat.reduceMul, Nat.reduceSub, Nat.reduceLT, m_oa, Nat.reduceEqDiff, or_false, false_or, Sum.inl.injEq, Sum.inr.injEq, ↓reduceIte, exists_eq_left, D_10, R_10, X_10, F_10_63, J_10_5, J_10_13, F_10_66, F_10_49, F_10_53, F_10_72, I_10_41, J_10_40, J_10_67, J_10_71, V_aloadn1, G_3_4, V_aloadn2, V_aloadn0, G_3_5, G_3_1, G_3_3, G_3_0, T_0, b_10_0, b_10_74, b_10_75])
  all_goals (exfalso; omega)
theorem s_10 {p q c r b c2 r2 b2 : Nat} (hp : p < 40) (hq : q < 40) (h1 : S 1304 p 0 = c) (h2 : S 1305 p 0 = r) (h3 : S 1306 p 0 = b) (k1 : S 1304 q 0 = c2) (k2 : S 1305 q 0 = r2) (k3 : S 1306 q 0 = b2) (hc : c < 10) (hr : r < 6) (hb : b < 3) (hc2 : c2 < 10) (hr2 : r2 < 6) (hb2 : b2 < 3) (hs : ∀ x, x < 180 → -1 ≤ S 40 0 x ∧ S 40 0 x < 40) (Q : MOut → MHp → Prop) : m_do xs L 10 [vR 253, vR (pe p), vR (pe q)] (mk S e) Q ↔ Q (.inl (some (vI (if (¬ hx (S 40 0) (fun q => S 1301 q 0) (18 * c + 3 * r) (S 1300 p 0) (S 1301 q 0) = 0 ∨ ¬ hx (S 40 0) (fun q => S 1303 q 0) (18 * c + 3 * r) (S 1300 p 0) (S 1303 q 0) = 0) ∧ (¬ hx (S 40 0) (fun q => S 1301 q 0) (18 * c2 + 3 * r2) (S 1300 q 0) (S 1301 p 0) = 0 ∨ ¬ hx (S 40 0) (fun q => S 1303 q 0) (18 * c2 + 3 * r2) (S 1300 q 0) (S 1303 p 0) = 0) then 1 else 0)))) (mk (S) (e)) := by
  refine m_do_eq ?_ Q
  repeat' first
    | (refine V_icmp_eq.mpr ?_; first | rw [if_pos (by omega)] | rw [if_neg (by omega)] | split)
    | (refine V_if_eq.mpr ?_; first | rw [if_pos (by omega)] | rw [if_neg (by omega)] | split)
    | (simp (disch := omega) only [up_f, up_s, up_i, up_k, up_e, V_iconst, V_bipush, V_sipush, V_conti, V_contn, V_goto, Option.some.injEq, exists_eq_left', true_and, and_true, m_fit, Option.isSome_some, List.map_nil, List.map_cons, List.sum_nil, List.sum_cons, List.all_nil, List.all_cons, m_cat, decide_true, Bool.and_true, Bool.true_and, Nat.zero_le, Int.toNat_natCast, Int.reduceAdd, Int.reduceSub, Int.reduceMul, Int.reduceNeg, Int.reduceLE, Int.reduceLT, Nat.reduceAdd, Nat.reduceLeDiff, Int.reduceToNat, Int.reduceEq, decide_eq_true_eq, true_or, or_true, exists_and_left, and_self, Nat.reduceMul, Nat.reduceSub, Nat.reduceLT, m_oa, Nat.reduceEqDiff, or_false, false_or, Sum.inl.injEq, Sum.inr.injEq, ↓reduceIte, exists_eq_left, D_10, R_10, X_10, F_10_63, J_10_5, J_10_13, F_10_66, F_10_49, F_10_53, F_10_72, I_10_41, J_10_40, J_10_67, J_10_71, V_aloadn1, G_3_4, V_aloadn2, V_aloadn0, G_3_5, G_3_1, G_3_3, G_3_0, T_0, b_10_0, b_10_74, b_10_75, s_5, h1, h2, k1, k2])
  all_goals simp_all
theorem s_11 {p q c r b c2 r2 b2 : Nat} (hp : p < 40) (hq : q < 40) (hpq : ¬ p = q) (h1 : S 1304 p 0 = c) (h2 : S 1305 p 0 = r) (h3 : S 1306 p 0 = b) (k1 : S 1304 q 0 = c2) (k2 : S 1305 q 0 = r2) (k3 : S 1306 q 0 = b2) (hc : c < 10) (hr : r < 6) (hb : b < 3) (hc2 : c2 < 10) (hr2 : r2 < 6) (hb2 : b2 < 3) (Q : MOut → MHp → Prop) : m_do xs L 11 [vR 253, vR (pe p), vR (pe q)] (mk S e) Q ↔ Q (.inl none) (mk (up (up (up (up (up (up (up (up S 1304 p 0 c2) 1305 p 0 r2) 1306 p 0 b2) 40 0 (18 * c2 + 3 * r2 + b2) (S 1300 p 0)) 1304 q 0 c) 1305 q 0 r) 1306 q 0 b) 40 0 (18 * c + 3 * r + b) (S 1300 q 0)) (e)) := by
  refine m_do_eq ?_ Q
  repeat' first
    | (simp (disch := omega) only [up_f, up_s, up_i, up_k, up_e, V_iconst, V_bipush, V_sipush, V_conti, V_contn, V_goto, Option.some.injEq, exists_eq_left', true_and, and_true, m_fit, Option.isSome_some, List.map_nil, List.map_cons, List.sum_nil, List.sum_cons, List.all_nil, List.all_cons, m_cat, decide_true, Bool.and_true, Bool.true_and, Nat.zero_le, Int.toNat_natCast, Int.reduceAdd, Int.reduceSub, Int.reduceMul, Int.reduceNeg, Int.reduceLE, Int.reduceLT, Nat.reduceAdd, Nat.reduceLeDiff, Int.reduceToNat, Int.reduceEq, decide_eq_true_eq, true_or, or_true, exists_and_left, and_self, Nat.reduceMul, Nat.reduceSub, Nat.reduceLT, m_oa, Nat.reduceEqDiff, or_false, false_or, Sum.inl.injEq, Sum.inr.injEq, ↓reduceIte, exists_eq_left, D_11, R_11, X_11, F_11_63, F_11_66, F_11_69, I_11_59, V_aloadn1, G_3_4, V_istoren3, G_3_5, V_istore4, G_3_6, V_istore5, V_aloadn0, V_aloadn2, T_0, V_iloadn3, V_iload4, V_iload5, b_11_0, s_7, h1, h2, h3, k1, k2, k3])
end V
