/-! ===== rooms and beds in the model ===== -/
theorem m_div_eq {a b : Int} (ha : 0 ≤ a ∧ a < 2147483648) (hb : 0 < b ∧ b < 2147483648) : m_div a b = a / b := by
  have h0 : 0 ≤ a / b := Int.ediv_nonneg ha.1 (by omega)
  have h1 : a / b ≤ a := Int.ediv_le_self b ha.1
  unfold m_div
  rw [Int32.toInt_div, m_i ⟨by omega, by omega⟩, m_i ⟨by omega, by omega⟩, Int.tdiv_eq_ediv_of_nonneg ha.1]
  exact Int.bmod_eq_of_le (by simp; omega) (by simp; omega)
theorem m_rem_eq {a b : Int} (ha : 0 ≤ a ∧ a < 2147483648) (hb : 0 < b ∧ b < 2147483648) : m_rem a b = a % b := by
  have hd : Int32.ofInt a / Int32.ofInt b = Int32.ofInt (a / b) := by
    rw [← m_div_eq ha hb]
    unfold m_div
    rw [Int32.ofInt_toInt]
  have h2 : a - a / b * b = a % b := by rw [Int.emod_def, Int.mul_comm]
  have h3 : 0 ≤ a % b := Int.emod_nonneg a (by omega)
  have h4 : a % b < b := Int.emod_lt_of_pos a hb.1
  unfold m_rem
  rw [hd, ← Int32.ofInt_mul, ← Int32.ofInt_sub, h2]
  exact m_i ⟨by omega, by omega⟩
section V
variable {xs : Nat → Int32} {L : Nat} {S : Sg} {e : Nat}
theorem bmk {c r k : Nat} : (18 * (c : Int) + 3 * (r : Int) + (k : Int)).toNat = 18 * c + 3 * r + k := by omega
def wo1 (n w : Int) (x : Int) : Int := if n = -1 then x else x + (if w = 0 then 0 else 1)
def al1 (n x : Int) : Int := if n = -1 then x else x + 1
def pa1 (n p x : Int) : Int := if n = -1 then x else p
def on1 (n p pa x : Int) : Int := if n = -1 then x else if ¬ x = 0 ∧ (pa = -1 ∨ p = pa) then 1 else 0
def mhP (S : Sg) (B : Nat) (w0 p0 : Int) : Prop :=
  let n := fun k => S 78 0 (B + k)
  let w := fun k => S 72 0 (n k).toNat
  let p := fun k => S 74 0 (n k).toNat
  let pa0 := if w0 = -1 then -1 else p0
  let pa1' := pa1 (n 0) (p 0) pa0
  let pa2' := pa1 (n 1) (p 1) pa1'
  ¬ on1 (n 2) (p 2) pa2' (on1 (n 1) (p 1) pa1' (on1 (n 0) (p 0) pa0 1)) = 0 ∨ wo1 (n 2) (w 2) (wo1 (n 1) (w 1) (wo1 (n 0) (w 0) (if w0 = 1 then 1 else 0))) = 0 ∨
    wo1 (n 2) (w 2) (wo1 (n 1) (w 1) (wo1 (n 0) (w 0) (if w0 = 1 then 1 else 0))) = al1 (n 2) (al1 (n 1) (al1 (n 0) (if w0 = -1 then 0 else 1)))
noncomputable def mh (S : Sg) (B : Nat) (w0 p0 : Int) : Int := @ite _ (mhP S B w0 p0) (Classical.propDecidable _) 1 0
theorem wo1_ran {n w x m : Int} (h : 0 ≤ x ∧ x ≤ m) : 0 ≤ wo1 n w x ∧ wo1 n w x ≤ m + 1 := by
  unfold wo1
  split
  · omega
  · split <;> omega
theorem al1_ran {n x m : Int} (h : 0 ≤ x ∧ x ≤ m) : 0 ≤ al1 n x ∧ al1 n x ≤ m + 1 := by
  unfold al1
  split <;> omega
theorem le100 {x m : Int} (h : 0 ≤ x ∧ x ≤ m) (hm : m ≤ 100) : 0 ≤ x ∧ x ≤ 100 := by omega
theorem s_131 {p c r b : Nat} (hp : p < 40) (hc : c < 10) (hr : r < 6) (hb : b < 3) (h1 : S 76 0 p = c) (h2 : S 77 0 p = 10 * r + b) (Q : MOut → MHp → Prop) : m_do xs L 131 [vR 296, vI p] (mk S e) Q ↔ Q (.inl (some (vI (18 * c + 3 * r + b)))) (mk (S) (e)) := by
  refine m_do_eq ?_ Q
  repeat' first
    | (simp (disch := omega) only [up_f, up_s, up_i, up_k, up_e, V_iconst, V_bipush, V_sipush, V_conti, V_contn, V_goto, Option.some.injEq, exists_eq_left', true_and, and_true, m_fit, Option.isSome_some, List.map_nil, List.map_cons, List.sum_nil, List.sum_cons, List.all_nil, List.all_cons, m_cat, decide_true, Bool.and_true, Bool.true_and, Nat.zero_le, Int.toNat_natCast, Int.reduceAdd, Int.reduceSub, Int.reduceMul, Int.reduceNeg, Int.reduceLE, Int.reduceLT, Nat.reduceAdd, Nat.reduceLeDiff, Int.reduceToNat, Int.reduceEq, decide_eq_true_eq, true_or, or_true, exists_and_left, and_self, Nat.reduceMul, Nat.reduceSub, Nat.reduceLT, m_oa, Nat.reduceEqDiff, or_false, false_or, Sum.inl.injEq, Sum.inr.injEq, ↓reduceIte, exists_eq_left, D_131, R_131, X_131, F_131_89, F_131_92, V_aloadn0, G_10_31, A_323, T_a323, B_323, V_iloadn1, U_iaload, V_imul, m_mul_eq, G_10_32, A_324, T_a324, B_324, V_idiv, V_iadd, m_add_eq, V_irem, b_131_0, h1, h2, m_div_eq, m_rem_eq])
  all_goals (simp; omega)
theorem l_127 {c r k : Nat} {kk w0 p0 wo al pa on : Int} {v : MV} {Q : MOut → MHp → Prop} (hc : c < 10) (hr : r < 6) (hk : k < 3) (hkk : kk = k) (hs : -1 ≤ (S 78 0 (18 * c + 3 * r + k)) ∧ (S 78 0 (18 * c + 3 * r + k)) < 40) (hw : 0 ≤ wo ∧ wo ≤ 100) (ha : 0 ≤ al ∧ al ≤ 100)
    (K : m_ok xs L 127 b_127_43 [vR 296, vI c, vI r, vI w0, vI p0, vI (wo1 (S 78 0 (18 * c + 3 * r + k)) (S 72 0 (S 78 0 (18 * c + 3 * r + k)).toNat) wo), vI (al1 (S 78 0 (18 * c + 3 * r + k)) al), vI (pa1 (S 78 0 (18 * c + 3 * r + k)) (S 74 0 (S 78 0 (18 * c + 3 * r + k)).toNat) pa), vI (on1 (S 78 0 (18 * c + 3 * r + k)) (S 74 0 (S 78 0 (18 * c + 3 * r + k)).toNat) pa on), vI (kk + 1), vI (S 78 0 (18 * c + 3 * r + k))] [] (mk S e) Q) : m_ok xs L 127 b_127_43 [vR 296, vI c, vI r, vI w0, vI p0, vI wo, vI al, vI pa, vI on, vI kk, v] [] (mk S e) Q := by
  subst hkk
  unfold b_127_43
  repeat' first
    | (refine V_icmp_eq.mpr ?_; first | rw [if_pos (by omega)] | rw [if_neg (by omega)] | split)
    | (refine V_icmp_ge.mpr ?_; first | rw [if_pos (by omega)] | rw [if_neg (by omega)] | split)
    | (refine V_icmp_ne.mpr ?_; first | rw [if_pos (by omega)] | rw [if_neg (by omega)] | split)
    | (refine V_if_eq.mpr ?_; first | rw [if_pos (by omega)] | rw [if_neg (by omega)] | split)
    | (refine V_if_ne.mpr ?_; first | rw [if_pos (by omega)] | rw [if_neg (by omega)] | split)
    | (simp (disch := omega) only [up_f, up_s, up_i, up_k, up_e, V_iconst, V_bipush, V_sipush, V_conti, V_contn, V_goto, Option.some.injEq, exists_eq_left', true_and, and_true, m_fit, Option.isSome_some, List.map_nil, List.map_cons, List.sum_nil, List.sum_cons, List.all_nil, List.all_cons, m_cat, decide_true, Bool.and_true, Bool.true_and, Nat.zero_le, Int.toNat_natCast, Int.reduceAdd, Int.reduceSub, Int.reduceMul, Int.reduceNeg, Int.reduceLE, Int.reduceLT, Nat.reduceAdd, Nat.reduceLeDiff, Int.reduceToNat, Int.reduceEq, decide_eq_true_eq, true_or, or_true, exists_and_left, and_self, Nat.reduceMul, Nat.reduceSub, Nat.reduceLT, m_oa, Nat.reduceEqDiff, or_false, false_or, Sum.inl.injEq, Sum.inr.injEq, ↓reduceIte, exists_eq_left, D_127, R_127, X_127, J_127_2, J_127_6, J_127_14, J_127_18, J_127_26, J_127_30, J_127_46, F_127_95, J_127_70, F_127_77, J_127_82, J_127_86, J_127_98, J_127_104, F_127_83, J_127_116, J_127_120, J_127_138, J_127_143, J_127_148, J_127_155, J_127_159, V_iloadn3, V_istore5, V_istore6, V_iload4, V_istore7, V_istore8, V_istore9, V_iload9, V_aloadn0, G_10_33, A_325, T_a325, B_325, V_iloadn1, V_imul, m_mul_eq, V_iloadn2, V_iadd, m_add_eq, U_iaload, V_istore10, V_iload10, V_iload5, G_10_27, A_319, T_a319, B_319, U_baload, V_iinc6, V_iload8, V_iload7, G_10_29, A_321, T_a321, B_321, V_iinc9, V_iload6, b_127_0, b_127_9, b_127_10, b_127_21, b_127_22, b_127_33, b_127_35, b_127_89, b_127_90, b_127_119, b_127_123, b_127_124, b_127_135, b_127_141, b_127_158, b_127_162, b_127_163, bmk, Int.add_zero])
  all_goals (refine cast ?_ K; simp_all [wo1, al1, pa1, on1])
theorem s_127 {c r : Nat} {w p : Int} (hc : c < 10) (hr : r < 6) (hs : ∀ x, x < 180 → -1 ≤ S 78 0 x ∧ S 78 0 x < 40) (Q : MOut → MHp → Prop) : m_do xs L 127 [vR 296, vI c, vI r, vI w, vI p] (mk S e) Q ↔ Q (.inl (some (vI (mh S (18 * c + 3 * r) w p)))) (mk S e) := by
  refine m_do_eq ?_ Q
  repeat' first
    | (refine V_icmp_eq.mpr ?_; first | rw [if_pos (by omega)] | rw [if_neg (by omega)] | split)
    | (refine V_icmp_ge.mpr ?_; first | rw [if_pos (by omega)] | rw [if_neg (by omega)] | split)
    | (refine V_icmp_ne.mpr ?_; first | rw [if_pos (by omega)] | rw [if_neg (by omega)] | split)
    | (refine V_if_eq.mpr ?_; first | rw [if_pos (by omega)] | rw [if_neg (by omega)] | split)
    | (refine V_if_ne.mpr ?_; first | rw [if_pos (by omega)] | rw [if_neg (by omega)] | split)
    | (simp (disch := omega) only [up_f, up_s, up_i, up_k, up_e, V_iconst, V_bipush, V_sipush, V_conti, V_contn, V_goto, Option.some.injEq, exists_eq_left', true_and, and_true, m_fit, Option.isSome_some, List.map_nil, List.map_cons, List.sum_nil, List.sum_cons, List.all_nil, List.all_cons, m_cat, decide_true, Bool.and_true, Bool.true_and, Nat.zero_le, Int.toNat_natCast, Int.reduceAdd, Int.reduceSub, Int.reduceMul, Int.reduceNeg, Int.reduceLE, Int.reduceLT, Nat.reduceAdd, Nat.reduceLeDiff, Int.reduceToNat, Int.reduceEq, decide_eq_true_eq, true_or, or_true, exists_and_left, and_self, Nat.reduceMul, Nat.reduceSub, Nat.reduceLT, m_oa, Nat.reduceEqDiff, or_false, false_or, Sum.inl.injEq, Sum.inr.injEq, ↓reduceIte, exists_eq_left, D_127, R_127, X_127, J_127_2, J_127_6, J_127_14, J_127_18, J_127_26, J_127_30, J_127_46, F_127_95, J_127_70, F_127_77, J_127_82, J_127_86, J_127_98, J_127_104, F_127_83, J_127_116, J_127_120, J_127_138, J_127_143, J_127_148, J_127_155, J_127_159, V_iloadn3, V_istore5, V_istore6, V_iload4, V_istore7, V_istore8, V_istore9, V_iload9, V_aloadn0, G_10_33, A_325, T_a325, B_325, V_iloadn1, V_imul, m_mul_eq, V_iloadn2, V_iadd, m_add_eq, U_iaload, V_istore10, V_iload10, V_iload5, G_10_27, A_319, T_a319, B_319, U_baload, V_iinc6, V_iload8, V_iload7, G_10_29, A_321, T_a321, B_321, V_iinc9, V_iload6, b_127_0, b_127_9, b_127_10, b_127_21, b_127_22, b_127_33, b_127_35, b_127_89, b_127_90, b_127_119, b_127_123, b_127_124, b_127_135, b_127_141, b_127_158, b_127_162, b_127_163])
  all_goals
    refine l_127 (k := 0) hc hr (by omega) rfl (hs _ (by omega)) (by omega) (by omega) ?_
    refine l_127 (k := 1) hc hr (by omega) rfl (hs _ (by omega)) (le100 (wo1_ran (m := 1) (by omega)) (by omega)) (le100 (al1_ran (m := 1) (by omega)) (by omega)) ?_
    refine l_127 (k := 2) hc hr (by omega) rfl (hs _ (by omega)) (le100 (wo1_ran (wo1_ran (m := 1) (by omega))) (by omega)) (le100 (al1_ran (al1_ran (m := 1) (by omega))) (by omega)) ?_
    unfold b_127_43
  repeat' first
    | (refine V_icmp_eq.mpr ?_; first | rw [if_pos (by omega)] | rw [if_neg (by omega)] | split)
    | (refine V_icmp_ge.mpr ?_; first | rw [if_pos (by omega)] | rw [if_neg (by omega)] | split)
    | (refine V_icmp_ne.mpr ?_; first | rw [if_pos (by omega)] | rw [if_neg (by omega)] | split)
    | (refine V_if_eq.mpr ?_; first | rw [if_pos (by omega)] | rw [if_neg (by omega)] | split)
    | (refine V_if_ne.mpr ?_; first | rw [if_pos (by omega)] | rw [if_neg (by omega)] | split)
    | (simp (disch := omega) only [up_f, up_s, up_i, up_k, up_e, V_iconst, V_bipush, V_sipush, V_conti, V_contn, V_goto, Option.some.injEq, exists_eq_left', true_and, and_true, m_fit, Option.isSome_some, List.map_nil, List.map_cons, List.sum_nil, List.sum_cons, List.all_nil, List.all_cons, m_cat, decide_true, Bool.and_true, Bool.true_and, Nat.zero_le, Int.toNat_natCast, Int.reduceAdd, Int.reduceSub, Int.reduceMul, Int.reduceNeg, Int.reduceLE, Int.reduceLT, Nat.reduceAdd, Nat.reduceLeDiff, Int.reduceToNat, Int.reduceEq, decide_eq_true_eq, true_or, or_true, exists_and_left, and_self, Nat.reduceMul, Nat.reduceSub, Nat.reduceLT, m_oa, Nat.reduceEqDiff, or_false, false_or, Sum.inl.injEq, Sum.inr.injEq, ↓reduceIte, exists_eq_left, D_127, R_127, X_127, J_127_2, J_127_6, J_127_14, J_127_18, J_127_26, J_127_30, J_127_46, F_127_95, J_127_70, F_127_77, J_127_82, J_127_86, J_127_98, J_127_104, F_127_83, J_127_116, J_127_120, J_127_138, J_127_143, J_127_148, J_127_155, J_127_159, V_iloadn3, V_istore5, V_istore6, V_iload4, V_istore7, V_istore8, V_istore9, V_iload9, V_aloadn0, G_10_33, A_325, T_a325, B_325, V_iloadn1, V_imul, m_mul_eq, V_iloadn2, V_iadd, m_add_eq, U_iaload, V_istore10, V_iload10, V_iload5, G_10_27, A_319, T_a319, B_319, U_baload, V_iinc6, V_iload8, V_iload7, G_10_29, A_321, T_a321, B_321, V_iinc9, V_iload6, b_127_0, b_127_9, b_127_10, b_127_21, b_127_22, b_127_33, b_127_35, b_127_89, b_127_90, b_127_119, b_127_123, b_127_124, b_127_135, b_127_141, b_127_158, b_127_162, b_127_163])
  all_goals simp_all [mh, mhP]
end V
