/-! ===== rooms and beds in the model ===== -/
theorem m_div_eq {a b : Int} (ha : 0 ≤ a ∧ a < 2147483648) (hb : 0 < b ∧ b < 2147483648) : m_div a b = a / b := by
  have h0 : 0 ≤ a / b := Int.ediv_nonneg ha.1 (by omega)
  have h1 : a / b ≤ a := Int.ediv_le_self b ha.1
  unfold m_div
  rw [Int32.toInt_div, m_i ⟨by omega, by omega⟩, m_i ⟨by omega, by omega⟩, Int.tdiv_eq_ediv_of_nonneg ha.1]
  exact Int.bmod_eq_of_le (by simp; omega) (by simp; omega)
theorem m_rem_eq {a b : Int} (ha : 0 ≤ a ∧ a < 2147483648) (hb : 0 < b ∧ b < 2147483648) : m_rem a b = a % b := by
  have hd : Int32.ofInt a / Int32.ofInt b = Int32.ofInt (a / b) := by
    rw [← m_div_eq ha hb]
    unfold m_div
    rw [Int32.ofInt_toInt]
  have h2 : a - a / b * b = a % b := by rw [Int.emod_def, Int.mul_comm]
  have h3 : 0 ≤ a % b := Int.emod_nonneg a (by omega)
  have h4 : a % b < b := Int.emod_lt_of_pos a hb.1
  unfold m_rem
  rw [hd, ← Int32.ofInt_mul, ← Int32.ofInt_sub, h2]
  exact m_i ⟨by omega, by omega⟩
section V
variable {xs : Nat → Int32} {L : Nat} {S : Sg} {e : Nat}
theorem bmk {c r k : Nat} : (18 * (c : Int) + 3 * (r : Int) + (k : Int)).toNat = 18 * c + 3 * r + k := by omega
def wo1 (n w : Int) (x : Int) : Int := if n = -1 then x else x + (if w = 0 then 0 else 1)
def al1 (n x : Int) : Int := if n = -1 then x else x + 1
def pa1 (n p x : Int) : Int := if n = -1 then x else p
def on1 (n p pa x : Int) : Int := if n = -1 then x else if ¬ x = 0 ∧ (pa = -1 ∨ p = pa) then 1 else 0
def mhP (S : Sg) (B : Nat) (w0 p0 : Int) : Prop :=
  let n := fun k => S 78 0 (B + k)
  let w := fun k => S 72 0 (n k).toNat
  let p := fun k => S 74 0 (n k).toNat
  let pa0 := if w0 = -1 then -1 else p0
  let pa1' := pa1 (n 0) (p 0) pa0
  let pa2' := pa1 (n 1) (p 1) pa1'
  ¬ on1 (n 2) (p 2) pa2' (on1 (n 1) (p 1) pa1' (on1 (n 0) (p 0) pa0 1)) = 0 ∨ wo1 (n 2) (w 2) (wo1 (n 1) (w 1) (wo1 (n 0) (w 0) (if w0 = 1 then 1 else 0))) = 0 ∨
    wo1 (n 2) (w 2) (wo1 (n 1) (w 1) (wo1 (n 0) (w 0) (if w0 = 1 then 1 else 0))) = al1 (n 2) (al1 (n 1) (al1 (n 0) (if w0 = -1 then 0 else 1)))
noncomputable def mh (S : Sg) (B : Nat) (w0 p0 : Int) : Int := @ite _ (mhP S B w0 p0) (Classical.propDecidable _) 1 0
theorem wo1_ran {n w x m : Int} (h : 0 ≤ x ∧ x ≤ m) : 0 ≤ wo1 n w x ∧ wo1 n w x ≤ m + 1 := by
  unfold wo1
  split
  · omega
  · split <;> omega
theorem al1_ran {n x m : Int} (h : 0 ≤ x ∧ x ≤ m) : 0 ≤ al1 n x ∧ al1 n x ≤ m + 1 := by
  unfold al1
  split <;> omega
theorem le100 {x m : Int} (h : 0 ≤ x ∧ x ≤ m) (hm : m ≤ 100) : 0 ≤ x ∧ x ≤ 100 := by omega
theorem s_131 {p c r b : Nat} (hp : p < 40) (hc : c < 10) (hr : r < 6) (hb : b < 3) (h1 : S 76 0 p = c) (h2 : S 77 0 p = 10 * r + b) (Q : MOut → MHp → Prop) : m_do xs L 131 [vR 296, vI p] (mk S e) Q ↔ Q (.inl (some (vI (18 * c + 3 * r + b)))) (mk (S) (e)) := by
  refine m_do_eq ?_ Q
  repeat' first
    | (simp (disch := omega) only [up_f, up_s, up_i, up_k, up_e, V_iconst, V_bipush, V_sipush, V_conti, V_contn, V_goto, Option.some.injEq, exists_eq_left', true_and, and_true, m_fit, Option.isSome_some, List.map_nil, List.map_cons, List.sum_nil, List.sum_cons, List.all_nil, List.all_cons, m_cat, decide_true, Bool.and_true, Bool.true_and, Nat.zero_le, Int.toNat_natCast, Int.reduceAdd, Int.reduceSub, Int.reduceMul, Int.reduceNeg, Int.reduceLE, Int.reduceLT, Nat.reduceAdd, Nat.reduceLeDiff, Int.reduceToNat, Int.reduceEq, decide_eq_true_eq, true_or, or_true, exists_and_left, and_self, Nat.reduceMul, Nat.reduceSub, Nat.reduceLT, m_oa, Nat.reduceEqDiff, or_false, false_or, Sum.inl.injEq, Sum.inr.injEq, ↓reduceIte, exists_eq_left, D_131, R_131, X_131, F_131_89, F_131_92, V_aloadn0, G_10_31, A_323, T_a323, B_323, V_iloadn1, U_iaload, V_imul, m_mul_eq, G_10_32, A_324, T_a324, B_324, V_idiv, V_iadd, m_add_eq, V_irem, b_131_0, h1, h2, m_div_eq, m_rem_eq])
  all_goals (simp; omega)
theorem l_127 {c r k : Nat} {kk w0 p0 wo al pa on : Int} {v : MV} {Q : MOut → MHp → Prop} (hc : c < 10) (hr : r < 6) (hk : k < 3) (hkk : kk = k) (hs : -1 ≤ (S 78 0 (18 * c + 3 * r + k)) ∧ (S 78 0 (18 * c + 3 * r + k)) < 40) (hw : 0 ≤ wo ∧ wo ≤ 100) (ha : 0 ≤ al ∧ al ≤ 100)
    (K : m_ok xs L 127 b_127_43 [vR 296, vI c, vI r, vI w0, vI p0, vI (wo1 (S 78 0 (18 * c + 3 * r + k)) (S 72 0 (S 78 0 (18 * c + 3 * r + k)).toNat) wo), vI (al1 (S 78 0 (18 * c + 3 * r + k)) al), vI (pa1 (S 78 0 (18 * c + 3 * r + k)) (S 74 0 (S 78 0 (18 * c + 3 * r + k)).toNat) pa), vI (on1 (S 78 0 (18 * c + 3 * r + k)) (S 74 0 (S 78 0 (18 * c + 3 * r + k)).toNat) pa on), vI (kk + 1), vI (S 78 0 (18 * c + 3 * r + k))] [] (mk S e) Q) : m_ok xs L 127 b_127_43 [vR 296, vI c, vI r, vI w0, vI p0, vI wo, vI al, vI pa, vI on, vI kk, v] [] (mk S e) Q := by
  subst hkk
  unfold b_127_43
  repeat' first
    | (refine V_icmp_eq.mpr ?_; first | rw [if_pos (by omega)] | rw [if_neg (by omega)] | split)
    | (refine V_icmp_ge.mpr ?_; first | rw [if_pos (by omega)] | rw [if_neg (by omega)] | split)
    | (refine V_icmp_ne.mpr ?_; first | rw [if_pos (by omega)] | rw [if_neg (by omega)] | split)
    | (refine V_if_eq.mpr ?_; first | rw [if_pos (by omega)] | rw [if_neg (by omega)] | split)
    | (refine V_if_ne.mpr ?_; first | rw [if_pos (by omega)] | rw [if_neg (by omega)] | split)
    | (simp (disch := omega) only [up_f, up_s, up_i, up_k, up_e, V_iconst, V_bipush, V_sipush, V_conti, V_contn, V_goto, Option.some.injEq, exists_eq_left', true_and, and_true, m_fit, Option.isSome_some, List.map_nil, List.map_cons, List.sum_nil, List.sum_cons, List.all_nil, List.all_cons, m_cat, decide_true, Bool.and_true, Bool.true_and, Nat.zero_le, Int.toNat_natCast, Int.reduceAdd, Int.reduceSub, Int.reduceMul, Int.reduceNeg, Int.reduceLE, Int.reduceLT, Nat.reduceAdd, Nat.reduceLeDiff, Int.reduceToNat, Int.reduceEq, decide_eq_true_eq, true_or, or_true, exists_and_left, and_self, Nat.reduceMul, Nat.reduceSub, Nat.reduceLT, m_oa, Nat.reduceEqDiff, or_false, false_or, Sum.inl.injEq, Sum.inr.injEq, ↓reduceIte, exists_eq_left, D_127, R_127, X_127, J_127_2, J_127_6, J_127_14, J_127_18, J_127_26, J_127_30, J_127_46, F_127_95, J_127_70, F_127_77, J_127_82, J_127_86, J_127_98, J_127_104, F_127_83, J_127_116, J_127_120, J_127_138, J_127_143, J_127_148, J_127_155, J_127_159, V_iloadn3, V_istore5, V_istore6, V_iload4, V_istore7, V_istore8, V_istore9, V_iload9, V_aloadn0, G_10_33, A_325, T_a325, B_325, V_iloadn1, V_imul, m_mul_eq, V_iloadn2, V_iadd, m_add_eq, U_iaload, V_istore10, V_iload10, V_iload5, G_10_27, A_319, T_a319, B_319, U_baload, V_iinc6, V_iload8, V_iload7, G_10_29, A_321, T_a321, B_321, V_iinc9, V_iload6, b_127_0, b_127_9, b_127_10, b_127_21, b_127_22, b_127_33, b_127_35, b_127_89, b_127_90, b_127_119, b_127_123, b_127_124, b_127_135, b_127_141, b_127_158, b_127_162, b_127_163, bmk, Int.add_zero])
  all_goals (refine cast ?_ K; simp_all [wo1, al1, pa1, on1])
theorem s_127 {c r : Nat} {w p : Int} (hc : c < 10) (hr : r < 6) (hs : ∀ x, x < 180 → -1 ≤ S 78 0 x ∧ S 78 0 x < 40) (Q : MOut → MHp → Prop) : m_do xs L 127 [vR 296, vI c, vI r, vI w, vI p] (mk S e) Q ↔ Q (.inl (some (vI (mh S (18 * c + 3 * r) w p)))) (mk S e) := by
  refine m_do_eq ?_ Q
  repeat' first
    | (refine V_icmp_eq.mpr ?_; first | rw [if_pos (by omega)] | rw [if_neg (by omega)] | split)
    | (refine V_icmp_ge.mpr ?_; first | rw [if_pos (by omega)] | rw [if_neg (by omega)] | split)
    | (refine V_icmp_ne.mpr ?_; first | rw [if_pos (by omega)] | rw [if_neg (by omega)] | split)
    | (refine V_if_eq.mpr ?_; first | rw [if_pos (by omega)] | rw [if_neg (by omega)] | split)
    | (refine V_if_ne.mpr ?_; first | rw [if_pos (by omega)] | rw [if_neg (by omega)] | split)
    | (simp (disch := omega) only [up_f, up_s, up_i, up_k, up_e, V_iconst, V_bipush, V_sipush, V_conti, V_contn, V_goto, Option.some.injEq, exists_eq_left', true_and, and_true, m_fit, Option.isSome_some, List.map_nil, List.map_cons, List.sum_nil, List.sum_cons, List.all_nil, List.all_cons, m_cat, decide_true, Bool.and_true, Bool.true_and, Nat.zero_le, Int.toNat_natCast, Int.reduceAdd, Int.reduceSub, Int.reduceMul, Int.reduceNeg, Int.reduceLE, Int.reduceLT, Nat.reduceAdd, Nat.reduceLeDiff, Int.reduceToNat, Int.reduceEq, decide_eq_true_eq, true_or, or_true, exists_and_left, and_self, Nat.reduceMul, Nat.reduceSub, Nat.reduceLT, m_oa, Nat.reduceEqDiff, or_false, false_or, Sum.inl.injEq, Sum.inr.injEq, ↓reduceIte, exists_eq_left, D_127, R_127, X_127, J_127_2, J_127_6, J_127_14, J_127_18, J_127_26, J_127_30, J_127_46, F_127_95, J_127_70, F_127_77, J_127_82, J_127_86, J_127_98, J_127_104, F_127_83, J_127_116, J_127_120, J_127_138, J_127_143, J_127_148, J_127_155, J_127_159, V_iloadn3, V_istore5, V_istore6, V_iload4, V_istore7, V_istore8, V_istore9, V_iload9, V_aloadn0, G_10_33, A_325, T_a325, B_325, V_iloadn1, V_imul, m_mul_eq, V_iloadn2, V_iadd, m_add_eq, U_iaload, V_istore10, V_iload10, V_iload5, G_10_27, A_319, T_a319, B_319, U_baload, V_iinc6, V_iload8, V_iload7, G_10_29, A_321, T_a321, B_321, V_iinc9, V_iload6, b_127_0, b_127_9, b_127_10, b_127_21, b_127_22, b_127_33, b_127_35, b_127_89, b_127_90, b_127_119, b_127_123, b_127_124, b_127_135, b_127_141, b_127_158, b_127_162, b_127_163])
  all_goals
    refine l_127 (k := 0) hc hr (by omega) rfl (hs _ (by omega)) (by omega) (by omega) ?_
    refine l_127 (k := 1) hc hr (by omega) rfl (hs _ (by omega)) (le100 (wo1_ran (m := 1) (by omega)) (by omega)) (le100 (al1_ran (m := 1) (by omega)) (by omega)) ?_
    refine l_127 (k := 2) hc hr (by omega) rfl (hs _ (by omega)) (le100 (wo1_ran (wo1_ran (m := 1) (by omega))) (by omega)) (le100 (al1_ran (al1_ran (m := 1) (by omega))) (by omega)) ?_
    unfold b_127_43
  repeat' first
    | (refine V_icmp_eq.mpr ?_; first | rw [if_pos (by omega)] | rw [if_neg (by omega)] | split)
    | (refine V_icmp_ge.mpr ?_; first | rw [if_pos (by omega)] | rw [if_neg (by omega)] | split)
    | (refine V_icmp_ne.mpr ?_; first | rw [if_pos (by omega)] | rw [if_neg (by omega)] | split)
    | (refine V_if_eq.mpr ?_; first | rw [if_pos (by omega)] | rw [if_neg (by omega)] | split)
    | (refine V_if_ne.mpr ?_; first | rw [if_pos (by omega)] | rw [if_neg (by omega)] | split)
    | (simp (disch := omega) only [up_f, up_s, up_i, up_k, up_e, V_iconst, V_bipush, V_sipush, V_conti, V_contn, V_goto, Option.some.injEq, exists_eq_left', true_and, and_true, m_fit, Option.isSome_some, List.map_nil, List.map_cons, List.sum_nil, List.sum_cons, List.all_nil, List.all_cons, m_cat, decide_true, Bool.and_true, Bool.true_and, Nat.zero_le, Int.toNat_natCast, Int.reduceAdd, Int.reduceSub, Int.reduceMul, Int.reduceNeg, Int.reduceLE, Int.reduceLT, Nat.reduceAdd, Nat.reduceLeDiff, Int.reduceToNat, Int.reduceEq, decide_eq_true_eq, true_or, or_true, exists_and_left, and_self, Nat.reduceMul, Nat.reduceSub, Nat.reduceLT, m_oa, Nat.reduceEqDiff, or_false, false_or, Sum.inl.injEq, Sum.inr.injEq, ↓reduceIte, exists_eq_left, D_127, R_127, X_127, J_127_2, J_127_6, J_127_14, J_127_18, J_127_26, J_127_30, J_127_46, F_127_95, J_127_70, F_127_77, J_127_82, J_127_86, J_127_98, J_127_104, F_127_83, J_127_116, J_127_120, J_127_138, J_127_143, J_127_148, J_127_155, J_127_159, V_iloadn3, V_istore5, V_istore6, V_iload4, V_istore7, V_istore8, V_istore9, V_iload9, V_aloadn0, G_10_33, A_325, T_a325, B_325, V_iloadn1, V_imul, m_mul_eq, V_iloadn2, V_iadd, m_add_eq, U_iaload, V_istore10, V_iload10, V_iload5, G_10_27, A_319, T_a319, B_319, U_baload, V_iinc6, V_iload8, V_iload7, G_10_29, A_321, T_a321, B_321, V_iinc9, V_iload6, b_127_0, b_127_9, b_127_10, b_127_21, b_127_22, b_127_33, b_127_35, b_127_89, b_127_90, b_127_119, b_127_123, b_127_124, b_127_135, b_127_141, b_127_158, b_127_162, b_127_163])
  all_goals simp_all [mh, mhP]
theorem mh_z {B : Nat} {w p : Int} : mh S B w p = 0 ↔ ¬ mhP S B w p := by
  unfold mh
  split <;> simp_all
def fitM (S : Sg) (c : Nat) (w p : Int) (r : Nat) : Prop := (S 78 0 (18 * c + 3 * r + 0) = -1 ∨ S 78 0 (18 * c + 3 * r + 1) = -1 ∨ S 78 0 (18 * c + 3 * r + 2) = -1) ∧ mhP S (18 * c + 3 * r) (if w = 0 then 0 else 1) p
theorem l_129 {c k : Nat} {kk w p f : Int} {Q : MOut → MHp → Prop} (hc : c < 10) (hk : k < 6) (hkk : kk = k) (hs : ∀ x, x < 180 → -1 ≤ S 78 0 x ∧ S 78 0 x < 40)
    (K : m_ok xs L 129 b_129_6 [vR 296, vI c, vI w, vI p, vI (@ite _ (fitM S c w p k) (Classical.propDecidable _) kk f), vI (kk - 1)] [] (mk S e) Q) : m_ok xs L 129 b_129_6 [vR 296, vI c, vI w, vI p, vI f, vI kk] [] (mk S e) Q := by
  subst hkk
  unfold b_129_6
  repeat' first
    | (refine V_if_eq.mpr ?_; first | rw [if_pos (by omega)] | rw [if_neg (by omega)] | split)
    | (refine V_if_lt.mpr ?_; first | rw [if_pos (by omega)] | rw [if_neg (by omega)] | split)
    | (simp (disch := omega) only [up_f, up_s, up_i, up_k, up_e, V_iconst, V_bipush, V_sipush, V_conti, V_contn, V_goto, Option.some.injEq, exists_eq_left', true_and, and_true, m_fit, Option.isSome_some, List.map_nil, List.map_cons, List.sum_nil, List.sum_cons, List.all_nil, List.all_cons, m_cat, decide_true, Bool.and_true, Bool.true_and, Nat.zero_le, Int.toNat_natCast, Int.reduceAdd, Int.reduceSub, Int.reduceMul, Int.reduceNeg, Int.reduceLE, Int.reduceLT, Nat.reduceAdd, Nat.reduceLeDiff, Int.reduceToNat, Int.reduceEq, decide_eq_true_eq, true_or, or_true, exists_and_left, and_self, Nat.reduceMul, Nat.reduceSub, Nat.reduceLT, m_oa, Nat.reduceEqDiff, or_false, false_or, Sum.inl.injEq, Sum.inr.injEq, ↓reduceIte, exists_eq_left, D_129, R_129, X_129, J_129_8, I_129_230, J_129_18, J_129_26, J_129_30, I_129_233, J_129_38, J_129_43, J_129_53, V_istore4, V_istore5, V_iload5, V_aloadn0, V_iloadn1, T_10, V_iloadn2, V_iloadn3, V_iload4, V_iinc5, m_add_eq, b_129_0, b_129_33, b_129_34, b_129_46, b_129_48, b_129_56, s_128, s_127])
  all_goals (refine cast ?_ K; simp_all [fitM, mh_z, Int.sub_eq_add_neg])
noncomputable def rfM (S : Sg) (c : Nat) (w p : Int) : Int := rf (fitM S c w p) (fun _ => Classical.propDecidable _)
theorem s_129 {c : Nat} {w p : Int} (hc : c < 10) (hs : ∀ x, x < 180 → -1 ≤ S 78 0 x ∧ S 78 0 x < 40) (Q : MOut → MHp → Prop) : m_do xs L 129 [vR 296, vI c, vI w, vI p] (mk S e) Q ↔ Q (.inl (some (vI (rfM S c w p)))) (mk S e) := by
  refine m_do_eq ?_ Q
  repeat' first
    | (refine V_if_eq.mpr ?_; first | rw [if_pos (by omega)] | rw [if_neg (by omega)] | split)
    | (refine V_if_lt.mpr ?_; first | rw [if_pos (by omega)] | rw [if_neg (by omega)] | split)
    | (simp (disch := omega) only [up_f, up_s, up_i, up_k, up_e, V_iconst, V_bipush, V_sipush, V_conti, V_contn, V_goto, Option.some.injEq, exists_eq_left', true_and, and_true, m_fit, Option.isSome_some, List.map_nil, List.map_cons, List.sum_nil, List.sum_cons, List.all_nil, List.all_cons, m_cat, decide_true, Bool.and_true, Bool.true_and, Nat.zero_le, Int.toNat_natCast, Int.reduceAdd, Int.reduceSub, Int.reduceMul, Int.reduceNeg, Int.reduceLE, Int.reduceLT, Nat.reduceAdd, Nat.reduceLeDiff, Int.reduceToNat, Int.reduceEq, decide_eq_true_eq, true_or, or_true, exists_and_left, and_self, Nat.reduceMul, Nat.reduceSub, Nat.reduceLT, m_oa, Nat.reduceEqDiff, or_false, false_or, Sum.inl.injEq, Sum.inr.injEq, ↓reduceIte, exists_eq_left, D_129, R_129, X_129, J_129_8, I_129_230, J_129_18, J_129_26, J_129_30, I_129_233, J_129_38, J_129_43, J_129_53, V_istore4, V_istore5, V_iload5, V_aloadn0, V_iloadn1, T_10, V_iloadn2, V_iloadn3, V_iload4, V_iinc5, m_add_eq, b_129_0, b_129_33, b_129_34, b_129_46, b_129_48, b_129_56])
  refine l_129 (k := 5) hc (by omega) rfl hs ?_
  refine l_129 (k := 4) hc (by omega) (by omega) hs ?_
  refine l_129 (k := 3) hc (by omega) (by omega) hs ?_
  refine l_129 (k := 2) hc (by omega) (by omega) hs ?_
  refine l_129 (k := 1) hc (by omega) (by omega) hs ?_
  refine l_129 (k := 0) hc (by omega) (by omega) hs ?_
  unfold b_129_6
  repeat' first
    | (refine V_if_eq.mpr ?_; first | rw [if_pos (by omega)] | rw [if_neg (by omega)] | split)
    | (refine V_if_lt.mpr ?_; first | rw [if_pos (by omega)] | rw [if_neg (by omega)] | split)
    | (simp (disch := omega) only [up_f, up_s, up_i, up_k, up_e, V_iconst, V_bipush, V_sipush, V_conti, V_contn, V_goto, Option.some.injEq, exists_eq_left', true_and, and_true, m_fit, Option.isSome_some, List.map_nil, List.map_cons, List.sum_nil, List.sum_cons, List.all_nil, List.all_cons, m_cat, decide_true, Bool.and_true, Bool.true_and, Nat.zero_le, Int.toNat_natCast, Int.reduceAdd, Int.reduceSub, Int.reduceMul, Int.reduceNeg, Int.reduceLE, Int.reduceLT, Nat.reduceAdd, Nat.reduceLeDiff, Int.reduceToNat, Int.reduceEq, decide_eq_true_eq, true_or, or_true, exists_and_left, and_self, Nat.reduceMul, Nat.reduceSub, Nat.reduceLT, m_oa, Nat.reduceEqDiff, or_false, false_or, Sum.inl.injEq, Sum.inr.injEq, ↓reduceIte, exists_eq_left, D_129, R_129, X_129, J_129_8, I_129_230, J_129_18, J_129_26, J_129_30, I_129_233, J_129_38, J_129_43, J_129_53, V_istore4, V_istore5, V_iload5, V_aloadn0, V_iloadn1, T_10, V_iloadn2, V_iloadn3, V_iload4, V_iinc5, m_add_eq, b_129_0, b_129_33, b_129_34, b_129_46, b_129_48, b_129_56])
  all_goals simp [rfM, rf]
theorem s_130 {p c r b : Nat} (hp : p < 40) (hc : c < 10) (hr : r < 6) (hb : b < 3) (he : (if S 73 0 p < 60 then fbH (fun b => S 78 0 (18 * c + 3 * r + b)) else fbL (fun b => S 78 0 (18 * c + 3 * r + b))) = b) (Q : MOut → MHp → Prop) : m_do xs L 130 [vR 296, vI p, vI c, vI r] (mk S e) Q ↔ Q (.inl none) (mk (up (up (up S 78 0 (18 * c + 3 * r + b) p) 76 0 p c) 77 0 p (10 * r + b)) (e)) := by
  refine m_do_eq ?_ Q
  repeat' first
    | (refine V_icmp_eq.mpr ?_; first | rw [if_pos (by omega)] | rw [if_neg (by omega)] | split)
    | (refine V_icmp_ge.mpr ?_; first | rw [if_pos (by omega)] | rw [if_neg (by omega)] | split)
    | (refine V_icmp_ne.mpr ?_; first | rw [if_pos (by omega)] | rw [if_neg (by omega)] | split)
    | (refine V_if_eq.mpr ?_; first | rw [if_pos (by omega)] | rw [if_neg (by omega)] | split)
    | (simp (disch := omega) only [up_f, up_s, up_i, up_k, up_e, V_iconst, V_bipush, V_sipush, V_conti, V_contn, V_goto, Option.some.injEq, exists_eq_left', true_and, and_true, m_fit, Option.isSome_some, List.map_nil, List.map_cons, List.sum_nil, List.sum_cons, List.all_nil, List.all_cons, m_cat, decide_true, Bool.and_true, Bool.true_and, Nat.zero_le, Int.toNat_natCast, Int.reduceAdd, Int.reduceSub, Int.reduceMul, Int.reduceNeg, Int.reduceLE, Int.reduceLT, Nat.reduceAdd, Nat.reduceLeDiff, Int.reduceToNat, Int.reduceEq, decide_eq_true_eq, true_or, or_true, exists_and_left, and_self, Nat.reduceMul, Nat.reduceSub, Nat.reduceLT, m_oa, Nat.reduceEqDiff, or_false, false_or, Sum.inl.injEq, Sum.inr.injEq, ↓reduceIte, exists_eq_left, D_130, R_130, X_130, J_130_9, F_130_95, J_130_29, J_130_33, J_130_41, J_130_47, F_130_80, J_130_58, J_130_63, J_130_73, F_130_89, F_130_92, V_istore4, V_istore5, V_iload5, V_aloadn0, G_10_33, A_325, T_a325, B_325, V_iloadn2, V_imul, m_mul_eq, V_iloadn3, V_iadd, m_add_eq, U_iaload, V_istore6, V_iload6, V_iload4, G_10_28, A_320, T_a320, B_320, V_iloadn1, V_iinc5, U_iastore, G_10_31, A_323, T_a323, B_323, G_10_32, A_324, T_a324, B_324, b_130_0, b_130_6, b_130_36, b_130_37, b_130_61, b_130_66, b_130_68, b_130_76, bm0, bm1, bm2])
  all_goals simp_all [fbL, fbH]
  all_goals first | (have hb0 : b = 0 := by omega
                     subst hb0; rfl) | (have hb0 : b = 1 := by omega
                                        subst hb0; rfl) | (have hb0 : b = 2 := by omega
                                                           subst hb0; rfl)
theorem s_136 {p q c r b c2 r2 b2 : Nat} (hp : p < 40) (hq : q < 40) (hc : c < 10) (hr : r < 6) (hb : b < 3) (hc2 : c2 < 10) (hr2 : r2 < 6) (hb2 : b2 < 3) (h1 : S 76 0 p = c) (h2 : S 77 0 p = 10 * r + b) (k1 : S 76 0 q = c2) (k2 : S 77 0 q = 10 * r2 + b2) (Q : MOut → MHp → Prop) : m_do xs L 136 [vR 296, vI p, vI q] (mk S e) Q ↔ Q (.inl none) (mk (up (up (up (up (up (up S 78 0 (18 * c + 3 * r + b) q) 78 0 (18 * c2 + 3 * r2 + b2) p) 76 0 p c2) 77 0 p (10 * r2 + b2)) 76 0 q c) 77 0 q (10 * r + b)) (e)) := by
  refine m_do_eq ?_ Q
  repeat' first
    | (simp (disch := omega) only [up_f, up_s, up_i, up_k, up_e, V_iconst, V_bipush, V_sipush, V_conti, V_contn, V_goto, Option.some.injEq, exists_eq_left', true_and, and_true, m_fit, Option.isSome_some, List.map_nil, List.map_cons, List.sum_nil, List.sum_cons, List.all_nil, List.all_cons, m_cat, decide_true, Bool.and_true, Bool.true_and, Nat.zero_le, Int.toNat_natCast, Int.reduceAdd, Int.reduceSub, Int.reduceMul, Int.reduceNeg, Int.reduceLE, Int.reduceLT, Nat.reduceAdd, Nat.reduceLeDiff, Int.reduceToNat, Int.reduceEq, decide_eq_true_eq, true_or, or_true, exists_and_left, and_self, Nat.reduceMul, Nat.reduceSub, Nat.reduceLT, m_oa, Nat.reduceEqDiff, or_false, false_or, Sum.inl.injEq, Sum.inr.injEq, ↓reduceIte, exists_eq_left, D_136, R_136, X_136, F_136_89, F_136_92, F_136_95, I_136_241, V_aloadn0, G_10_31, A_323, T_a323, B_323, V_iloadn1, U_iaload, V_istoren3, G_10_32, A_324, T_a324, B_324, V_istore4, G_10_33, A_325, T_a325, B_325, T_10, V_iloadn2, U_iastore, V_iloadn3, V_iload4, b_136_0, bmk, s_131 (S := S) hp hc hr hb h1 h2, s_131 (S := up S 78 0 (18 * c + 3 * r + b) q) hq hc2 hr2 hb2 (by rw [up_f (by omega)]; exact k1) (by rw [up_f (by omega)]; exact k2), h1, h2, k1, k2])
end V
