/-! ===== rooms and beds in the model ===== -/
theorem m_div_eq {a b : Int} (ha : 0 ≤ a ∧ a < 2147483648) (hb : 0 < b ∧ b < 2147483648) : m_div a b = a / b := by
  have h0 : 0 ≤ a / b := Int.ediv_nonneg ha.1 (by omega)
  have h1 : a / b ≤ a := Int.ediv_le_self b ha.1
  unfold m_div
  rw [Int32.toInt_div, m_i ⟨by omega, by omega⟩, m_i ⟨by omega, by omega⟩, Int.tdiv_eq_ediv_of_nonneg ha.1]
  exact Int.bmod_eq_of_le (by simp; omega) (by simp; omega)
theorem m_rem_eq {a b : Int} (ha : 0 ≤ a ∧ a < 2147483648) (hb : 0 < b ∧ b < 2147483648) : m_rem a b = a % b := by
  have hd : Int32.ofInt a / Int32.ofInt b = Int32.ofInt (a / b) := by
    rw [← m_div_eq ha hb]
    unfold m_div
    rw [Int32.ofInt_toInt]
  have h2 : a - a / b * b = a % b := by rw [Int.emod_def, Int.mul_comm]
  have h3 : 0 ≤ a % b := Int.emod_nonneg a (by omega)
  have h4 : a % b < b := Int.emod_lt_of_pos a hb.1
  unfold m_rem
  rw [hd, ← Int32.ofInt_mul, ← Int32.ofInt_sub, h2]
  exact m_i ⟨by omega, by omega⟩
section V
variable {xs : Nat → Int32} {L : Nat} {S : Sg} {e : Nat}
theorem s_131 {p c r b : Nat} (hp : p < 40) (hc : c < 10) (hr : r < 6) (hb : b < 3) (h1 : S 76 0 p = c) (h2 : S 77 0 p = 10 * r + b) (Q : MOut → MHp → Prop) : m_do xs L 131 [vR 296, vI p] (mk S e) Q ↔ Q (.inl (some (vI (18 * c + 3 * r + b)))) (mk (S) (e)) := by
  refine m_do_eq ?_ Q
  repeat' first
    | (simp (disch := omega) only [up_f, up_s, up_i, up_k, up_e, V_iconst, V_bipush, V_sipush, V_conti, V_contn, V_goto, Option.some.injEq, exists_eq_left', true_and, and_true, m_fit, Option.isSome_some, List.map_nil, List.map_cons, List.sum_nil, List.sum_cons, List.all_nil, List.all_cons, m_cat, decide_true, Bool.and_true, Bool.true_and, Nat.zero_le, Int.toNat_natCast, Int.reduceAdd, Int.reduceSub, Int.reduceMul, Int.reduceNeg, Int.reduceLE, Int.reduceLT, Nat.reduceAdd, Nat.reduceLeDiff, Int.reduceToNat, Int.reduceEq, decide_eq_true_eq, true_or, or_true, exists_and_left, and_self, Nat.reduceMul, Nat.reduceSub, Nat.reduceLT, m_oa, Nat.reduceEqDiff, or_false, false_or, Sum.inl.injEq, Sum.inr.injEq, ↓reduceIte, exists_eq_left, D_131, R_131, X_131, F_131_89, F_131_92, V_aloadn0, G_10_31, A_323, T_a323, B_323, V_iloadn1, U_iaload, V_imul, m_mul_eq, G_10_32, A_324, T_a324, B_324, V_idiv, V_iadd, m_add_eq, V_irem, b_131_0, h1, h2, m_div_eq, m_rem_eq])
  all_goals (simp; omega)
end V
