/-! ===== brake sheets (class) ===== -/
theorem nn32_of {a : UInt32} (h : Jvm.FP.Core.fIsNaN a = false) : m_nn32 a = true := by
  unfold m_nn32
  rw [decide_eq_true_eq, UInt32.le_iff_toNat_le, Jvm.FP.Core.mask_toNat32]
  have h1 := (Jvm.FP.Core.ne_nan32 a).mp ((Jvm.FP.Core.notNaN_iff32 a).mp h)
  exact h1
theorem i2f_nz {w : Int} (h : 0 < w ∧ w < 2147483648) : ¬ Jvm.FP.Core.FZero (FP.i2f (Int32.ofInt w)) := by
  rw [Jvm.FP.Core.zero_bits232]
  refine Jvm.FP.Core.i2f_ne_zero (fun hz => ?_)
  have h2 := congrArg Int32.toInt hz
  rw [m_i ⟨by omega, by omega⟩] at h2
  have h3 : (0 : Int32).toInt = 0 := rfl
  omega
theorem div_nn {b w : Int} (h : 0 < w ∧ w < 2147483648) : Jvm.FP.Core.fIsNaN (FP.fdiv (FP.i2f (Int32.ofInt b)) (FP.i2f (Int32.ofInt w))) = false :=
  Jvm.FP.Core.fdiv_out (Jvm.FP.Core.i2f_fin _).notNaN (Jvm.FP.Core.i2f_fin _) (i2f_nz h)
theorem mul_nn {x : UInt32} (h : Jvm.FP.Core.fIsNaN x = false) : Jvm.FP.Core.fIsNaN (FP.fmul 1120403456 x) = false := by
  have hf : Jvm.FP.Core.FFin 1120403456 := (Jvm.FP.Core.fin_bits32 1120403456).mpr (by decide +kernel)
  refine Jvm.FP.Core.not_true32 (Jvm.FP.Core.fmul_nan_iff _ _) (fun hz => ?_)
  rcases hz with hz | hz | ⟨s, hz, _⟩ | ⟨s, hz, _⟩
  · exact hf.ne_nan hz
  · exact (Jvm.FP.Core.notNaN_iff32 x).mp h hz
  · exact hf.ne_inf s hz
  · exact absurd ((Jvm.FP.Core.zero_bits232 1120403456).mp hz) (by decide +kernel)
theorem pos_cmp {w : Int} (h : 0 < w ∧ w < 1000) : ¬ (Op.cmpValue (FP.fcmp (FP.i2f (Int32.ofInt w)) 0) .l).toInt ≤ 0 := by
  have h1 : (Int32.ofInt w).toInt = w := m_i ⟨by omega, by omega⟩
  have ha := Jvm.FP.Core.i2f_int (a := Int32.ofInt w) (by rw [h1]; omega)
  have hb := Jvm.FP.Core.i2f_int (a := 0) (by decide)
  rw [h1] at ha
  have h0 : Jvm.FP.Core.i2f 0 = 0 := by decide +kernel
  rw [h0] at hb
  have hc := Jvm.FP.Core.fcmp_int ha hb
  have hg : compare w (0 : Int32).toInt = .gt := by
    rw [show (0 : Int32).toInt = 0 from rfl]
    exact Int.compare_eq_gt.mpr h.1
  rw [hg] at hc
  rw [show FP.fcmp (FP.i2f (Int32.ofInt w)) 0 = some .gt from hc]
  decide
/-- the coaches written behind a train, of the first i -/
def behP (S1 S : Sg) (J k i : Nat) (x : List Nat) : Prop := (∀ f a j, ¬ (f = 34 ∧ a = J) → S f a j = S1 f a j) ∧ ∀ j, j < 60 → S 34 J j = if 10 * k ≤ j ∧ j < 10 * k + i then ((x.getD (j - 10 * k) 0 : Nat) : Int) else S1 34 J j
section V
variable {xs : Nat → Int32} {L : Nat} {e : Nat}
theorem k_48 {n t k : Nat} {S1 : Sg} {x : List Nat} {a b : MV} {Q : MOut → MHp → Prop} (hn : n < 3) (ht : t < 6) (hk : k < 6) (h1503 : S1 1503 (6 * n + t) 0 = k) (rq : RQ n t S1 x) (hx : x.length ≤ 10) (K : ∀ S2, behP S1 S2 (6 * n + t) k x.length x → Q (.inl none) (mk S2 e)) : ∀ (z i : Nat) (ii : Int) (S : Sg), i + z = x.length → ii = i → behP S1 S (6 * n + t) k i x → m_ok xs L 48 b_48_45 [vR (ru n t), a, b, vI ii] [] (mk S e) Q
  | 0, i, ii, S, hz, hii, hp => by
    have hi : i = x.length := by omega
    subst hi
    subst hii
    have h7 : S 1507 (6 * n + t) 0 = x.length := (hp.1 _ _ _ (by omega)).trans rq.1
    have k := K S hp
    unfold b_48_45
    repeat' first
      | (refine V_icmp_ge.mpr ?_; first | rw [if_pos (by omega)] | rw [if_neg (by omega)] | split)
      | (refine V_if_le.mpr ?_; first | rw [if_pos (by omega)] | rw [if_neg (by omega)] | split)
      | (simp (disch := (first | omega | (simp (disch := omega) only [up_f, up_s, up_i, up_k, up_e]; omega))) only [up_f, up_s, up_i, up_k, up_e, V_iconst, V_bipush, V_sipush, V_conti, V_contn, V_goto, Option.some.injEq, exists_eq_left', true_and, and_true, m_fit, Option.isSome_some, List.map_nil, List.map_cons, List.sum_nil, List.sum_cons, List.all_nil, List.all_cons, m_cat, decide_true, Bool.and_true, Bool.true_and, Nat.zero_le, Int.toNat_natCast, Int.reduceAdd, Int.reduceSub, Int.reduceMul, Int.reduceNeg, Int.reduceLE, Int.reduceLT, Nat.reduceAdd, Nat.reduceLeDiff, Int.reduceToNat, Int.reduceEq, decide_eq_true_eq, true_or, or_true, exists_and_left, and_self, Nat.reduceMul, Nat.reduceSub, Nat.reduceLT, m_oa, Nat.reduceEqDiff, or_false, false_or, Sum.inl.injEq, Sum.inr.injEq, ↓reduceIte, ne_eq, not_false_eq_true, Int.reduceNe, exists_eq_left, D_48, R_48, X_48, F_48_80, F_48_74, F_48_24, F_48_42, J_48_29, C_48_83, J_48_38, F_48_59, J_48_50, F_48_21, F_48_9, J_48_76, V_aloadn0, G_5_9, V_iadd, m_add_eq, V_i2f, V_fstoren1, G_5_8, V_fstoren2, G_5_13, A_ruA4, T_aruA4, B_ruA4, G_5_3, V_floadn2, V_fconst, V_fcmp, V_floadn1, V_fdiv, V_fmul, U_fastore, V_istoren3, V_iloadn3, G_5_7, G_5_12, A_ruA3, T_aruA3, B_ruA3, V_imul, m_mul_eq, G_5_6, A_ruA0, T_aruA0, B_ruA0, U_iaload, U_iastore, V_iinc3, b_48_0, b_48_41, b_48_42, b_48_79, h7])
    all_goals exact k
  | z + 1, i, ii, S, hz, hii, hp => by
    subst hii
    have hi : i < x.length := by omega
    have h7 : S 1507 (6 * n + t) 0 = x.length := (hp.1 _ _ _ (by omega)).trans rq.1
    have h3 : S 1503 (6 * n + t) 0 = k := (hp.1 _ _ _ (by omega)).trans h1503
    have hcon : S 31 (6 * n + t) i = (x.getD i 0 : Nat) := by
      rw [hp.1 _ _ _ (by omega), rq.2 i x[i] (List.getElem?_eq_getElem hi), List.getD_eq_getElem?_getD, List.getElem?_eq_getElem hi, Option.getD_some]
    have hj : (10 * (k : Int) + (i : Int)).toNat = 10 * k + i := by omega
    unfold b_48_45
    repeat' first
      | (refine V_icmp_ge.mpr ?_; first | rw [if_pos (by omega)] | rw [if_neg (by omega)] | split)
      | (refine V_if_le.mpr ?_; first | rw [if_pos (by omega)] | rw [if_neg (by omega)] | split)
      | (simp (disch := (first | omega | (simp (disch := omega) only [up_f, up_s, up_i, up_k, up_e]; omega))) only [up_f, up_s, up_i, up_k, up_e, V_iconst, V_bipush, V_sipush, V_conti, V_contn, V_goto, Option.some.injEq, exists_eq_left', true_and, and_true, m_fit, Option.isSome_some, List.map_nil, List.map_cons, List.sum_nil, List.sum_cons, List.all_nil, List.all_cons, m_cat, decide_true, Bool.and_true, Bool.true_and, Nat.zero_le, Int.toNat_natCast, Int.reduceAdd, Int.reduceSub, Int.reduceMul, Int.reduceNeg, Int.reduceLE, Int.reduceLT, Nat.reduceAdd, Nat.reduceLeDiff, Int.reduceToNat, Int.reduceEq, decide_eq_true_eq, true_or, or_true, exists_and_left, and_self, Nat.reduceMul, Nat.reduceSub, Nat.reduceLT, m_oa, Nat.reduceEqDiff, or_false, false_or, Sum.inl.injEq, Sum.inr.injEq, ↓reduceIte, ne_eq, not_false_eq_true, Int.reduceNe, exists_eq_left, D_48, R_48, X_48, F_48_80, F_48_74, F_48_24, F_48_42, J_48_29, C_48_83, J_48_38, F_48_59, J_48_50, F_48_21, F_48_9, J_48_76, V_aloadn0, G_5_9, V_iadd, m_add_eq, V_i2f, V_fstoren1, G_5_8, V_fstoren2, G_5_13, A_ruA4, T_aruA4, B_ruA4, G_5_3, V_floadn2, V_fconst, V_fcmp, V_floadn1, V_fdiv, V_fmul, U_fastore, V_istoren3, V_iloadn3, G_5_7, G_5_12, A_ruA3, T_aruA3, B_ruA3, V_imul, m_mul_eq, G_5_6, A_ruA0, T_aruA0, B_ruA0, U_iaload, U_iastore, V_iinc3, b_48_0, b_48_41, b_48_42, b_48_79, h7, h3, hcon, hj])
    refine k_48 hn ht hk h1503 rq hx K z (i + 1) _ _ (by omega) (by omega) ⟨fun f c j hf => ?_, fun j hj => ?_⟩
    · simp only [up]
      rw [if_neg (fun z => hf ⟨z.1, z.2.1⟩)]
      exact hp.1 f c j hf
    · by_cases hji : j = 10 * k + i
      · subst hji
        rw [up_s, if_pos (by omega), Nat.add_sub_cancel_left]
      · rw [up_k hji, hp.2 j hj]
        by_cases hq : 10 * k ≤ j ∧ j < 10 * k + i
        · rw [if_pos hq, if_pos (by omega)]
        · rw [if_neg hq, if_neg (by omega)]
theorem r_48 {n t k : Nat} {S : Sg} {x : List Nat} {w b : Int} (hn : n < 3) (ht : t < 6) (hk : k < 6) (h1503 : S 1503 (6 * n + t) 0 = k) (rq : RQ n t S x) (hx : x.length ≤ 10) (hw : S 1508 (6 * n + t) 0 = w) (hb : S 1509 (6 * n + t) 0 = b) (hw0 : 0 ≤ w ∧ w ≤ 900) (hb0 : 0 ≤ b ∧ b ≤ 900) :
    ∃ S2, behP (up S 35 (6 * n + t) k (FP.fmul 1120403456 (FP.fdiv (FP.i2f (Int32.ofInt (b + 60))) (FP.i2f (Int32.ofInt (w + 80))))).toNat) S2 (6 * n + t) k x.length x ∧
      ∀ Q, m_do xs L 48 [vR (ru n t)] (mk S e) Q ↔ Q (.inl none) (mk S2 e) := by
  have f1 := nn32_of (div_nn (b := b + 60) (w := w + 80) (by omega))
  have f2 := nn32_of (mul_nn (div_nn (b := b + 60) (w := w + 80) (by omega)))
  have f3 := pos_cmp (w := w + 80) (by omega)
  have hk0 : (k : Int).toNat = k := by omega
  refine m_do_ex ?_
  repeat' first
    | (refine V_icmp_ge.mpr ?_; first | rw [if_pos (by omega)] | rw [if_neg (by omega)] | split)
    | (refine V_if_le.mpr ?_; first | rw [if_pos (by omega)] | rw [if_neg (by omega)] | split)
    | (simp (disch := (first | omega | (simp (disch := omega) only [up_f, up_s, up_i, up_k, up_e]; omega))) only [up_f, up_s, up_i, up_k, up_e, V_iconst, V_bipush, V_sipush, V_conti, V_contn, V_goto, Option.some.injEq, exists_eq_left', true_and, and_true, m_fit, Option.isSome_some, List.map_nil, List.map_cons, List.sum_nil, List.sum_cons, List.all_nil, List.all_cons, m_cat, decide_true, Bool.and_true, Bool.true_and, Nat.zero_le, Int.toNat_natCast, Int.reduceAdd, Int.reduceSub, Int.reduceMul, Int.reduceNeg, Int.reduceLE, Int.reduceLT, Nat.reduceAdd, Nat.reduceLeDiff, Int.reduceToNat, Int.reduceEq, decide_eq_true_eq, true_or, or_true, exists_and_left, and_self, Nat.reduceMul, Nat.reduceSub, Nat.reduceLT, m_oa, Nat.reduceEqDiff, or_false, false_or, Sum.inl.injEq, Sum.inr.injEq, ↓reduceIte, ne_eq, not_false_eq_true, Int.reduceNe, exists_eq_left, D_48, R_48, X_48, F_48_80, F_48_74, F_48_24, F_48_42, J_48_29, C_48_83, J_48_38, F_48_59, J_48_50, F_48_21, F_48_9, J_48_76, V_aloadn0, G_5_9, V_iadd, m_add_eq, V_i2f, V_fstoren1, G_5_8, V_fstoren2, G_5_13, A_ruA4, T_aruA4, B_ruA4, G_5_3, V_floadn2, V_fconst, V_fcmp, V_floadn1, V_fdiv, V_fmul, U_fastore, V_istoren3, V_iloadn3, G_5_7, G_5_12, A_ruA3, T_aruA3, B_ruA3, V_imul, m_mul_eq, G_5_6, A_ruA0, T_aruA0, B_ruA0, U_iaload, U_iastore, V_iinc3, b_48_0, b_48_41, b_48_42, b_48_79, h1503, hk0, hw, hb, f1, f2, f3])
  refine k_48 hn ht hk ?_ ?_ hx (fun S2 hp => ⟨rfl, S2, rfl, hp⟩) x.length 0 _ _ (by omega) rfl ⟨fun _ _ _ _ => rfl, fun j hj => (if_neg (by omega)).symm⟩
  · rw [up_f (by decide)]; exact h1503
  · exact RQ_ext rq (fun f j hf => up_f (by omega))
end V
