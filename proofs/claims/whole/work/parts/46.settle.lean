/-! ===== what lands owe (class) ===== -/
theorem RW_91 {n C c : Nat} {S N : Sg} {v : Int} (h : RW n C S N) (hc : c < 10) : RW n C (up S 1804 (10 * n + c) 0 v) (up N 91 0 c v) := fun d hd => by
  have hz := h d hd
  unfold rdc at hz ⊢
  by_cases hdc : d = c
  · subst hdc
    simp (disch := omega) only [up_f, up_s]
    exact ⟨hz.1, hz.2.1, hz.2.2.1, trivial⟩
  · simp (disch := omega) only [up_f, up_i, up_k]
    exact hz
theorem RO_93 {n k : Nat} {S N : Sg} {v : Int} (h : RO n S N) : RO n (up S 30 n k v) (up N 93 0 k v) := fun j hj => by
  by_cases hjk : j = k
  · subst hjk
    rw [up_s, up_s]
  · rw [up_k hjk, up_k hjk]
    exact h j hj
theorem RW_N {n C : Nat} {S N N2 : Sg} (h : RW n C S N) (k2 : ∀ f c, (f = 88 ∨ f = 89 ∨ f = 90 ∨ f = 91) → N2 f 0 c = N f 0 c) : RW n C S N2 := RW_ext h (fun _ _ _ => rfl) k2
theorem RW_S {n C : Nat} {S S2 N : Sg} (h : RW n C S N) (k1 : ∀ f i, (f = 1801 ∨ f = 1802 ∨ f = 1803 ∨ f = 1804) → S2 f i 0 = S f i 0) : RW n C S2 N := RW_ext h k1 (fun _ _ _ => rfl)
/-- the parts of a night that settle changes -/
def SJ (n C : Nat) (S1 S N : Sg) : Prop := RW n C S N ∧ RO n S N ∧ FC n S1 S ∧ ∀ f a j, ¬ f = 1804 → ¬ f = 30 → S f a j = S1 f a j
theorem SJ_s {n C own q i c a b : Nat} {D S1 S N : Sg} (hn : n < 3) (hc : c < 10) (hcC : c < C) (h : SJ n C S1 S N) (wo : WO N) (ha : D 62 0 c = a) (hb : D 50 0 (own + 1) = b) (ha6 : a < 6) (hb6 : b < 6) :
    SJ n C S1 (if a = b then (if q ≤ i then up S 1804 (10 * n + c) 0 (m_add (S 1804 (10 * n + c) 0) 1) else S) else
      up (if q ≤ i then up S 1804 (10 * n + c) 0 (m_add (S 1804 (10 * n + c) 0) 1) else S) 30 n (6 * a + b) (m_add (S 30 n (6 * a + b)) (4 * D 58 0 (own + 1)))) (seS D own q i c N) := by
  obtain ⟨h1, h2, h3, h4⟩ := h
  have hx : (6 * (a : Int) + (b : Int)).toNat = 6 * a + b := by omega
  have e91 := (h1 c hcC).2.2.2
  have e93 := h2 (6 * a + b) (by omega)
  unfold seS
  rw [ha, hb, hx]
  simp only [Int.natCast_inj, Int.ofNat_inj]
  have hf1 : fpC n 1804 (10 * n + c) := by unfold fpC; omega
  have hf2 : fpC n 30 n := by unfold fpC; omega
  have ew : (up (up N 87 0 (10 * own + i) c) 91 0 c (m_add (N 91 0 c) (if q ≤ i then 1 else 0))) 93 0 (6 * a + b) = N 93 0 (6 * a + b) := by
    rw [up_f (by decide), up_f (by decide)]
  have ow : m_in (N 93 0 (6 * a + b)) := wo.2 _ (by omega)
  have oc : m_in (N 91 0 c) := wo.1 _ hc
  have A : SJ n C S1 (if q ≤ i then up S 1804 (10 * n + c) 0 (m_add (S 1804 (10 * n + c) 0) 1) else S) (up (up N 87 0 (10 * own + i) c) 91 0 c (m_add (N 91 0 c) (if q ≤ i then 1 else 0))) := by
    by_cases hq : q ≤ i
    · rw [if_pos hq, if_pos hq, e91]
      refine ⟨RW_91 (RW_N h1 (fun f d hf => up_f (by omega))) hc, RO_ext h2 (fun k => up_f (by decide)) (fun k => by rw [up_f (by decide), up_f (by decide)]), FC_up h3 hf1, fun f x j g1 g2 => by rw [up_f g1]; exact h4 f x j g1 g2⟩
    · rw [if_neg hq, if_neg hq, m_add_0 oc]
      refine ⟨RW_N h1 (fun f d hf => ?_), RO_ext h2 (fun k => rfl) (fun k => by rw [up_f (by decide), up_f (by decide)]), h3, h4⟩
      simp only [up]
      split
      · rename_i z; rw [z.1, z.2.2]
      · rw [if_neg (by omega)]
  generalize (if q ≤ i then up S 1804 (10 * n + c) 0 (m_add (S 1804 (10 * n + c) 0) 1) else S) = S9 at *
  obtain ⟨b1, b2, b3, b4⟩ := A
  by_cases hab : a = b
  · rw [if_pos hab, if_pos hab, m_add_0 ow]
    refine ⟨RW_N b1 (fun f d hf => up_f (by omega)), fun j hj => ?_, b3, b4⟩
    by_cases hjk : j = 6 * a + b
    · subst hjk
      rw [up_s, b2 _ hj]
      exact ew
    · rw [up_k hjk]
      exact b2 j hj
  · rw [if_neg hab, if_neg hab, e93]
    exact ⟨RW_S (RW_N b1 (fun f d hf => up_f (by omega))) (fun f j hf => up_f (by omega)), RO_93 b2, FC_up b3 hf2, fun f x j g1 g2 => by rw [up_f g2]; exact b4 f x j g1 g2⟩
theorem WO_seS {D : Sg} {own q j c : Nat} {N : Sg} (h : WO N) : WO (seS D own q j c N) := by
  have := WO_seL (D := D) (own := own) (q := q) [c] j N h
  exact this
section V
variable {xs : Nat → Int32} {L : Nat} {e : Nat}
theorem k_36 {n t T C own q : Nat} {D S1 : Sg} {x : List Nat} {Q : MOut → MHp → Prop} (hn : n < 3) (wp : WP D T C) (ht : t < 6) (ho : own + 1 < 36) (pc : PC D S1) (rq : RQ n t S1 x) (hx10 : x.length ≤ 10) (hxc : ∀ c, c ∈ x → c < C) : ∀ (r : List Nat) (i : Nat) (ii : Int) (v : MV) (S N : Sg), i + r.length = x.length → (∀ j c, r[j]? = some c → x[i + j]? = some c) → ii = i → SJ n C S1 S N → WO N → (∀ S2, SJ n C S1 S2 (seL D own q r i N) → Q (.inl none) (mk S2 e)) → m_ok xs L 36 b_36_3 [vR (nt n), vR (ru n t), vI q, vI (D 50 0 (own + 1)), vI (D 58 0 (own + 1)), vI ii, v] [] (mk S e) Q
  | [], i, ii, v, S, N, hi, hr, hii, sj, wo, K => by
    subst hii
    have hi2 : i = x.length := by simpa using hi
    have h7 : S 1507 (6 * n + t) 0 = i := by rw [sj.2.2.2 _ _ _ (by decide) (by decide), rq.1, hi2]
    have k := K S sj
    unfold b_36_3
    repeat' first
      | (refine V_icmp_eq.mpr ?_; first | rw [if_pos (by omega)] | rw [if_neg (by omega)] | split)
      | (refine V_icmp_ge.mpr ?_; first | rw [if_pos (by omega)] | rw [if_neg (by omega)] | split)
      | (refine V_icmp_lt.mpr ?_; first | rw [if_pos (by omega)] | rw [if_neg (by omega)] | split)
      | (simp (disch := (first | omega | (simp (disch := omega) only [up_f, up_s, up_i, up_k, up_e]; omega))) only [up_f, up_s, up_i, up_k, up_e, V_iconst, V_bipush, V_sipush, V_conti, V_contn, V_goto, Option.some.injEq, exists_eq_left', true_and, and_true, m_fit, Option.isSome_some, List.map_nil, List.map_cons, List.sum_nil, List.sum_cons, List.all_nil, List.all_cons, m_cat, decide_true, Bool.and_true, Bool.true_and, Nat.zero_le, Int.toNat_natCast, Int.reduceAdd, Int.reduceSub, Int.reduceMul, Int.reduceNeg, Int.reduceLE, Int.reduceLT, Nat.reduceAdd, Nat.reduceLeDiff, Int.reduceToNat, Int.reduceEq, decide_eq_true_eq, true_or, or_true, exists_and_left, and_self, Nat.reduceMul, Nat.reduceSub, Nat.reduceLT, m_oa, Nat.reduceEqDiff, or_false, false_or, Sum.inl.injEq, Sum.inr.injEq, ↓reduceIte, ne_eq, not_false_eq_true, Int.reduceNe, exists_eq_left, D_36, R_36, X_36, F_36_140, J_36_9, F_36_19, F_36_143, J_36_29, F_36_259, W_36_259, F_36_153, F_36_262, J_36_52, F_36_23, J_36_83, V_istore5, V_iload5, V_aloadn1, G_5_7, V_aloadn0, G_2_2, A_ntW, T_antW, G_5_6, A_ruA0, T_aruA0, B_ruA0, U_iaload, U_aaload, V_astore6, V_iloadn2, V_aload6, V_dup_vI, V_dup_vR, G_8_4, V_iadd, m_add_eq, P_8_4, G_8_0, G_1_2, V_iloadn3, G_2_3, A_ntO, T_antO, B_ntO, V_imul, m_mul_eq, V_dup2, V_iload4, U_iastore, V_iinc5, b_36_0, b_36_43, b_36_80, b_36_86, h7])
    all_goals exact k
  | c :: r, i, ii, v, S, N, hi, hr, hii, sj, wo, K => by
    subst hii
    have hC : C ≤ 10 := wp.2.2.2.1
    have h7 : S 1507 (6 * n + t) 0 = x.length := by rw [sj.2.2.2 _ _ _ (by decide) (by decide), rq.1]
    have hxi := hr 0 c (by simp)
    rw [Nat.add_zero] at hxi
    have hil : i < x.length := (List.getElem?_eq_some_iff.mp hxi).1
    have hcon : S 31 (6 * n + t) i = c := by rw [sj.2.2.2 _ _ _ (by decide) (by decide)]; exact rq.2 i c hxi
    have hcC : c < C := hxc c (List.mem_of_getElem? hxi)
    have hc : c < 10 := by omega
    have wc := wp.2.2.2.2.2.2.1 c hc
    have wk := wp.2.2.2.2.2.1 (own + 1) ho
    obtain ⟨a, ha⟩ : ∃ a : Nat, D 62 0 c = a := ⟨(D 62 0 c).toNat, by omega⟩
    obtain ⟨b, hb⟩ : ∃ b : Nat, D 50 0 (own + 1) = b := ⟨(D 50 0 (own + 1)).toNat, by omega⟩
    have h1102 : S 1102 c 0 = a := by rw [sj.2.2.2 _ _ _ (by decide) (by decide), PC_1102 pc hc, ha]
    have hx : (6 * (a : Int) + (b : Int)).toNat = 6 * a + b := by omega
    have hs := SJ_s (q := q) (i := i) hn hc hcC sj wo ha hb (by omega) (by omega)
    have kr := fun S' hS' ii' v' hii' => k_36 hn wp ht ho pc rq hx10 hxc r (i + 1) ii' v' S' (seS D own q i c N) (by rw [← hi, List.length_cons]; omega) (fun j d hd => by rw [Nat.add_assoc, Nat.add_comm 1 j]; exact hr (j + 1) d (by simpa using hd)) hii' hS' (WO_seS wo) K
    unfold b_36_3
    by_cases hq : q ≤ i
    · rw [if_pos hq] at hs
      by_cases hab : a = b
      · rw [if_pos hab] at hs
        have hab2 : (a : Int) = b := by omega
        repeat' first
          | (refine V_icmp_eq.mpr ?_; first | rw [if_pos (by omega)] | rw [if_neg (by omega)] | split)
          | (refine V_icmp_ge.mpr ?_; first | rw [if_pos (by omega)] | rw [if_neg (by omega)] | split)
          | (refine V_icmp_lt.mpr ?_; first | rw [if_pos (by omega)] | rw [if_neg (by omega)] | split)
          | (simp (disch := (first | omega | (simp (disch := omega) only [up_f, up_s, up_i, up_k, up_e]; omega))) only [up_f, up_s, up_i, up_k, up_e, V_iconst, V_bipush, V_sipush, V_conti, V_contn, V_goto, Option.some.injEq, exists_eq_left', true_and, and_true, m_fit, Option.isSome_some, List.map_nil, List.map_cons, List.sum_nil, List.sum_cons, List.all_nil, List.all_cons, m_cat, decide_true, Bool.and_true, Bool.true_and, Nat.zero_le, Int.toNat_natCast, Int.reduceAdd, Int.reduceSub, Int.reduceMul, Int.reduceNeg, Int.reduceLE, Int.reduceLT, Nat.reduceAdd, Nat.reduceLeDiff, Int.reduceToNat, Int.reduceEq, decide_eq_true_eq, true_or, or_true, exists_and_left, and_self, Nat.reduceMul, Nat.reduceSub, Nat.reduceLT, m_oa, Nat.reduceEqDiff, or_false, false_or, Sum.inl.injEq, Sum.inr.injEq, ↓reduceIte, ne_eq, not_false_eq_true, Int.reduceNe, exists_eq_left, D_36, R_36, X_36, F_36_140, J_36_9, F_36_19, F_36_143, J_36_29, F_36_259, W_36_259, F_36_153, F_36_262, J_36_52, F_36_23, J_36_83, V_istore5, V_iload5, V_aloadn1, G_5_7, V_aloadn0, G_2_2, A_ntW, T_antW, G_5_6, A_ruA0, T_aruA0, B_ruA0, U_iaload, U_aaload, V_astore6, V_iloadn2, V_aload6, V_dup_vI, V_dup_vR, G_8_4, V_iadd, m_add_eq, P_8_4, G_8_0, G_1_2, V_iloadn3, G_2_3, A_ntO, T_antO, B_ntO, V_imul, m_mul_eq, V_dup2, V_iload4, U_iastore, V_iinc5, b_36_0, b_36_43, b_36_80, b_36_86, h7, hcon, hx, h1102, hb])
        refine cast ?_ (kr _ hs (↑i + 1) (vR (wg n c)) (by omega))
        simp (disch := omega) only [up_f, hb]
      · rw [if_neg hab] at hs
        have hab2 : ¬ (a : Int) = b := by omega
        repeat' first
          | (refine V_icmp_eq.mpr ?_; first | rw [if_pos (by omega)] | rw [if_neg (by omega)] | split)
          | (refine V_icmp_ge.mpr ?_; first | rw [if_pos (by omega)] | rw [if_neg (by omega)] | split)
          | (refine V_icmp_lt.mpr ?_; first | rw [if_pos (by omega)] | rw [if_neg (by omega)] | split)
          | (simp (disch := (first | omega | (simp (disch := omega) only [up_f, up_s, up_i, up_k, up_e]; omega))) only [up_f, up_s, up_i, up_k, up_e, V_iconst, V_bipush, V_sipush, V_conti, V_contn, V_goto, Option.some.injEq, exists_eq_left', true_and, and_true, m_fit, Option.isSome_some, List.map_nil, List.map_cons, List.sum_nil, List.sum_cons, List.all_nil, List.all_cons, m_cat, decide_true, Bool.and_true, Bool.true_and, Nat.zero_le, Int.toNat_natCast, Int.reduceAdd, Int.reduceSub, Int.reduceMul, Int.reduceNeg, Int.reduceLE, Int.reduceLT, Nat.reduceAdd, Nat.reduceLeDiff, Int.reduceToNat, Int.reduceEq, decide_eq_true_eq, true_or, or_true, exists_and_left, and_self, Nat.reduceMul, Nat.reduceSub, Nat.reduceLT, m_oa, Nat.reduceEqDiff, or_false, false_or, Sum.inl.injEq, Sum.inr.injEq, ↓reduceIte, ne_eq, not_false_eq_true, Int.reduceNe, exists_eq_left, D_36, R_36, X_36, F_36_140, J_36_9, F_36_19, F_36_143, J_36_29, F_36_259, W_36_259, F_36_153, F_36_262, J_36_52, F_36_23, J_36_83, V_istore5, V_iload5, V_aloadn1, G_5_7, V_aloadn0, G_2_2, A_ntW, T_antW, G_5_6, A_ruA0, T_aruA0, B_ruA0, U_iaload, U_aaload, V_astore6, V_iloadn2, V_aload6, V_dup_vI, V_dup_vR, G_8_4, V_iadd, m_add_eq, P_8_4, G_8_0, G_1_2, V_iloadn3, G_2_3, A_ntO, T_antO, B_ntO, V_imul, m_mul_eq, V_dup2, V_iload4, U_iastore, V_iinc5, b_36_0, b_36_43, b_36_80, b_36_86, h7, hcon, hx, h1102, hb])
        refine cast ?_ (kr _ hs (↑i + 1) (vR (wg n c)) (by omega))
        simp (disch := omega) only [up_f, hb]
    · rw [if_neg hq] at hs
      by_cases hab : a = b
      · rw [if_pos hab] at hs
        have hab2 : (a : Int) = b := by omega
        repeat' first
          | (refine V_icmp_eq.mpr ?_; first | rw [if_pos (by omega)] | rw [if_neg (by omega)] | split)
          | (refine V_icmp_ge.mpr ?_; first | rw [if_pos (by omega)] | rw [if_neg (by omega)] | split)
          | (refine V_icmp_lt.mpr ?_; first | rw [if_pos (by omega)] | rw [if_neg (by omega)] | split)
          | (simp (disch := (first | omega | (simp (disch := omega) only [up_f, up_s, up_i, up_k, up_e]; omega))) only [up_f, up_s, up_i, up_k, up_e, V_iconst, V_bipush, V_sipush, V_conti, V_contn, V_goto, Option.some.injEq, exists_eq_left', true_and, and_true, m_fit, Option.isSome_some, List.map_nil, List.map_cons, List.sum_nil, List.sum_cons, List.all_nil, List.all_cons, m_cat, decide_true, Bool.and_true, Bool.true_and, Nat.zero_le, Int.toNat_natCast, Int.reduceAdd, Int.reduceSub, Int.reduceMul, Int.reduceNeg, Int.reduceLE, Int.reduceLT, Nat.reduceAdd, Nat.reduceLeDiff, Int.reduceToNat, Int.reduceEq, decide_eq_true_eq, true_or, or_true, exists_and_left, and_self, Nat.reduceMul, Nat.reduceSub, Nat.reduceLT, m_oa, Nat.reduceEqDiff, or_false, false_or, Sum.inl.injEq, Sum.inr.injEq, ↓reduceIte, ne_eq, not_false_eq_true, Int.reduceNe, exists_eq_left, D_36, R_36, X_36, F_36_140, J_36_9, F_36_19, F_36_143, J_36_29, F_36_259, W_36_259, F_36_153, F_36_262, J_36_52, F_36_23, J_36_83, V_istore5, V_iload5, V_aloadn1, G_5_7, V_aloadn0, G_2_2, A_ntW, T_antW, G_5_6, A_ruA0, T_aruA0, B_ruA0, U_iaload, U_aaload, V_astore6, V_iloadn2, V_aload6, V_dup_vI, V_dup_vR, G_8_4, V_iadd, m_add_eq, P_8_4, G_8_0, G_1_2, V_iloadn3, G_2_3, A_ntO, T_antO, B_ntO, V_imul, m_mul_eq, V_dup2, V_iload4, U_iastore, V_iinc5, b_36_0, b_36_43, b_36_80, b_36_86, h7, hcon, hx, h1102, hb])
        refine cast ?_ (kr _ hs (↑i + 1) (vR (wg n c)) (by omega))
        simp (disch := omega) only [up_f, hb]
      · rw [if_neg hab] at hs
        have hab2 : ¬ (a : Int) = b := by omega
        repeat' first
          | (refine V_icmp_eq.mpr ?_; first | rw [if_pos (by omega)] | rw [if_neg (by omega)] | split)
          | (refine V_icmp_ge.mpr ?_; first | rw [if_pos (by omega)] | rw [if_neg (by omega)] | split)
          | (refine V_icmp_lt.mpr ?_; first | rw [if_pos (by omega)] | rw [if_neg (by omega)] | split)
          | (simp (disch := (first | omega | (simp (disch := omega) only [up_f, up_s, up_i, up_k, up_e]; omega))) only [up_f, up_s, up_i, up_k, up_e, V_iconst, V_bipush, V_sipush, V_conti, V_contn, V_goto, Option.some.injEq, exists_eq_left', true_and, and_true, m_fit, Option.isSome_some, List.map_nil, List.map_cons, List.sum_nil, List.sum_cons, List.all_nil, List.all_cons, m_cat, decide_true, Bool.and_true, Bool.true_and, Nat.zero_le, Int.toNat_natCast, Int.reduceAdd, Int.reduceSub, Int.reduceMul, Int.reduceNeg, Int.reduceLE, Int.reduceLT, Nat.reduceAdd, Nat.reduceLeDiff, Int.reduceToNat, Int.reduceEq, decide_eq_true_eq, true_or, or_true, exists_and_left, and_self, Nat.reduceMul, Nat.reduceSub, Nat.reduceLT, m_oa, Nat.reduceEqDiff, or_false, false_or, Sum.inl.injEq, Sum.inr.injEq, ↓reduceIte, ne_eq, not_false_eq_true, Int.reduceNe, exists_eq_left, D_36, R_36, X_36, F_36_140, J_36_9, F_36_19, F_36_143, J_36_29, F_36_259, W_36_259, F_36_153, F_36_262, J_36_52, F_36_23, J_36_83, V_istore5, V_iload5, V_aloadn1, G_5_7, V_aloadn0, G_2_2, A_ntW, T_antW, G_5_6, A_ruA0, T_aruA0, B_ruA0, U_iaload, U_aaload, V_astore6, V_iloadn2, V_aload6, V_dup_vI, V_dup_vR, G_8_4, V_iadd, m_add_eq, P_8_4, G_8_0, G_1_2, V_iloadn3, G_2_3, A_ntO, T_antO, B_ntO, V_imul, m_mul_eq, V_dup2, V_iload4, U_iastore, V_iinc5, b_36_0, b_36_43, b_36_80, b_36_86, h7, hcon, hx, h1102, hb])
        refine cast ?_ (kr _ hs (↑i + 1) (vR (wg n c)) (by omega))
        simp (disch := omega) only [up_f, hb]
end V
