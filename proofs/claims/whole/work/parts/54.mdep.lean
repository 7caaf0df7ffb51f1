/-! ===== departs, reckon of the model ===== -/
section V
variable {xs : Nat → Int32} {L : Nat} {e : Nat}
theorem k_126 {t T C k a b q : Nat} {D S0 : Sg} {l : Ls} {m : Int} {x : List Nat} {Q : MOut → MHp → Prop} (wp : WP D T C) (ht : t < T) (hm : 0 ≤ m ∧ m < 2000) (hk : (k : Int) + 2 ≤ D 54 0 t) (ha : D 55 0 (6 * t + k) = a) (hb : D 55 0 (6 * t + k + 1) = b) (hxc : ∀ c, c ∈ x → c < C) : ∀ (r : List Nat) (i : Nat) (ii : Int) (v : MV) (S N : Sg), i + r.length = x.length → (∀ (j c : Nat), r[j]? = some c → x[i + j]? = some c) → ii = i → MI T D S0 S N l t → MU t S x → (∀ (j c : Nat), x[j]? = some c → S 92 0 c = if q ≤ j then 1 else 0) →
    (∀ (S2 : Sg) (ii : Int) (v : MV), MI T D S0 S2 (seL D (6 * t + k) q r i N) l t → MU t S2 x → m_ok xs L 126 b_126_205 [vR 296, vI t, vI m, vI (6 * t + k : Nat), vI a, vI b, vI ii, v] [] (mk S2 e) Q) → m_ok xs L 126 b_126_78 [vR 296, vI t, vI m, vI (6 * t + k : Nat), vI a, vI b, vI ii, v] [] (mk S e) Q
  | [], i, ii, v, S, N, hi, hr, hii, mi, mu, h9, K => by
    subst hii
    have hT : T ≤ 6 := wp.2.2.1
    have hi2 : i = x.length := by simpa using hi
    have h84 : S 84 0 t = i := by rw [mu.2.1, hi2]
    have kk := fun ii v => K S ii v mi mu
    unfold b_126_78
    repeat' first
      | (refine V_icmp_ge.mpr ?_; first | rw [if_pos (by omega)] | rw [if_neg (by omega)] | split)
      | (refine V_icmp_ne.mpr ?_; first | rw [if_pos (by omega)] | rw [if_neg (by omega)] | split)
      | (refine V_if_eq.mpr ?_; first | rw [if_pos (by omega)] | rw [if_neg (by omega)] | split)
      | (simp (disch := (first | omega | (simp (disch := omega) only [up_f, up_s, up_i, up_k, up_e]; omega))) only [up_f, up_s, up_i, up_k, up_e, V_iconst, V_bipush, V_sipush, V_conti, V_contn, V_goto, Option.some.injEq, exists_eq_left', true_and, and_true, m_fit, Option.isSome_some, List.map_nil, List.map_cons, List.sum_nil, List.sum_cons, List.all_nil, List.all_cons, m_cat, decide_true, Bool.and_true, Bool.true_and, Nat.zero_le, Int.toNat_natCast, Int.reduceAdd, Int.reduceSub, Int.reduceMul, Int.reduceNeg, Int.reduceLE, Int.reduceLT, Nat.reduceAdd, Nat.reduceLeDiff, Int.reduceToNat, Int.reduceEq, decide_eq_true_eq, true_or, or_true, exists_and_left, and_self, Nat.reduceMul, Nat.reduceSub, Nat.reduceLT, m_oa, Nat.reduceEqDiff, or_false, false_or, Sum.inl.injEq, Sum.inr.injEq, ↓reduceIte, ne_eq, not_false_eq_true, Int.reduceNe, exists_eq_left, D_126, R_126, X_126, F_126_104, F_126_25, I_126_227, F_126_101, F_126_119, I_126_220, F_126_116, I_126_224, F_126_113, J_126_86, F_126_110, F_126_122, F_126_134, F_126_137, J_126_132, J_126_136, F_126_140, F_126_46, F_126_7, J_126_180, J_126_184, F_126_34, J_126_202, F_126_107, F_126_98, F_126_31, F_126_40, F_126_13, J_126_252, J_126_256, V_iloadn1, V_imul, m_mul_eq, V_aloadn0, G_10_37, A_328, T_a328, B_328, U_iaload, V_iadd, m_add_eq, V_istoren3, G_10_8, A_302, T_a302, B_302, V_iloadn3, V_istore4, V_istore5, V_iloadn2, V_iload4, V_iload5, T_10, G_10_36, A_327, T_a327, B_327, U_iastore, G_10_42, A_333, T_a333, B_333, G_10_41, A_332, T_a332, B_332, V_istore6, V_iload6, G_10_40, A_331, T_a331, B_331, G_10_39, A_330, T_a330, B_330, V_istore7, G_10_43, A_334, T_a334, B_334, V_iload7, G_10_47, A_338, T_a338, B_338, V_dup2, G_10_48, A_339, T_a339, B_339, U_baload, G_10_49, A_340, T_a340, B_340, G_10_16, A_309, T_a309, B_309, G_10_2, A_297, T_a297, B_297, G_10_11, A_305, T_a305, B_305, V_iinc6, G_10_38, A_329, T_a329, B_329, U_bastore, G_10_35, A_326, T_a326, B_326, G_10_10, A_304, T_a304, B_304, G_10_13, A_307, T_a307, B_307, G_10_3, A_298, T_a298, B_298, b_126_0, b_126_139, b_126_140, b_126_187, b_126_197, b_126_259, b_126_261, h84])
    all_goals exact kk _ _
  | c :: r, i, ii, v, S, N, hi, hr, hii, mi, mu, h9, K => by
    subst hii
    have hT : T ≤ 6 := wp.2.2.1
    have ht6 : t < 6 := by omega
    have hC : C ≤ 10 := wp.2.2.2.1
    have w54 := wp.2.2.2.2.1 t ht6
    have h84 := mu.2.1
    have hxi := hr 0 c (by simp)
    rw [Nat.add_zero] at hxi
    have hil : i < x.length := (List.getElem?_eq_some_iff.mp hxi).1
    have hx10 := mu.1
    have hcon : S 83 0 (10 * t + i) = c := mu.2.2 i c hxi
    have hcC : c < C := hxc c (List.mem_of_getElem? hxi)
    have hc : c < 10 := by omega
    have wc := wp.2.2.2.2.2.2.1 c hc
    have wk := wp.2.2.2.2.2.1 (6 * t + k + 1) (by omega)
    have p1 := wp_here wp (show 6 * t + k + 1 < 36 by omega)
    have hm3 : (6 * t + k + 1) / 6 = t := by omega
    have hm4 : (6 * t + k + 1) % 6 = k + 1 := by omega
    have u1 : usd D (6 * t + k + 1) := by rw [usd, hm3, hm4]; have := wp.1; omega
    have q1 := mi.1.2 (6 * t + k + 1) (by omega) u1
    rw [hb, Int.toNat_natCast] at q1
    obtain ⟨o, ho⟩ : ∃ o : Nat, D 62 0 c = o := ⟨(D 62 0 c).toNat, by omega⟩
    obtain ⟨w, hw⟩ : ∃ w : Nat, D 50 0 (6 * t + k + 1) = w := ⟨(D 50 0 (6 * t + k + 1)).toNat, by omega⟩
    have h62 : S 62 0 c = o := by rw [mi.1.1 62 _ rfl, ho]
    have h50 : S 50 0 b = w := by rw [q1.1, hw]
    have h58 : S 58 0 (6 * t + k + 1) = D 58 0 (6 * t + k + 1) := mi.1.1 58 _ rfl
    have hx1 : (10 * (t : Int) + (i : Int)).toNat = 10 * t + i := by omega
    have hx2 : (10 * ((6 * t + k : Nat) : Int) + (i : Int)).toNat = 10 * (6 * t + k) + i := by omega
    have hx3 : (6 * (o : Int) + (w : Int)).toNat = 6 * o + w := by omega
    have hx4 : (((6 * t + k : Nat) : Int) + 1).toNat = 6 * t + k + 1 := by omega
    have e91 : S 91 0 c = N 91 0 c := R91 mi.2.1 hc
    have e93 : S 93 0 (6 * o + w) = N 93 0 (6 * o + w) := R93 mi.2.1 (by omega)
    have kk : ∀ (bb vv : Int), bb = (if q ≤ i then 1 else 0) → vv = (if D 62 0 c = D 50 0 (6 * t + k + 1) then 0 else 4 * D 58 0 (6 * t + k + 1)) → m_ok xs L 126 b_126_78 [vR 296, vI t, vI m, vI (6 * t + k : Nat), vI a, vI b, vI ((i : Int) + 1), vI c] [] (mk (up (up (up S 87 0 (10 * (6 * t + k) + i) c) 91 0 c (m_add (S 91 0 c) bb)) 93 0 (6 * o + w) (m_add (S 93 0 (6 * o + w)) vv)) e) Q := fun bb vv hbb hvv => by
      have m2 : MI T D S0 (up (up (up S 87 0 (10 * (6 * t + k) + i) c) 91 0 c (m_add (S 91 0 c) bb)) 93 0 (6 * o + w) (m_add (S 93 0 (6 * o + w)) vv)) (seS D (6 * t + k) q i c N) l t := by
        unfold seS
        rw [← hvv, ← hbb, ho, hw, hx3, e91, e93]
        exact MI_up (MI_up (MI_up mi (by omega)) (by omega)) (by omega)
      refine k_126 wp ht hm hk ha hb hxc r (i + 1) _ _ _ (seS D (6 * t + k) q i c N) (by rw [← hi, List.length_cons]; omega) (fun j d hd => by rw [Nat.add_assoc, Nat.add_comm 1 j]; exact hr (j + 1) d (by simpa using hd)) (by omega) m2 (MU_ext mu (by simp (disch := omega) only [up_f]) (fun j _ => by simp (disch := omega) only [up_f])) (fun j d hd => by simp (disch := omega) only [up_f]; exact h9 j d hd) K
    have h92 := h9 i c hxi
    by_cases hq : q ≤ i
    · rw [if_pos hq] at h92
      by_cases hs : (o : Int) = w
      · have kk2 := kk 1 0 (by rw [if_pos hq]) (by rw [ho, hw, if_pos hs])
        unfold b_126_78
        repeat' first
          | (refine V_icmp_ge.mpr ?_; first | rw [if_pos (by omega)] | rw [if_neg (by omega)] | split)
          | (refine V_icmp_ne.mpr ?_; first | rw [if_pos (by omega)] | rw [if_neg (by omega)] | split)
          | (refine V_if_eq.mpr ?_; first | rw [if_pos (by omega)] | rw [if_neg (by omega)] | split)
          | (simp (disch := (first | omega | (simp (disch := omega) only [up_f, up_s, up_i, up_k, up_e]; omega))) only [up_f, up_s, up_i, up_k, up_e, V_iconst, V_bipush, V_sipush, V_conti, V_contn, V_goto, Option.some.injEq, exists_eq_left', true_and, and_true, m_fit, Option.isSome_some, List.map_nil, List.map_cons, List.sum_nil, List.sum_cons, List.all_nil, List.all_cons, m_cat, decide_true, Bool.and_true, Bool.true_and, Nat.zero_le, Int.toNat_natCast, Int.reduceAdd, Int.reduceSub, Int.reduceMul, Int.reduceNeg, Int.reduceLE, Int.reduceLT, Nat.reduceAdd, Nat.reduceLeDiff, Int.reduceToNat, Int.reduceEq, decide_eq_true_eq, true_or, or_true, exists_and_left, and_self, Nat.reduceMul, Nat.reduceSub, Nat.reduceLT, m_oa, Nat.reduceEqDiff, or_false, false_or, Sum.inl.injEq, Sum.inr.injEq, ↓reduceIte, ne_eq, not_false_eq_true, Int.reduceNe, exists_eq_left, D_126, R_126, X_126, F_126_104, F_126_25, I_126_227, F_126_101, F_126_119, I_126_220, F_126_116, I_126_224, F_126_113, J_126_86, F_126_110, F_126_122, F_126_134, F_126_137, J_126_132, J_126_136, F_126_140, F_126_46, F_126_7, J_126_180, J_126_184, F_126_34, J_126_202, F_126_107, F_126_98, F_126_31, F_126_40, F_126_13, J_126_252, J_126_256, V_iloadn1, V_imul, m_mul_eq, V_aloadn0, G_10_37, A_328, T_a328, B_328, U_iaload, V_iadd, m_add_eq, V_istoren3, G_10_8, A_302, T_a302, B_302, V_iloadn3, V_istore4, V_istore5, V_iloadn2, V_iload4, V_iload5, T_10, G_10_36, A_327, T_a327, B_327, U_iastore, G_10_42, A_333, T_a333, B_333, G_10_41, A_332, T_a332, B_332, V_istore6, V_iload6, G_10_40, A_331, T_a331, B_331, G_10_39, A_330, T_a330, B_330, V_istore7, G_10_43, A_334, T_a334, B_334, V_iload7, G_10_47, A_338, T_a338, B_338, V_dup2, G_10_48, A_339, T_a339, B_339, U_baload, G_10_49, A_340, T_a340, B_340, G_10_16, A_309, T_a309, B_309, G_10_2, A_297, T_a297, B_297, G_10_11, A_305, T_a305, B_305, V_iinc6, G_10_38, A_329, T_a329, B_329, U_bastore, G_10_35, A_326, T_a326, B_326, G_10_10, A_304, T_a304, B_304, G_10_13, A_307, T_a307, B_307, G_10_3, A_298, T_a298, B_298, b_126_0, b_126_139, b_126_140, b_126_187, b_126_197, b_126_259, b_126_261, h84, hcon, hx1, hx2, hx3, hx4, h62, h50, h58, h92])
        exact kk2
      · have kk2 := kk 1 (4 * D 58 0 (6 * t + k + 1)) (by rw [if_pos hq]) (by rw [ho, hw, if_neg hs])
        unfold b_126_78
        repeat' first
          | (refine V_icmp_ge.mpr ?_; first | rw [if_pos (by omega)] | rw [if_neg (by omega)] | split)
          | (refine V_icmp_ne.mpr ?_; first | rw [if_pos (by omega)] | rw [if_neg (by omega)] | split)
          | (refine V_if_eq.mpr ?_; first | rw [if_pos (by omega)] | rw [if_neg (by omega)] | split)
          | (simp (disch := (first | omega | (simp (disch := omega) only [up_f, up_s, up_i, up_k, up_e]; omega))) only [up_f, up_s, up_i, up_k, up_e, V_iconst, V_bipush, V_sipush, V_conti, V_contn, V_goto, Option.some.injEq, exists_eq_left', true_and, and_true, m_fit, Option.isSome_some, List.map_nil, List.map_cons, List.sum_nil, List.sum_cons, List.all_nil, List.all_cons, m_cat, decide_true, Bool.and_true, Bool.true_and, Nat.zero_le, Int.toNat_natCast, Int.reduceAdd, Int.reduceSub, Int.reduceMul, Int.reduceNeg, Int.reduceLE, Int.reduceLT, Nat.reduceAdd, Nat.reduceLeDiff, Int.reduceToNat, Int.reduceEq, decide_eq_true_eq, true_or, or_true, exists_and_left, and_self, Nat.reduceMul, Nat.reduceSub, Nat.reduceLT, m_oa, Nat.reduceEqDiff, or_false, false_or, Sum.inl.injEq, Sum.inr.injEq, ↓reduceIte, ne_eq, not_false_eq_true, Int.reduceNe, exists_eq_left, D_126, R_126, X_126, F_126_104, F_126_25, I_126_227, F_126_101, F_126_119, I_126_220, F_126_116, I_126_224, F_126_113, J_126_86, F_126_110, F_126_122, F_126_134, F_126_137, J_126_132, J_126_136, F_126_140, F_126_46, F_126_7, J_126_180, J_126_184, F_126_34, J_126_202, F_126_107, F_126_98, F_126_31, F_126_40, F_126_13, J_126_252, J_126_256, V_iloadn1, V_imul, m_mul_eq, V_aloadn0, G_10_37, A_328, T_a328, B_328, U_iaload, V_iadd, m_add_eq, V_istoren3, G_10_8, A_302, T_a302, B_302, V_iloadn3, V_istore4, V_istore5, V_iloadn2, V_iload4, V_iload5, T_10, G_10_36, A_327, T_a327, B_327, U_iastore, G_10_42, A_333, T_a333, B_333, G_10_41, A_332, T_a332, B_332, V_istore6, V_iload6, G_10_40, A_331, T_a331, B_331, G_10_39, A_330, T_a330, B_330, V_istore7, G_10_43, A_334, T_a334, B_334, V_iload7, G_10_47, A_338, T_a338, B_338, V_dup2, G_10_48, A_339, T_a339, B_339, U_baload, G_10_49, A_340, T_a340, B_340, G_10_16, A_309, T_a309, B_309, G_10_2, A_297, T_a297, B_297, G_10_11, A_305, T_a305, B_305, V_iinc6, G_10_38, A_329, T_a329, B_329, U_bastore, G_10_35, A_326, T_a326, B_326, G_10_10, A_304, T_a304, B_304, G_10_13, A_307, T_a307, B_307, G_10_3, A_298, T_a298, B_298, b_126_0, b_126_139, b_126_140, b_126_187, b_126_197, b_126_259, b_126_261, h84, hcon, hx1, hx2, hx3, hx4, h62, h50, h58, h92])
        exact kk2
    · rw [if_neg hq] at h92
      by_cases hs : (o : Int) = w
      · have kk2 := kk 0 0 (by rw [if_neg hq]) (by rw [ho, hw, if_pos hs])
        unfold b_126_78
        repeat' first
          | (refine V_icmp_ge.mpr ?_; first | rw [if_pos (by omega)] | rw [if_neg (by omega)] | split)
          | (refine V_icmp_ne.mpr ?_; first | rw [if_pos (by omega)] | rw [if_neg (by omega)] | split)
          | (refine V_if_eq.mpr ?_; first | rw [if_pos (by omega)] | rw [if_neg (by omega)] | split)
          | (simp (disch := (first | omega | (simp (disch := omega) only [up_f, up_s, up_i, up_k, up_e]; omega))) only [up_f, up_s, up_i, up_k, up_e, V_iconst, V_bipush, V_sipush, V_conti, V_contn, V_goto, Option.some.injEq, exists_eq_left', true_and, and_true, m_fit, Option.isSome_some, List.map_nil, List.map_cons, List.sum_nil, List.sum_cons, List.all_nil, List.all_cons, m_cat, decide_true, Bool.and_true, Bool.true_and, Nat.zero_le, Int.toNat_natCast, Int.reduceAdd, Int.reduceSub, Int.reduceMul, Int.reduceNeg, Int.reduceLE, Int.reduceLT, Nat.reduceAdd, Nat.reduceLeDiff, Int.reduceToNat, Int.reduceEq, decide_eq_true_eq, true_or, or_true, exists_and_left, and_self, Nat.reduceMul, Nat.reduceSub, Nat.reduceLT, m_oa, Nat.reduceEqDiff, or_false, false_or, Sum.inl.injEq, Sum.inr.injEq, ↓reduceIte, ne_eq, not_false_eq_true, Int.reduceNe, exists_eq_left, D_126, R_126, X_126, F_126_104, F_126_25, I_126_227, F_126_101, F_126_119, I_126_220, F_126_116, I_126_224, F_126_113, J_126_86, F_126_110, F_126_122, F_126_134, F_126_137, J_126_132, J_126_136, F_126_140, F_126_46, F_126_7, J_126_180, J_126_184, F_126_34, J_126_202, F_126_107, F_126_98, F_126_31, F_126_40, F_126_13, J_126_252, J_126_256, V_iloadn1, V_imul, m_mul_eq, V_aloadn0, G_10_37, A_328, T_a328, B_328, U_iaload, V_iadd, m_add_eq, V_istoren3, G_10_8, A_302, T_a302, B_302, V_iloadn3, V_istore4, V_istore5, V_iloadn2, V_iload4, V_iload5, T_10, G_10_36, A_327, T_a327, B_327, U_iastore, G_10_42, A_333, T_a333, B_333, G_10_41, A_332, T_a332, B_332, V_istore6, V_iload6, G_10_40, A_331, T_a331, B_331, G_10_39, A_330, T_a330, B_330, V_istore7, G_10_43, A_334, T_a334, B_334, V_iload7, G_10_47, A_338, T_a338, B_338, V_dup2, G_10_48, A_339, T_a339, B_339, U_baload, G_10_49, A_340, T_a340, B_340, G_10_16, A_309, T_a309, B_309, G_10_2, A_297, T_a297, B_297, G_10_11, A_305, T_a305, B_305, V_iinc6, G_10_38, A_329, T_a329, B_329, U_bastore, G_10_35, A_326, T_a326, B_326, G_10_10, A_304, T_a304, B_304, G_10_13, A_307, T_a307, B_307, G_10_3, A_298, T_a298, B_298, b_126_0, b_126_139, b_126_140, b_126_187, b_126_197, b_126_259, b_126_261, h84, hcon, hx1, hx2, hx3, hx4, h62, h50, h58, h92])
        exact kk2
      · have kk2 := kk 0 (4 * D 58 0 (6 * t + k + 1)) (by rw [if_neg hq]) (by rw [ho, hw, if_neg hs])
        unfold b_126_78
        repeat' first
          | (refine V_icmp_ge.mpr ?_; first | rw [if_pos (by omega)] | rw [if_neg (by omega)] | split)
          | (refine V_icmp_ne.mpr ?_; first | rw [if_pos (by omega)] | rw [if_neg (by omega)] | split)
          | (refine V_if_eq.mpr ?_; first | rw [if_pos (by omega)] | rw [if_neg (by omega)] | split)
          | (simp (disch := (first | omega | (simp (disch := omega) only [up_f, up_s, up_i, up_k, up_e]; omega))) only [up_f, up_s, up_i, up_k, up_e, V_iconst, V_bipush, V_sipush, V_conti, V_contn, V_goto, Option.some.injEq, exists_eq_left', true_and, and_true, m_fit, Option.isSome_some, List.map_nil, List.map_cons, List.sum_nil, List.sum_cons, List.all_nil, List.all_cons, m_cat, decide_true, Bool.and_true, Bool.true_and, Nat.zero_le, Int.toNat_natCast, Int.reduceAdd, Int.reduceSub, Int.reduceMul, Int.reduceNeg, Int.reduceLE, Int.reduceLT, Nat.reduceAdd, Nat.reduceLeDiff, Int.reduceToNat, Int.reduceEq, decide_eq_true_eq, true_or, or_true, exists_and_left, and_self, Nat.reduceMul, Nat.reduceSub, Nat.reduceLT, m_oa, Nat.reduceEqDiff, or_false, false_or, Sum.inl.injEq, Sum.inr.injEq, ↓reduceIte, ne_eq, not_false_eq_true, Int.reduceNe, exists_eq_left, D_126, R_126, X_126, F_126_104, F_126_25, I_126_227, F_126_101, F_126_119, I_126_220, F_126_116, I_126_224, F_126_113, J_126_86, F_126_110, F_126_122, F_126_134, F_126_137, J_126_132, J_126_136, F_126_140, F_126_46, F_126_7, J_126_180, J_126_184, F_126_34, J_126_202, F_126_107, F_126_98, F_126_31, F_126_40, F_126_13, J_126_252, J_126_256, V_iloadn1, V_imul, m_mul_eq, V_aloadn0, G_10_37, A_328, T_a328, B_328, U_iaload, V_iadd, m_add_eq, V_istoren3, G_10_8, A_302, T_a302, B_302, V_iloadn3, V_istore4, V_istore5, V_iloadn2, V_iload4, V_iload5, T_10, G_10_36, A_327, T_a327, B_327, U_iastore, G_10_42, A_333, T_a333, B_333, G_10_41, A_332, T_a332, B_332, V_istore6, V_iload6, G_10_40, A_331, T_a331, B_331, G_10_39, A_330, T_a330, B_330, V_istore7, G_10_43, A_334, T_a334, B_334, V_iload7, G_10_47, A_338, T_a338, B_338, V_dup2, G_10_48, A_339, T_a339, B_339, U_baload, G_10_49, A_340, T_a340, B_340, G_10_16, A_309, T_a309, B_309, G_10_2, A_297, T_a297, B_297, G_10_11, A_305, T_a305, B_305, V_iinc6, G_10_38, A_329, T_a329, B_329, U_bastore, G_10_35, A_326, T_a326, B_326, G_10_10, A_304, T_a304, B_304, G_10_13, A_307, T_a307, B_307, G_10_3, A_298, T_a298, B_298, b_126_0, b_126_139, b_126_140, b_126_187, b_126_197, b_126_259, b_126_261, h84, hcon, hx1, hx2, hx3, hx4, h62, h50, h58, h92])
        exact kk2
theorem r_126 {t T C : Nat} {D S0 S : Sg} {s : St} {m : Int} (wp : WP D T C) (ht : t < T) (hm : 0 ≤ m ∧ m < 2000) (h1 : s.1 81 0 t + 2 ≤ D 54 0 t) (w : WN D T C s) (mr : MR T D S0 S s) :
    ∃ S2, MR T D S0 S2 (dep D s t m) ∧ ∀ Q, m_do xs L 126 [vR 296, vI t, vI m] (mk S e) Q ↔ Q (.inl none) (mk S2 e) := by
  have hT : T ≤ 6 := wp.2.2.1
  have ht6 : t < 6 := by omega
  have hC : C ≤ 10 := wp.2.2.2.1
  have w1 := w.1 t ht
  have w54 := wp.2.2.2.2.1 t ht6
  obtain ⟨k, hk⟩ : ∃ k : Nat, s.1 81 0 t = k := ⟨(s.1 81 0 t).toNat, by omega⟩
  have hkn : (s.1 81 0 t).toNat = k := by omega
  have hs2 : (k : Int) + 2 ≤ D 54 0 t := by omega
  have p0 := wp_here wp (show 6 * t + k < 36 by omega)
  have p1 := wp_here wp (show 6 * t + k + 1 < 36 by omega)
  obtain ⟨a, ha⟩ : ∃ a : Nat, D 55 0 (6 * t + k) = a := ⟨(D 55 0 (6 * t + k)).toNat, by omega⟩
  obtain ⟨b, hb⟩ : ∃ b : Nat, D 55 0 (6 * t + k + 1) = b := ⟨(D 55 0 (6 * t + k + 1)).toNat, by omega⟩
  have hm1 : (6 * t + k) / 6 = t := by omega
  have hm2 : (6 * t + k) % 6 = k := by omega
  have hm3 : (6 * t + k + 1) / 6 = t := by omega
  have hm4 : (6 * t + k + 1) % 6 = k + 1 := by omega
  have u0 : usd D (6 * t + k) := by rw [usd, hm1, hm2]; have := wp.1; omega
  have u1 : usd D (6 * t + k + 1) := by rw [usd, hm3, hm4]; have := wp.1; omega
  have h81 : S 81 0 t = k := by rw [R81 mr.2.1 ht6, hk]
  have hx : 6 * (t : Int) + (k : Int) = (6 * t + k : Nat) := by omega
  have hx5 : (((6 * t + k : Nat) : Int) + 1).toNat = 6 * t + k + 1 := by omega
  have h55a : S 55 0 (6 * t + k) = a := by rw [mr.1.1 55 _ rfl, ha]
  have h55b : S 55 0 (6 * t + k + 1) = b := by rw [mr.1.1 55 _ rfl, hb]
  have v0 := V_of w
  have v3 := V_de3 wp ht hm (by omega) v0
  have v3l := v3.1.1 t ht
  rw [setL_s] at v3l
  have hl3 := (WL1_len hC v3l).2
  have hw1 := wsum_ran (D := D) (W := 64) (fun c hc => by have := wp.2.2.2.2.2.2.1 c hc; omega) _ hl3
  have hw2 := wsum_ran (D := D) (W := 65) (fun c hc => by have := wp.2.2.2.2.2.2.1 c hc; omega) _ hl3
  have hlen3 := (WL1_len hC v3l).1
  obtain ⟨S1, ⟨m1, q1, c1⟩, i125⟩ := r_125 (xs := xs) (L := L) (e := e) wp ht hm hs2 ha hb hk w mr
  have v3a : V D (up (de3 D s t m).1 80 0 (6 * t + k) m) (setL s.2 t (de3 D s t m).2) T C := V_ext v3 (fun c => up_f (by decide)) (fun c => up_f (by decide)) (fun c => up_f (by decide))
  have m1a : PM D (up S1 80 0 (6 * t + k) m) := PM_up m1.1 (by omega)
  have q1a : MU t (up S1 80 0 (6 * t + k) m) (de3 D s t m).2 := MU_ext q1 (up_f (by decide)) (fun j _ => up_f (by decide))
  have i123 := loadOf (xs := xs) (L := L) (e := e) wp ht m1a v3a q1a
  have m1b : PM D (up (up S1 80 0 (6 * t + k) m) 86 0 (6 * t + k) (wsum D 64 (de3 D s t m).2 + 80)) := PM_up m1a (by omega)
  have q1b : MU t (up (up S1 80 0 (6 * t + k) m) 86 0 (6 * t + k) (wsum D 64 (de3 D s t m).2 + 80)) (de3 D s t m).2 := MU_ext q1a (up_f (by decide)) (fun j _ => up_f (by decide))
  have v3b : V D (up (up (de3 D s t m).1 80 0 (6 * t + k) m) 86 0 (6 * t + k) (wsum D 64 (de3 D s t m).2 + 80)) (setL s.2 t (de3 D s t m).2) T C := V_ext v3a (fun c => up_f (by decide)) (fun c => up_f (by decide)) (fun c => up_f (by decide))
  have i124 := brakeOf (xs := xs) (L := L) (e := e) wp ht m1b v3b q1b
  refine m_do_ex ?_
  repeat' first
    | (refine V_icmp_ge.mpr ?_; first | rw [if_pos (by omega)] | rw [if_neg (by omega)] | split)
    | (refine V_icmp_ne.mpr ?_; first | rw [if_pos (by omega)] | rw [if_neg (by omega)] | split)
    | (refine V_if_eq.mpr ?_; first | rw [if_pos (by omega)] | rw [if_neg (by omega)] | split)
    | (simp (disch := (first | omega | (simp (disch := omega) only [up_f, up_s, up_i, up_k, up_e]; omega))) only [up_f, up_s, up_i, up_k, up_e, V_iconst, V_bipush, V_sipush, V_conti, V_contn, V_goto, Option.some.injEq, exists_eq_left', true_and, and_true, m_fit, Option.isSome_some, List.map_nil, List.map_cons, List.sum_nil, List.sum_cons, List.all_nil, List.all_cons, m_cat, decide_true, Bool.and_true, Bool.true_and, Nat.zero_le, Int.toNat_natCast, Int.reduceAdd, Int.reduceSub, Int.reduceMul, Int.reduceNeg, Int.reduceLE, Int.reduceLT, Nat.reduceAdd, Nat.reduceLeDiff, Int.reduceToNat, Int.reduceEq, decide_eq_true_eq, true_or, or_true, exists_and_left, and_self, Nat.reduceMul, Nat.reduceSub, Nat.reduceLT, m_oa, Nat.reduceEqDiff, or_false, false_or, Sum.inl.injEq, Sum.inr.injEq, ↓reduceIte, ne_eq, not_false_eq_true, Int.reduceNe, exists_eq_left, D_126, R_126, X_126, F_126_104, F_126_25, I_126_227, F_126_101, F_126_119, I_126_220, F_126_116, I_126_224, F_126_113, J_126_86, F_126_110, F_126_122, F_126_134, F_126_137, J_126_132, J_126_136, F_126_140, F_126_46, F_126_7, J_126_180, J_126_184, F_126_34, J_126_202, F_126_107, F_126_98, F_126_31, F_126_40, F_126_13, J_126_252, J_126_256, V_iloadn1, V_imul, m_mul_eq, V_aloadn0, G_10_37, A_328, T_a328, B_328, U_iaload, V_iadd, m_add_eq, V_istoren3, G_10_8, A_302, T_a302, B_302, V_iloadn3, V_istore4, V_istore5, V_iloadn2, V_iload4, V_iload5, T_10, G_10_36, A_327, T_a327, B_327, U_iastore, G_10_42, A_333, T_a333, B_333, G_10_41, A_332, T_a332, B_332, V_istore6, V_iload6, G_10_40, A_331, T_a331, B_331, G_10_39, A_330, T_a330, B_330, V_istore7, G_10_43, A_334, T_a334, B_334, V_iload7, G_10_47, A_338, T_a338, B_338, V_dup2, G_10_48, A_339, T_a339, B_339, U_baload, G_10_49, A_340, T_a340, B_340, G_10_16, A_309, T_a309, B_309, G_10_2, A_297, T_a297, B_297, G_10_11, A_305, T_a305, B_305, V_iinc6, G_10_38, A_329, T_a329, B_329, U_bastore, G_10_35, A_326, T_a326, B_326, G_10_10, A_304, T_a304, B_304, G_10_13, A_307, T_a307, B_307, G_10_3, A_298, T_a298, B_298, b_126_0, b_126_139, b_126_140, b_126_187, b_126_197, b_126_259, b_126_261, h81, hx, hx5, h55a, h55b, i125, i123, i124])
  refine k_126 (q := (de1 D s t m).2.length) wp ht hm hs2 ha hb (fun c hc => (v3l.2 c hc).1) (de3 D s t m).2 0 0 _ _ (up (up (up (de3 D s t m).1 80 0 (6 * t + k) m) 86 0 (6 * t + k) (wsum D 64 (de3 D s t m).2 + 80)) 85 0 (6 * t + k) (wsum D 65 (de3 D s t m).2 + 60)) (by omega) (fun j c hj => by rw [Nat.zero_add]; exact hj) rfl (MI_dep m1) (MU_ext q1b (up_f (by decide)) (fun j _ => up_f (by decide))) (fun j c hj => by simp (disch := omega) only [up_f]; exact c1 j c hj) (fun S2 ii v m2 q2 => ?_)
  have g0 := m2.1.2 (6 * t + k) (by omega) u0
  have g1 := m2.1.2 (6 * t + k + 1) (by omega) u1
  rw [ha, Int.toNat_natCast] at g0
  rw [hb, Int.toNat_natCast] at g1
  have g51a := g0.2
  have g51b := g1.2
  have h57 : S2 57 0 (6 * t + k + 1) = D 57 0 (6 * t + k + 1) := m2.1.1 57 _ rfl
  have h60 : S2 60 0 (6 * t + k + 1) = D 60 0 (6 * t + k + 1) := m2.1.1 60 _ rfl
  have hx4 := hx5
  have wk := wp.2.2.2.2.2.1 (6 * t + k + 1) (by omega)
  have hE : dep D s t m = (up (up (seL D (6 * t + k) (de1 D s t m).2.length (de3 D s t m).2 0 (up (up (up (de3 D s t m).1 80 0 (6 * t + k) m) 86 0 (6 * t + k) (wsum D 64 (de3 D s t m).2 + 80)) 85 0 (6 * t + k) (wsum D 65 (de3 D s t m).2 + 60))) 82 0 t 1) 79 0 (6 * t + k + 1) (m + D 57 0 (6 * t + k + 1) + D 60 0 (6 * t + k + 1) + if D 51 0 (6 * t + k) = D 51 0 (6 * t + k + 1) then 0 else 15), setL s.2 t (de3 D s t m).2) := by
    unfold dep deN
    rw [hkn]
  have hfin : ∀ v, v = (m + D 57 0 (6 * t + k + 1) + D 60 0 (6 * t + k + 1) + if D 51 0 (6 * t + k) = D 51 0 (6 * t + k + 1) then 0 else 15) → MR T D S0 (up (up S2 82 0 t 1) 79 0 (6 * t + k + 1) v) (dep D s t m) := fun v hv => by
    rw [hE, ← hv]
    exact MI_MR (MI_up (MI_up m2 (by omega)) (by omega)) (MU_ext q2 (by simp (disch := omega) only [up_f]) (fun j _ => by simp (disch := omega) only [up_f]))
  by_cases hg : D 51 0 (6 * t + k) = D 51 0 (6 * t + k + 1)
  · unfold b_126_205
    repeat' first
      | (refine V_icmp_ge.mpr ?_; first | rw [if_pos (by omega)] | rw [if_neg (by omega)] | split)
      | (refine V_icmp_ne.mpr ?_; first | rw [if_pos (by omega)] | rw [if_neg (by omega)] | split)
      | (refine V_if_eq.mpr ?_; first | rw [if_pos (by omega)] | rw [if_neg (by omega)] | split)
      | (simp (disch := (first | omega | (simp (disch := omega) only [up_f, up_s, up_i, up_k, up_e]; omega))) only [up_f, up_s, up_i, up_k, up_e, V_iconst, V_bipush, V_sipush, V_conti, V_contn, V_goto, Option.some.injEq, exists_eq_left', true_and, and_true, m_fit, Option.isSome_some, List.map_nil, List.map_cons, List.sum_nil, List.sum_cons, List.all_nil, List.all_cons, m_cat, decide_true, Bool.and_true, Bool.true_and, Nat.zero_le, Int.toNat_natCast, Int.reduceAdd, Int.reduceSub, Int.reduceMul, Int.reduceNeg, Int.reduceLE, Int.reduceLT, Nat.reduceAdd, Nat.reduceLeDiff, Int.reduceToNat, Int.reduceEq, decide_eq_true_eq, true_or, or_true, exists_and_left, and_self, Nat.reduceMul, Nat.reduceSub, Nat.reduceLT, m_oa, Nat.reduceEqDiff, or_false, false_or, Sum.inl.injEq, Sum.inr.injEq, ↓reduceIte, ne_eq, not_false_eq_true, Int.reduceNe, exists_eq_left, D_126, R_126, X_126, F_126_104, F_126_25, I_126_227, F_126_101, F_126_119, I_126_220, F_126_116, I_126_224, F_126_113, J_126_86, F_126_110, F_126_122, F_126_134, F_126_137, J_126_132, J_126_136, F_126_140, F_126_46, F_126_7, J_126_180, J_126_184, F_126_34, J_126_202, F_126_107, F_126_98, F_126_31, F_126_40, F_126_13, J_126_252, J_126_256, V_iloadn1, V_imul, m_mul_eq, V_aloadn0, G_10_37, A_328, T_a328, B_328, U_iaload, V_iadd, m_add_eq, V_istoren3, G_10_8, A_302, T_a302, B_302, V_iloadn3, V_istore4, V_istore5, V_iloadn2, V_iload4, V_iload5, T_10, G_10_36, A_327, T_a327, B_327, U_iastore, G_10_42, A_333, T_a333, B_333, G_10_41, A_332, T_a332, B_332, V_istore6, V_iload6, G_10_40, A_331, T_a331, B_331, G_10_39, A_330, T_a330, B_330, V_istore7, G_10_43, A_334, T_a334, B_334, V_iload7, G_10_47, A_338, T_a338, B_338, V_dup2, G_10_48, A_339, T_a339, B_339, U_baload, G_10_49, A_340, T_a340, B_340, G_10_16, A_309, T_a309, B_309, G_10_2, A_297, T_a297, B_297, G_10_11, A_305, T_a305, B_305, V_iinc6, G_10_38, A_329, T_a329, B_329, U_bastore, G_10_35, A_326, T_a326, B_326, G_10_10, A_304, T_a304, B_304, G_10_13, A_307, T_a307, B_307, G_10_3, A_298, T_a298, B_298, b_126_0, b_126_139, b_126_140, b_126_187, b_126_197, b_126_205, b_126_259, b_126_261, hx4, h57, h60, g51a, g51b])
    exact ⟨_, rfl, hfin _ (by rw [if_pos hg])⟩
  · unfold b_126_205
    repeat' first
      | (refine V_icmp_ge.mpr ?_; first | rw [if_pos (by omega)] | rw [if_neg (by omega)] | split)
      | (refine V_icmp_ne.mpr ?_; first | rw [if_pos (by omega)] | rw [if_neg (by omega)] | split)
      | (refine V_if_eq.mpr ?_; first | rw [if_pos (by omega)] | rw [if_neg (by omega)] | split)
      | (simp (disch := (first | omega | (simp (disch := omega) only [up_f, up_s, up_i, up_k, up_e]; omega))) only [up_f, up_s, up_i, up_k, up_e, V_iconst, V_bipush, V_sipush, V_conti, V_contn, V_goto, Option.some.injEq, exists_eq_left', true_and, and_true, m_fit, Option.isSome_some, List.map_nil, List.map_cons, List.sum_nil, List.sum_cons, List.all_nil, List.all_cons, m_cat, decide_true, Bool.and_true, Bool.true_and, Nat.zero_le, Int.toNat_natCast, Int.reduceAdd, Int.reduceSub, Int.reduceMul, Int.reduceNeg, Int.reduceLE, Int.reduceLT, Nat.reduceAdd, Nat.reduceLeDiff, Int.reduceToNat, Int.reduceEq, decide_eq_true_eq, true_or, or_true, exists_and_left, and_self, Nat.reduceMul, Nat.reduceSub, Nat.reduceLT, m_oa, Nat.reduceEqDiff, or_false, false_or, Sum.inl.injEq, Sum.inr.injEq, ↓reduceIte, ne_eq, not_false_eq_true, Int.reduceNe, exists_eq_left, D_126, R_126, X_126, F_126_104, F_126_25, I_126_227, F_126_101, F_126_119, I_126_220, F_126_116, I_126_224, F_126_113, J_126_86, F_126_110, F_126_122, F_126_134, F_126_137, J_126_132, J_126_136, F_126_140, F_126_46, F_126_7, J_126_180, J_126_184, F_126_34, J_126_202, F_126_107, F_126_98, F_126_31, F_126_40, F_126_13, J_126_252, J_126_256, V_iloadn1, V_imul, m_mul_eq, V_aloadn0, G_10_37, A_328, T_a328, B_328, U_iaload, V_iadd, m_add_eq, V_istoren3, G_10_8, A_302, T_a302, B_302, V_iloadn3, V_istore4, V_istore5, V_iloadn2, V_iload4, V_iload5, T_10, G_10_36, A_327, T_a327, B_327, U_iastore, G_10_42, A_333, T_a333, B_333, G_10_41, A_332, T_a332, B_332, V_istore6, V_iload6, G_10_40, A_331, T_a331, B_331, G_10_39, A_330, T_a330, B_330, V_istore7, G_10_43, A_334, T_a334, B_334, V_iload7, G_10_47, A_338, T_a338, B_338, V_dup2, G_10_48, A_339, T_a339, B_339, U_baload, G_10_49, A_340, T_a340, B_340, G_10_16, A_309, T_a309, B_309, G_10_2, A_297, T_a297, B_297, G_10_11, A_305, T_a305, B_305, V_iinc6, G_10_38, A_329, T_a329, B_329, U_bastore, G_10_35, A_326, T_a326, B_326, G_10_10, A_304, T_a304, B_304, G_10_13, A_307, T_a307, B_307, G_10_3, A_298, T_a298, B_298, b_126_0, b_126_139, b_126_140, b_126_187, b_126_197, b_126_205, b_126_259, b_126_261, hx4, h57, h60, g51a, g51b])
    exact ⟨_, rfl, hfin _ (by rw [if_neg hg])⟩
end V
