/-! ===== couple of the model ===== -/
def coA (D : Sg) (t own : Nat) (here m : Int) : Nat → Sg × List Nat → List Nat
  | 0, _ => []
  | c + 1, s => if cms D (coL D t own here m c s).1 t own here m c then coA D t own here m c s ++ [c] else coA D t own here m c s
theorem coL_A {D : Sg} {t own : Nat} {here m : Int} : ∀ (c : Nat) (s : Sg × List Nat), (coL D t own here m c s).2 = s.2 ++ coA D t own here m c s
  | 0, s => by simp [coL, coA]
  | c + 1, s => by
    unfold coL coA
    split
    · show (coL D t own here m c s).2 ++ [c] = _
      rw [coL_A c s, List.append_assoc]
    · exact coL_A c s
theorem coA_lt {D : Sg} {t own : Nat} {here m : Int} {d : Nat} : ∀ (c : Nat) (s : Sg × List Nat), d ∈ coA D t own here m c s → d < c
  | 0, s, h => by simp [coA] at h
  | c + 1, s, h => by
    unfold coA at h
    split at h
    · rcases List.mem_append.mp h with h | h
      · have := coA_lt c s h; omega
      · rw [List.mem_singleton] at h; omega
    · have := coA_lt c s h; omega
theorem heL_get {D : Sg} {t : Nat} {here m : Int} {j c : Nat} : ∀ (z : Nat) (s : Sg × List Nat), (heL D t here m z s).2[j]? = some c → s.2[j]? = some c
  | 0, _, h => h
  | z + 1, s, h => by
    unfold heL at h
    split at h
    · have h2 := heL_get z _ h
      rw [List.getElem?_take] at h2
      split at h2
      · exact h2
      · cases h2
    · exact h
theorem sumF_wsum {D S : Sg} {W t : Nat} {x : List Nat} (h : LA (fun j => S 83 0 (10 * t + j)) x) (hx : ∀ c, c ∈ x → S W 0 c = D W 0 c) : ∀ k, k ≤ x.length → sumF S W t k = wsum D W (x.take k)
  | 0, _ => by simp [sumF, wsum_nil]
  | k + 1, hk => by
    have hk2 : k < x.length := by omega
    have h3 := h k x[k] (List.getElem?_eq_getElem hk2)
    simp only at h3
    rw [sumF, sumF_wsum h hx k (by omega), ← List.take_append_getElem hk2, wsum_app, wsum_cons, wsum_nil, h3, Int.toNat_natCast, hx _ (List.getElem_mem hk2), Int.add_zero]
theorem hvy_nil {D : Sg} {T C t : Nat} (wp : WP D T C) (ht : t < 6) : ¬ hvy D t [] := by
  have := wp.2.2.2.2.1 t ht
  unfold hvy
  rw [wsum_nil, wsum_nil]
  omega
section V
variable {xs : Nat → Int32} {L : Nat} {e : Nat}
theorem loads {t T C W : Nat} {D S N : Sg} {l : Ls} {x : List Nat} (wp : WP D T C) (ht : t < T) (pm : PM D S) (hv : V D N (setL l t x) T C) (mu : MU t S x) (hW : W = 64 ∨ W = 65) : sumF S W t x.length = wsum D W x ∧ (∀ k, k < x.length → 0 ≤ S 83 0 (10 * t + k) ∧ S 83 0 (10 * t + k) < 10) ∧ ∀ i, i < 10 → 0 ≤ S W 0 i ∧ S W 0 i ≤ 80 := by
  have hT : T ≤ 6 := wp.2.2.1
  have h1 := hv.1.1 t ht
  rw [setL_s] at h1
  obtain ⟨hl, hb⟩ := WL1_len wp.2.2.2.1 h1
  have hp : plF W = true := by rcases hW with rfl | rfl <;> rfl
  refine ⟨?_, fun j hj => ?_, fun c hc => ?_⟩
  · rw [sumF_wsum mu.2.2 (fun c hc => pm.1 W c hp) x.length (by omega), List.take_length]
  · have h3 := mu.2.2 j x[j] (List.getElem?_eq_getElem hj)
    simp only at h3
    have := hb x[j] (List.getElem_mem hj)
    omega
  · rw [pm.1 W c hp]
    have := wp.2.2.2.2.2.2.1 c hc
    rcases hW with rfl | rfl <;> omega
theorem loadOf {t T C : Nat} {D S N : Sg} {l : Ls} {x : List Nat} (wp : WP D T C) (ht : t < T) (pm : PM D S) (hv : V D N (setL l t x) T C) (mu : MU t S x) (Q : MOut → MHp → Prop) : m_do xs L 123 [vR 296, vI t] (mk S e) Q ↔ Q (.inl (some (vI (wsum D 64 x)))) (mk S e) := by
  have hT : T ≤ 6 := wp.2.2.1
  obtain ⟨h1, h2, h3⟩ := loads wp ht pm hv mu (Or.inl rfl)
  rw [s_123 (n := x.length) (by omega) mu.1 mu.2.1 h2 h3, h1]
theorem brakeOf {t T C : Nat} {D S N : Sg} {l : Ls} {x : List Nat} (wp : WP D T C) (ht : t < T) (pm : PM D S) (hv : V D N (setL l t x) T C) (mu : MU t S x) (Q : MOut → MHp → Prop) : m_do xs L 124 [vR 296, vI t] (mk S e) Q ↔ Q (.inl (some (vI (wsum D 65 x)))) (mk S e) := by
  have hT : T ≤ 6 := wp.2.2.1
  obtain ⟨h1, h2, h3⟩ := loads wp ht pm hv mu (Or.inr rfl)
  rw [s_124 (n := x.length) (by omega) mu.1 mu.2.1 h2 h3, h1]
theorem allowed {t k c a b T C : Nat} {D S : Sg} (wp : WP D T C) (ht : t < T) (hk : (k : Int) + 2 ≤ D 54 0 t) (hc : c < 10) (pm : PM D S) (ha : D 55 0 (6 * t + k) = a) (hb : D 55 0 (6 * t + k + 1) = b) (Q : MOut → MHp → Prop) : m_do xs L 121 [vR 296, vI c, vI a, vI b] (mk S e) Q ↔ Q (.inl (some (vI (if alw D (6 * t + k) c then 1 else 0)))) (mk S e) := by
  have hT : T ≤ 6 := wp.2.2.1
  have w54 := wp.2.2.2.2.1 t (by omega)
  have p0 := wp_here wp (show 6 * t + k < 36 by omega)
  have p1 := wp_here wp (show 6 * t + k + 1 < 36 by omega)
  have hm1 : (6 * t + k) / 6 = t := by omega
  have hm2 : (6 * t + k) % 6 = k := by omega
  have hm3 : (6 * t + k + 1) / 6 = t := by omega
  have hm4 : (6 * t + k + 1) % 6 = k + 1 := by omega
  have u0 : usd D (6 * t + k) := by rw [usd, hm1, hm2]; have := wp.1; omega
  have u1 : usd D (6 * t + k + 1) := by rw [usd, hm3, hm4]; have := wp.1; omega
  have q0 := pm.2 (6 * t + k) (by omega) u0
  have q1 := pm.2 (6 * t + k + 1) (by omega) u1
  rw [ha, Int.toNat_natCast] at q0
  rw [hb, Int.toNat_natCast] at q1
  rw [s_121 hc (by omega) (by omega), pm.1 66 _ rfl, pm.1 67 _ rfl, q1.1, q0.2, q1.2]
theorem k_125a {t T C k a b : Nat} {D S0 : Sg} {l : Ls} {m : Int} {Q : MOut → MHp → Prop} (wp : WP D T C) (ht : t < T) (hm : 0 ≤ m ∧ m < 2000) (hk : (k : Int) + 2 ≤ D 54 0 t) (ha : D 55 0 (6 * t + k) = a) (hb : D 55 0 (6 * t + k + 1) = b) : ∀ (r p : List Nat) (N S : Sg) (pl : Int) (v : MV), pl = p.length → MI T D S0 S N l t → V D N (setL l t (p ++ r)) T C → MU t S (p ++ r) →
    (∀ (S2 : Sg) (pl : Int) (v : MV), MI T D S0 S2 (drL D (6 * t + k) a m r N).1 l t → MU t S2 (p ++ (drL D (6 * t + k) a m r N).2) → m_ok xs L 125 b_125_54 [vR 296, vI t, vI m, vI a, vI b, vI pl, v] [] (mk S2 e) Q) → m_ok xs L 125 b_125_3 [vR 296, vI t, vI m, vI a, vI b, vI pl, v] [] (mk S e) Q
  | [], p, N, S, pl, v, hpl, mi, hv, mq, K => by
    subst hpl
    have hT : T ≤ 6 := wp.2.2.1
    rw [List.append_nil] at mq
    have h84 := mq.2.1
    have kk := fun pl v => K S pl v mi (by simp only [drL, List.append_nil]; exact mq)
    unfold b_125_3
    repeat' first
      | (refine V_icmp_ge.mpr ?_; first | rw [if_pos (by omega)] | rw [if_neg (by omega)] | split)
      | (refine V_icmp_gt.mpr ?_; first | rw [if_pos (by omega)] | rw [if_neg (by omega)] | split)
      | (refine V_if_eq.mpr ?_; first | rw [if_pos (by omega)] | rw [if_neg (by omega)] | split)
      | (simp (disch := (first | omega | (simp (disch := omega) only [up_f, up_s, up_i, up_k, up_e]; omega))) only [up_f, up_s, up_i, up_k, up_e, V_iconst, V_bipush, V_sipush, V_conti, V_contn, V_goto, Option.some.injEq, exists_eq_left', true_and, and_true, m_fit, Option.isSome_some, List.map_nil, List.map_cons, List.sum_nil, List.sum_cons, List.all_nil, List.all_cons, m_cat, decide_true, Bool.and_true, Bool.true_and, Nat.zero_le, Int.toNat_natCast, Int.reduceAdd, Int.reduceSub, Int.reduceMul, Int.reduceNeg, Int.reduceLE, Int.reduceLT, Nat.reduceAdd, Nat.reduceLeDiff, Int.reduceToNat, Int.reduceEq, decide_eq_true_eq, true_or, or_true, exists_and_left, and_self, Nat.reduceMul, Nat.reduceSub, Nat.reduceLT, m_oa, Nat.reduceEqDiff, or_false, false_or, Sum.inl.injEq, Sum.inr.injEq, ↓reduceIte, ne_eq, not_false_eq_true, Int.reduceNe, exists_eq_left, D_125, R_125, X_125, F_125_113, J_125_11, F_125_110, I_125_211, J_125_33, J_125_39, I_125_204, J_125_51, F_125_161, J_125_63, F_125_137, I_125_214, J_125_78, I_125_208, J_125_89, J_125_101, I_125_217, J_125_112, J_125_116, J_125_128, F_125_125, J_125_170, I_125_220, F_125_16, J_125_184, I_125_224, J_125_209, J_125_227, V_istore5, V_iload5, V_aloadn0, G_10_40, A_331, T_a331, B_331, V_iloadn1, U_iaload, G_10_39, A_330, T_a330, B_330, V_imul, m_mul_eq, V_iadd, m_add_eq, V_iloadn3, V_iload4, T_10, V_iinc5, V_iloadn2, V_istore6, V_iload6, G_10_14, G_10_48, A_339, T_a339, B_339, U_bastore, U_baload, U_iastore, V_dup2, G_10_44, A_335, T_a335, B_335, V_iinc6, G_10_5, A_299, T_a299, B_299, V_isub, m_sub_eq, b_125_0, b_125_42, b_125_57, b_125_119, b_125_120, b_125_167, b_125_173, b_125_212, b_125_230, h84])
    all_goals exact kk _ _
  | c :: r, p, N, S, pl, v, hpl, mi, hv, mq, K => by
    subst hpl
    have hT : T ≤ 6 := wp.2.2.1
    have ht6 : t < 6 := by omega
    have hC : C ≤ 10 := wp.2.2.2.1
    have hlen := mq.1
    have h84 := mq.2.1
    rw [List.length_append, List.length_cons] at hlen h84
    have hcon : S 83 0 (10 * t + p.length) = c := mq.2.2 p.length c (by rw [List.getElem?_append_right (by omega), Nat.sub_self]; rfl)
    obtain ⟨hc0, c88, c68, c69, c90⟩ := V_mem hv ht
    have hc : c < 10 := by omega
    have hx1 : (10 * (t : Int) + (p.length : Int)).toNat = 10 * t + p.length := by omega
    have w54 := wp.2.2.2.2.1 t ht6
    have p0 := wp_here wp (show 6 * t + k < 36 by omega)
    rw [ha] at p0
    have h121 := allowed (xs := xs) (L := L) (e := e) wp ht hk hc mi.1 ha hb
    by_cases hal : alw D (6 * t + k) c
    · simp only [if_pos hal] at h121
      have hE : drL D (6 * t + k) a m (c :: r) N = ((drL D (6 * t + k) a m r N).1, c :: (drL D (6 * t + k) a m r N).2) := by rw [drL, if_pos hal]
      have hap : p ++ c :: (drL D (6 * t + k) a m r N).2 = (p ++ [c]) ++ (drL D (6 * t + k) a m r N).2 := app_cons
      have hap2 : p ++ c :: r = (p ++ [c]) ++ r := app_cons
      rw [hE, hap] at K
      rw [hap2] at hv mq
      have kk := fun pl v hpl => k_125a wp ht hm hk ha hb r (p ++ [c]) N S pl v hpl mi hv mq K
      unfold b_125_3
      repeat' first
        | (refine V_icmp_ge.mpr ?_; first | rw [if_pos (by omega)] | rw [if_neg (by omega)] | split)
        | (refine V_icmp_gt.mpr ?_; first | rw [if_pos (by omega)] | rw [if_neg (by omega)] | split)
        | (refine V_if_eq.mpr ?_; first | rw [if_pos (by omega)] | rw [if_neg (by omega)] | split)
        | (simp (disch := (first | omega | (simp (disch := omega) only [up_f, up_s, up_i, up_k, up_e]; omega))) only [up_f, up_s, up_i, up_k, up_e, V_iconst, V_bipush, V_sipush, V_conti, V_contn, V_goto, Option.some.injEq, exists_eq_left', true_and, and_true, m_fit, Option.isSome_some, List.map_nil, List.map_cons, List.sum_nil, List.sum_cons, List.all_nil, List.all_cons, m_cat, decide_true, Bool.and_true, Bool.true_and, Nat.zero_le, Int.toNat_natCast, Int.reduceAdd, Int.reduceSub, Int.reduceMul, Int.reduceNeg, Int.reduceLE, Int.reduceLT, Nat.reduceAdd, Nat.reduceLeDiff, Int.reduceToNat, Int.reduceEq, decide_eq_true_eq, true_or, or_true, exists_and_left, and_self, Nat.reduceMul, Nat.reduceSub, Nat.reduceLT, m_oa, Nat.reduceEqDiff, or_false, false_or, Sum.inl.injEq, Sum.inr.injEq, ↓reduceIte, ne_eq, not_false_eq_true, Int.reduceNe, exists_eq_left, D_125, R_125, X_125, F_125_113, J_125_11, F_125_110, I_125_211, J_125_33, J_125_39, I_125_204, J_125_51, F_125_161, J_125_63, F_125_137, I_125_214, J_125_78, I_125_208, J_125_89, J_125_101, I_125_217, J_125_112, J_125_116, J_125_128, F_125_125, J_125_170, I_125_220, F_125_16, J_125_184, I_125_224, J_125_209, J_125_227, V_istore5, V_iload5, V_aloadn0, G_10_40, A_331, T_a331, B_331, V_iloadn1, U_iaload, G_10_39, A_330, T_a330, B_330, V_imul, m_mul_eq, V_iadd, m_add_eq, V_iloadn3, V_iload4, T_10, V_iinc5, V_iloadn2, V_istore6, V_iload6, G_10_14, G_10_48, A_339, T_a339, B_339, U_bastore, U_baload, U_iastore, V_dup2, G_10_44, A_335, T_a335, B_335, V_iinc6, G_10_5, A_299, T_a299, B_299, V_isub, m_sub_eq, b_125_0, b_125_42, b_125_57, b_125_119, b_125_120, b_125_167, b_125_173, b_125_212, b_125_230, h84, hcon, hx1, h121])
      exact kk _ _ (by simp)
    · simp only [if_neg hal] at h121
      have hE : drL D (6 * t + k) a m (c :: r) N = drL D (6 * t + k) a m r (oOut N c a m) := by rw [drL, if_neg hal]
      rw [hE] at K
      obtain ⟨S2, ⟨m2, q2, _⟩, i116⟩ := r_116 (xs := xs) (L := L) (e := e) (a := (a : Int)) ht6 hc hm mi mq
      have kk := fun v => k_125a wp ht hm hk ha hb r p (oOut N c a m) S2 _ v rfl m2 (V_out ht p0 hm hv) q2 K
      unfold b_125_3
      repeat' first
        | (refine V_icmp_ge.mpr ?_; first | rw [if_pos (by omega)] | rw [if_neg (by omega)] | split)
        | (refine V_icmp_gt.mpr ?_; first | rw [if_pos (by omega)] | rw [if_neg (by omega)] | split)
        | (refine V_if_eq.mpr ?_; first | rw [if_pos (by omega)] | rw [if_neg (by omega)] | split)
        | (simp (disch := (first | omega | (simp (disch := omega) only [up_f, up_s, up_i, up_k, up_e]; omega))) only [up_f, up_s, up_i, up_k, up_e, V_iconst, V_bipush, V_sipush, V_conti, V_contn, V_goto, Option.some.injEq, exists_eq_left', true_and, and_true, m_fit, Option.isSome_some, List.map_nil, List.map_cons, List.sum_nil, List.sum_cons, List.all_nil, List.all_cons, m_cat, decide_true, Bool.and_true, Bool.true_and, Nat.zero_le, Int.toNat_natCast, Int.reduceAdd, Int.reduceSub, Int.reduceMul, Int.reduceNeg, Int.reduceLE, Int.reduceLT, Nat.reduceAdd, Nat.reduceLeDiff, Int.reduceToNat, Int.reduceEq, decide_eq_true_eq, true_or, or_true, exists_and_left, and_self, Nat.reduceMul, Nat.reduceSub, Nat.reduceLT, m_oa, Nat.reduceEqDiff, or_false, false_or, Sum.inl.injEq, Sum.inr.injEq, ↓reduceIte, ne_eq, not_false_eq_true, Int.reduceNe, exists_eq_left, D_125, R_125, X_125, F_125_113, J_125_11, F_125_110, I_125_211, J_125_33, J_125_39, I_125_204, J_125_51, F_125_161, J_125_63, F_125_137, I_125_214, J_125_78, I_125_208, J_125_89, J_125_101, I_125_217, J_125_112, J_125_116, J_125_128, F_125_125, J_125_170, I_125_220, F_125_16, J_125_184, I_125_224, J_125_209, J_125_227, V_istore5, V_iload5, V_aloadn0, G_10_40, A_331, T_a331, B_331, V_iloadn1, U_iaload, G_10_39, A_330, T_a330, B_330, V_imul, m_mul_eq, V_iadd, m_add_eq, V_iloadn3, V_iload4, T_10, V_iinc5, V_iloadn2, V_istore6, V_iload6, G_10_14, G_10_48, A_339, T_a339, B_339, U_bastore, U_baload, U_iastore, V_dup2, G_10_44, A_335, T_a335, B_335, V_iinc6, G_10_5, A_299, T_a299, B_299, V_isub, m_sub_eq, b_125_0, b_125_42, b_125_57, b_125_119, b_125_120, b_125_167, b_125_173, b_125_212, b_125_230, h84, hcon, hx1, h121, i116])
      exact kk _
theorem k_125b {t T C k a b : Nat} {D S0 : Sg} {l : Ls} {m pl : Int} {Q : MOut → MHp → Prop} (wp : WP D T C) (ht : t < T) (hm : 0 ≤ m ∧ m < 2000) (hk : (k : Int) + 2 ≤ D 54 0 t) (ha : D 55 0 (6 * t + k) = a) (hb : D 55 0 (6 * t + k + 1) = b) : ∀ (z c : Nat) (cc : Int) (x : Sg × List Nat) (S : Sg), c + z = C → cc = c → MI T D S0 S (coL D t (6 * t + k) a m c x).1 l t → V D (coL D t (6 * t + k) a m c x).1 (setL l t (coL D t (6 * t + k) a m c x).2) T C → x.1 81 0 t = k → MU t S (coL D t (6 * t + k) a m c x).2 → (∀ d, d < c → S 92 0 d = if d ∈ (coA D t (6 * t + k) a m c x) then 1 else 0) →
    (∀ (S2 : Sg) (cc : Int), MI T D S0 S2 (coL D t (6 * t + k) a m C x).1 l t → MU t S2 (coL D t (6 * t + k) a m C x).2 → (∀ d, d < C → S2 92 0 d = if d ∈ (coA D t (6 * t + k) a m C x) then 1 else 0) → m_ok xs L 125 b_125_173 [vR 296, vI t, vI m, vI a, vI b, vI pl, vI cc] [] (mk S2 e) Q) → m_ok xs L 125 b_125_57 [vR 296, vI t, vI m, vI a, vI b, vI pl, vI cc] [] (mk S e) Q
  | 0, c, cc, x, S, hz, hcc, mi, hv, hx, mq, hcame, K => by
    have hc : c = C := by omega
    subst hc
    subst hcc
    have h2014 : S 2014 0 0 = c := by rw [mi.1.1 2014 _ rfl]; exact wp.2.1
    have kk := fun cc => K S cc mi mq hcame
    unfold b_125_57
    repeat' first
      | (refine V_icmp_ge.mpr ?_; first | rw [if_pos (by omega)] | rw [if_neg (by omega)] | split)
      | (refine V_icmp_gt.mpr ?_; first | rw [if_pos (by omega)] | rw [if_neg (by omega)] | split)
      | (refine V_if_eq.mpr ?_; first | rw [if_pos (by omega)] | rw [if_neg (by omega)] | split)
      | (simp (disch := (first | omega | (simp (disch := omega) only [up_f, up_s, up_i, up_k, up_e]; omega))) only [up_f, up_s, up_i, up_k, up_e, V_iconst, V_bipush, V_sipush, V_conti, V_contn, V_goto, Option.some.injEq, exists_eq_left', true_and, and_true, m_fit, Option.isSome_some, List.map_nil, List.map_cons, List.sum_nil, List.sum_cons, List.all_nil, List.all_cons, m_cat, decide_true, Bool.and_true, Bool.true_and, Nat.zero_le, Int.toNat_natCast, Int.reduceAdd, Int.reduceSub, Int.reduceMul, Int.reduceNeg, Int.reduceLE, Int.reduceLT, Nat.reduceAdd, Nat.reduceLeDiff, Int.reduceToNat, Int.reduceEq, decide_eq_true_eq, true_or, or_true, exists_and_left, and_self, Nat.reduceMul, Nat.reduceSub, Nat.reduceLT, m_oa, Nat.reduceEqDiff, or_false, false_or, Sum.inl.injEq, Sum.inr.injEq, ↓reduceIte, ne_eq, not_false_eq_true, Int.reduceNe, exists_eq_left, D_125, R_125, X_125, F_125_113, J_125_11, F_125_110, I_125_211, J_125_33, J_125_39, I_125_204, J_125_51, F_125_161, J_125_63, F_125_137, I_125_214, J_125_78, I_125_208, J_125_89, J_125_101, I_125_217, J_125_112, J_125_116, J_125_128, F_125_125, J_125_170, I_125_220, F_125_16, J_125_184, I_125_224, J_125_209, J_125_227, V_istore5, V_iload5, V_aloadn0, G_10_40, A_331, T_a331, B_331, V_iloadn1, U_iaload, G_10_39, A_330, T_a330, B_330, V_imul, m_mul_eq, V_iadd, m_add_eq, V_iloadn3, V_iload4, T_10, V_iinc5, V_iloadn2, V_istore6, V_iload6, G_10_14, G_10_48, A_339, T_a339, B_339, U_bastore, U_baload, U_iastore, V_dup2, G_10_44, A_335, T_a335, B_335, V_iinc6, G_10_5, A_299, T_a299, B_299, V_isub, m_sub_eq, b_125_0, b_125_3, b_125_42, b_125_54, b_125_119, b_125_120, b_125_167, b_125_212, b_125_230, h2014])
    all_goals exact kk _
  | z + 1, c, cc, x, S, hz, hcc, mi, hv, hx, mq, hcame, K => by
    subst hcc
    have hT : T ≤ 6 := wp.2.2.1
    have ht6 : t < 6 := by omega
    have hC : C ≤ 10 := wp.2.2.2.1
    have hcC : c < C := by omega
    have hc : c < 10 := by omega
    have h2014 : S 2014 0 0 = C := by rw [mi.1.1 2014 _ rfl]; exact wp.2.1
    have w54 := wp.2.2.2.2.1 t ht6
    have p0 := wp_here wp (show 6 * t + k < 36 by omega)
    have hEq : coL D t (6 * t + k) a m (c + 1) x = if cms D (coL D t (6 * t + k) a m c x).1 t (6 * t + k) a m c then (up (coL D t (6 * t + k) a m c x).1 88 0 c (-1), (coL D t (6 * t + k) a m c x).2 ++ [c]) else (coL D t (6 * t + k) a m c x) := rfl
    have hEa : coA D t (6 * t + k) a m (c + 1) x = if cms D (coL D t (6 * t + k) a m c x).1 t (6 * t + k) a m c then (coA D t (6 * t + k) a m c x) ++ [c] else (coA D t (6 * t + k) a m c x) := rfl
    have hnc : c ∉ (coA D t (6 * t + k) a m c x) := fun z => by have := coA_lt c x z; omega
    generalize hs : (coL D t (6 * t + k) a m c x) = s at *
    generalize hsa : (coA D t (6 * t + k) a m c x) = sa at *
    have wc := hv.2 c hcC
    have hpl := wp.2.2.2.2.2.2.1 c hc
    have g92 : ∀ v, up S 92 0 c v 92 0 c = v := fun v => up_s
    have leaf0 : ¬ cms D s.1 t (6 * t + k) a m c → m_ok xs L 125 b_125_57 [vR 296, vI t, vI m, vI a, vI b, vI pl, vI ((c : Int) + 1)] [] (mk (up S 92 0 c 0) e) Q := fun hno => by
      have hE : coL D t (6 * t + k) a m (c + 1) x = s := by rw [hEq, if_neg hno]
      have hE2 : coA D t (6 * t + k) a m (c + 1) x = sa := by rw [hEa, if_neg hno]
      refine k_125b wp ht hm hk ha hb z (c + 1) _ x _ (by omega) (by omega) (by rw [hE]; exact MI_no mi (Or.inl rfl)) (by rw [hE]; exact hv) hx (by rw [hE]; exact MU_ext mq (up_f (by decide)) (fun j _ => up_f (by decide))) (fun d hd => ?_) K
      rw [hE2]
      by_cases hdc : d = c
      · subst hdc
        rw [up_s, if_neg hnc]
      · rw [up_k hdc]
        exact hcame d (by omega)
    have h118 : ∀ Q, m_do xs L 118 [vR 296, vI c] (mk S e) Q ↔ Q (.inl (some (vI (if D 68 0 c = 0 ∧ s.1 90 0 c < D 69 0 c then 1 else 0)))) (mk S e) := fun Q => by
      rw [s_118 hc, mi.1.1 68 _ rfl, mi.1.1 69 _ rfl, R90 mi.2.1 hc]
    by_cases hB : D 68 0 c = 0 ∧ s.1 90 0 c < D 69 0 c
    · simp only [if_pos hB] at h118
      have h119 : ∀ Q, m_do xs L 119 [vR 296, vI c, vI a, vI m] (mk S e) Q ↔ Q (.inl (some (vI (if s.1 88 0 c = a ∧ s.1 89 0 c ≤ m then 1 else 0)))) (mk S e) := fun Q => by
        rw [s_119 hc, R88 mi.2.1 hc, R89 mi.2.1 hc]
      by_cases hA : s.1 88 0 c = a ∧ s.1 89 0 c ≤ m
      · simp only [if_pos hA] at h119
        have h121 := allowed (xs := xs) (L := L) (e := e) wp ht hk hc mi.1 ha hb
        by_cases hCC : alw D (6 * t + k) c
        · simp only [if_pos hCC] at h121
          have h122 := r_122 (xs := xs) (L := L) (e := e) (a := a) wp ht6 hcC mi.1 mi.2.1 wc.1 hB.2
          by_cases hD : tks D s.1 t a c
          · simp only [if_pos hD] at h122
            have hcm : cms D s.1 t (6 * t + k) a m c := ⟨hB, hA, hCC, hD⟩
            have hE : coL D t (6 * t + k) a m (c + 1) x = (up s.1 88 0 c (-1), s.2 ++ [c]) := by rw [hEq, if_pos hcm]
            have hE2 : coA D t (6 * t + k) a m (c + 1) x = sa ++ [c] := by rw [hEa, if_pos hcm]
            have hv2 := V_come ht hcC (by omega) hB.1 hB.2 hv
            have hl2 := V_len hv2 ht hC
            rw [List.length_append, List.length_singleton] at hl2
            have h84 := mq.2.1
            have hx1 : (10 * (t : Int) + (s.2.length : Int)).toNat = 10 * t + s.2.length := by omega
            have mi2 : MI T D S0 (up (up (up (up S 92 0 c 1) 83 0 (10 * t + s.2.length) c) 84 0 t ((s.2.length : Int) + 1)) 88 0 c (-1)) (up s.1 88 0 c (-1)) l t :=
              MI_up (MI_no (MI_no (MI_no mi (Or.inl rfl)) (Or.inr (Or.inr ⟨rfl, by omega, by omega⟩))) (Or.inr (Or.inl ⟨rfl, rfl⟩))) (by omega)
            unfold b_125_57
            repeat' first
              | (refine V_icmp_ge.mpr ?_; first | rw [if_pos (by omega)] | rw [if_neg (by omega)] | split)
              | (refine V_icmp_gt.mpr ?_; first | rw [if_pos (by omega)] | rw [if_neg (by omega)] | split)
              | (refine V_if_eq.mpr ?_; first | rw [if_pos (by omega)] | rw [if_neg (by omega)] | split)
              | (simp (disch := (first | omega | (simp (disch := omega) only [up_f, up_s, up_i, up_k, up_e]; omega))) only [up_f, up_s, up_i, up_k, up_e, V_iconst, V_bipush, V_sipush, V_conti, V_contn, V_goto, Option.some.injEq, exists_eq_left', true_and, and_true, m_fit, Option.isSome_some, List.map_nil, List.map_cons, List.sum_nil, List.sum_cons, List.all_nil, List.all_cons, m_cat, decide_true, Bool.and_true, Bool.true_and, Nat.zero_le, Int.toNat_natCast, Int.reduceAdd, Int.reduceSub, Int.reduceMul, Int.reduceNeg, Int.reduceLE, Int.reduceLT, Nat.reduceAdd, Nat.reduceLeDiff, Int.reduceToNat, Int.reduceEq, decide_eq_true_eq, true_or, or_true, exists_and_left, and_self, Nat.reduceMul, Nat.reduceSub, Nat.reduceLT, m_oa, Nat.reduceEqDiff, or_false, false_or, Sum.inl.injEq, Sum.inr.injEq, ↓reduceIte, ne_eq, not_false_eq_true, Int.reduceNe, exists_eq_left, D_125, R_125, X_125, F_125_113, J_125_11, F_125_110, I_125_211, J_125_33, J_125_39, I_125_204, J_125_51, F_125_161, J_125_63, F_125_137, I_125_214, J_125_78, I_125_208, J_125_89, J_125_101, I_125_217, J_125_112, J_125_116, J_125_128, F_125_125, J_125_170, I_125_220, F_125_16, J_125_184, I_125_224, J_125_209, J_125_227, V_istore5, V_iload5, V_aloadn0, G_10_40, A_331, T_a331, B_331, V_iloadn1, U_iaload, G_10_39, A_330, T_a330, B_330, V_imul, m_mul_eq, V_iadd, m_add_eq, V_iloadn3, V_iload4, T_10, V_iinc5, V_iloadn2, V_istore6, V_iload6, G_10_14, G_10_48, A_339, T_a339, B_339, U_bastore, U_baload, U_iastore, V_dup2, G_10_44, A_335, T_a335, B_335, V_iinc6, G_10_5, A_299, T_a299, B_299, V_isub, m_sub_eq, b_125_0, b_125_3, b_125_42, b_125_54, b_125_119, b_125_120, b_125_167, b_125_212, b_125_230, h2014, h118, h119, h121, h122, h84, hx1])
            refine k_125b wp ht hm hk ha hb z (c + 1) _ x _ (by omega) (by omega) (by rw [hE]; exact mi2) (by rw [hE]; exact hv2) hx ?_ (fun d hd => ?_) K
            · rw [hE]
              refine ⟨by rw [List.length_append, List.length_singleton]; omega, ?_, ?_⟩
              · simp (disch := omega) only [up_f, up_s, List.length_append, List.length_singleton]; omega
              · refine LA_snoc (LA_ext (fun j hj => by simp (disch := omega) only [up_f, up_k]) mq.2.2) ?_
                simp (disch := omega) only [up_f, up_s]
            · rw [hE2]
              simp (disch := omega) only [up_f]
              by_cases hdc : d = c
              · subst hdc
                rw [up_s, if_pos (by simp)]
              · rw [up_k hdc, hcame d (by omega)]
                simp only [List.mem_append, List.mem_singleton, hdc, or_false]
          · simp only [if_neg hD] at h122
            have leaf := leaf0 (fun z => hD z.2.2.2)
            unfold b_125_57
            repeat' first
              | (refine V_icmp_ge.mpr ?_; first | rw [if_pos (by omega)] | rw [if_neg (by omega)] | split)
              | (refine V_icmp_gt.mpr ?_; first | rw [if_pos (by omega)] | rw [if_neg (by omega)] | split)
              | (refine V_if_eq.mpr ?_; first | rw [if_pos (by omega)] | rw [if_neg (by omega)] | split)
              | (simp (disch := (first | omega | (simp (disch := omega) only [up_f, up_s, up_i, up_k, up_e]; omega))) only [up_f, up_s, up_i, up_k, up_e, V_iconst, V_bipush, V_sipush, V_conti, V_contn, V_goto, Option.some.injEq, exists_eq_left', true_and, and_true, m_fit, Option.isSome_some, List.map_nil, List.map_cons, List.sum_nil, List.sum_cons, List.all_nil, List.all_cons, m_cat, decide_true, Bool.and_true, Bool.true_and, Nat.zero_le, Int.toNat_natCast, Int.reduceAdd, Int.reduceSub, Int.reduceMul, Int.reduceNeg, Int.reduceLE, Int.reduceLT, Nat.reduceAdd, Nat.reduceLeDiff, Int.reduceToNat, Int.reduceEq, decide_eq_true_eq, true_or, or_true, exists_and_left, and_self, Nat.reduceMul, Nat.reduceSub, Nat.reduceLT, m_oa, Nat.reduceEqDiff, or_false, false_or, Sum.inl.injEq, Sum.inr.injEq, ↓reduceIte, ne_eq, not_false_eq_true, Int.reduceNe, exists_eq_left, D_125, R_125, X_125, F_125_113, J_125_11, F_125_110, I_125_211, J_125_33, J_125_39, I_125_204, J_125_51, F_125_161, J_125_63, F_125_137, I_125_214, J_125_78, I_125_208, J_125_89, J_125_101, I_125_217, J_125_112, J_125_116, J_125_128, F_125_125, J_125_170, I_125_220, F_125_16, J_125_184, I_125_224, J_125_209, J_125_227, V_istore5, V_iload5, V_aloadn0, G_10_40, A_331, T_a331, B_331, V_iloadn1, U_iaload, G_10_39, A_330, T_a330, B_330, V_imul, m_mul_eq, V_iadd, m_add_eq, V_iloadn3, V_iload4, T_10, V_iinc5, V_iloadn2, V_istore6, V_iload6, G_10_14, G_10_48, A_339, T_a339, B_339, U_bastore, U_baload, U_iastore, V_dup2, G_10_44, A_335, T_a335, B_335, V_iinc6, G_10_5, A_299, T_a299, B_299, V_isub, m_sub_eq, b_125_0, b_125_3, b_125_42, b_125_54, b_125_119, b_125_120, b_125_167, b_125_212, b_125_230, h2014, h118, h119, h121, h122])
            exact leaf
        · simp only [if_neg hCC] at h121
          have leaf := leaf0 (fun z => hCC z.2.2.1)
          unfold b_125_57
          repeat' first
            | (refine V_icmp_ge.mpr ?_; first | rw [if_pos (by omega)] | rw [if_neg (by omega)] | split)
            | (refine V_icmp_gt.mpr ?_; first | rw [if_pos (by omega)] | rw [if_neg (by omega)] | split)
            | (refine V_if_eq.mpr ?_; first | rw [if_pos (by omega)] | rw [if_neg (by omega)] | split)
            | (simp (disch := (first | omega | (simp (disch := omega) only [up_f, up_s, up_i, up_k, up_e]; omega))) only [up_f, up_s, up_i, up_k, up_e, V_iconst, V_bipush, V_sipush, V_conti, V_contn, V_goto, Option.some.injEq, exists_eq_left', true_and, and_true, m_fit, Option.isSome_some, List.map_nil, List.map_cons, List.sum_nil, List.sum_cons, List.all_nil, List.all_cons, m_cat, decide_true, Bool.and_true, Bool.true_and, Nat.zero_le, Int.toNat_natCast, Int.reduceAdd, Int.reduceSub, Int.reduceMul, Int.reduceNeg, Int.reduceLE, Int.reduceLT, Nat.reduceAdd, Nat.reduceLeDiff, Int.reduceToNat, Int.reduceEq, decide_eq_true_eq, true_or, or_true, exists_and_left, and_self, Nat.reduceMul, Nat.reduceSub, Nat.reduceLT, m_oa, Nat.reduceEqDiff, or_false, false_or, Sum.inl.injEq, Sum.inr.injEq, ↓reduceIte, ne_eq, not_false_eq_true, Int.reduceNe, exists_eq_left, D_125, R_125, X_125, F_125_113, J_125_11, F_125_110, I_125_211, J_125_33, J_125_39, I_125_204, J_125_51, F_125_161, J_125_63, F_125_137, I_125_214, J_125_78, I_125_208, J_125_89, J_125_101, I_125_217, J_125_112, J_125_116, J_125_128, F_125_125, J_125_170, I_125_220, F_125_16, J_125_184, I_125_224, J_125_209, J_125_227, V_istore5, V_iload5, V_aloadn0, G_10_40, A_331, T_a331, B_331, V_iloadn1, U_iaload, G_10_39, A_330, T_a330, B_330, V_imul, m_mul_eq, V_iadd, m_add_eq, V_iloadn3, V_iload4, T_10, V_iinc5, V_iloadn2, V_istore6, V_iload6, G_10_14, G_10_48, A_339, T_a339, B_339, U_bastore, U_baload, U_iastore, V_dup2, G_10_44, A_335, T_a335, B_335, V_iinc6, G_10_5, A_299, T_a299, B_299, V_isub, m_sub_eq, b_125_0, b_125_3, b_125_42, b_125_54, b_125_119, b_125_120, b_125_167, b_125_212, b_125_230, h2014, h118, h119, h121])
          exact leaf
      · simp only [if_neg hA] at h119
        have leaf := leaf0 (fun z => hA z.2.1)
        unfold b_125_57
        repeat' first
          | (refine V_icmp_ge.mpr ?_; first | rw [if_pos (by omega)] | rw [if_neg (by omega)] | split)
          | (refine V_icmp_gt.mpr ?_; first | rw [if_pos (by omega)] | rw [if_neg (by omega)] | split)
          | (refine V_if_eq.mpr ?_; first | rw [if_pos (by omega)] | rw [if_neg (by omega)] | split)
          | (simp (disch := (first | omega | (simp (disch := omega) only [up_f, up_s, up_i, up_k, up_e]; omega))) only [up_f, up_s, up_i, up_k, up_e, V_iconst, V_bipush, V_sipush, V_conti, V_contn, V_goto, Option.some.injEq, exists_eq_left', true_and, and_true, m_fit, Option.isSome_some, List.map_nil, List.map_cons, List.sum_nil, List.sum_cons, List.all_nil, List.all_cons, m_cat, decide_true, Bool.and_true, Bool.true_and, Nat.zero_le, Int.toNat_natCast, Int.reduceAdd, Int.reduceSub, Int.reduceMul, Int.reduceNeg, Int.reduceLE, Int.reduceLT, Nat.reduceAdd, Nat.reduceLeDiff, Int.reduceToNat, Int.reduceEq, decide_eq_true_eq, true_or, or_true, exists_and_left, and_self, Nat.reduceMul, Nat.reduceSub, Nat.reduceLT, m_oa, Nat.reduceEqDiff, or_false, false_or, Sum.inl.injEq, Sum.inr.injEq, ↓reduceIte, ne_eq, not_false_eq_true, Int.reduceNe, exists_eq_left, D_125, R_125, X_125, F_125_113, J_125_11, F_125_110, I_125_211, J_125_33, J_125_39, I_125_204, J_125_51, F_125_161, J_125_63, F_125_137, I_125_214, J_125_78, I_125_208, J_125_89, J_125_101, I_125_217, J_125_112, J_125_116, J_125_128, F_125_125, J_125_170, I_125_220, F_125_16, J_125_184, I_125_224, J_125_209, J_125_227, V_istore5, V_iload5, V_aloadn0, G_10_40, A_331, T_a331, B_331, V_iloadn1, U_iaload, G_10_39, A_330, T_a330, B_330, V_imul, m_mul_eq, V_iadd, m_add_eq, V_iloadn3, V_iload4, T_10, V_iinc5, V_iloadn2, V_istore6, V_iload6, G_10_14, G_10_48, A_339, T_a339, B_339, U_bastore, U_baload, U_iastore, V_dup2, G_10_44, A_335, T_a335, B_335, V_iinc6, G_10_5, A_299, T_a299, B_299, V_isub, m_sub_eq, b_125_0, b_125_3, b_125_42, b_125_54, b_125_119, b_125_120, b_125_167, b_125_212, b_125_230, h2014, h118, h119])
        exact leaf
    · simp only [if_neg hB] at h118
      have leaf := leaf0 (fun z => hB z.1)
      unfold b_125_57
      repeat' first
        | (refine V_icmp_ge.mpr ?_; first | rw [if_pos (by omega)] | rw [if_neg (by omega)] | split)
        | (refine V_icmp_gt.mpr ?_; first | rw [if_pos (by omega)] | rw [if_neg (by omega)] | split)
        | (refine V_if_eq.mpr ?_; first | rw [if_pos (by omega)] | rw [if_neg (by omega)] | split)
        | (simp (disch := (first | omega | (simp (disch := omega) only [up_f, up_s, up_i, up_k, up_e]; omega))) only [up_f, up_s, up_i, up_k, up_e, V_iconst, V_bipush, V_sipush, V_conti, V_contn, V_goto, Option.some.injEq, exists_eq_left', true_and, and_true, m_fit, Option.isSome_some, List.map_nil, List.map_cons, List.sum_nil, List.sum_cons, List.all_nil, List.all_cons, m_cat, decide_true, Bool.and_true, Bool.true_and, Nat.zero_le, Int.toNat_natCast, Int.reduceAdd, Int.reduceSub, Int.reduceMul, Int.reduceNeg, Int.reduceLE, Int.reduceLT, Nat.reduceAdd, Nat.reduceLeDiff, Int.reduceToNat, Int.reduceEq, decide_eq_true_eq, true_or, or_true, exists_and_left, and_self, Nat.reduceMul, Nat.reduceSub, Nat.reduceLT, m_oa, Nat.reduceEqDiff, or_false, false_or, Sum.inl.injEq, Sum.inr.injEq, ↓reduceIte, ne_eq, not_false_eq_true, Int.reduceNe, exists_eq_left, D_125, R_125, X_125, F_125_113, J_125_11, F_125_110, I_125_211, J_125_33, J_125_39, I_125_204, J_125_51, F_125_161, J_125_63, F_125_137, I_125_214, J_125_78, I_125_208, J_125_89, J_125_101, I_125_217, J_125_112, J_125_116, J_125_128, F_125_125, J_125_170, I_125_220, F_125_16, J_125_184, I_125_224, J_125_209, J_125_227, V_istore5, V_iload5, V_aloadn0, G_10_40, A_331, T_a331, B_331, V_iloadn1, U_iaload, G_10_39, A_330, T_a330, B_330, V_imul, m_mul_eq, V_iadd, m_add_eq, V_iloadn3, V_iload4, T_10, V_iinc5, V_iloadn2, V_istore6, V_iload6, G_10_14, G_10_48, A_339, T_a339, B_339, U_bastore, U_baload, U_iastore, V_dup2, G_10_44, A_335, T_a335, B_335, V_iinc6, G_10_5, A_299, T_a299, B_299, V_isub, m_sub_eq, b_125_0, b_125_3, b_125_42, b_125_54, b_125_119, b_125_120, b_125_167, b_125_212, b_125_230, h2014, h118])
      exact leaf
theorem k_125c {t T C k a b : Nat} {D S0 : Sg} {l : Ls} {m pl : Int} {cc : MV} {Q : MOut → MHp → Prop} (wp : WP D T C) (ht : t < T) (hm : 0 ≤ m ∧ m < 2000) (hk : (k : Int) + 2 ≤ D 54 0 t) (ha : D 55 0 (6 * t + k) = a) (hb : D 55 0 (6 * t + k + 1) = b) : ∀ (z : Nat) (x : Sg × List Nat) (S : Sg), x.2.length = z → MI T D S0 S x.1 l t → V D x.1 (setL l t x.2) T C → MU t S x.2 →
    (∀ S2 : Sg, MI T D S0 S2 (heL D t a m z x).1 l t → MU t S2 (heL D t a m z x).2 → (∀ d, S2 92 0 d = S 92 0 d) → Q (.inl none) (mk S2 e)) → m_ok xs L 125 b_125_173 [vR 296, vI t, vI m, vI a, vI b, vI pl, cc] [] (mk S e) Q
  | z, x, S, hz, mi, hv, mq, K => by
    have hT : T ≤ 6 := wp.2.2.1
    have ht6 : t < 6 := by omega
    have hC : C ≤ 10 := wp.2.2.2.1
    have w54 := wp.2.2.2.2.1 t ht6
    have p0 := wp_here wp (show 6 * t + k < 36 by omega)
    rw [ha] at p0
    have i123 := loadOf (xs := xs) (L := L) (e := e) wp ht mi.1 hv mq
    have i124 := brakeOf (xs := xs) (L := L) (e := e) wp ht mi.1 hv mq
    have h1 := hv.1.1 t ht
    rw [setL_s] at h1
    obtain ⟨hl, hb3⟩ := WL1_len hC h1
    have hw1 := wsum_ran (D := D) (W := 64) (fun c hc => by have := wp.2.2.2.2.2.2.1 c hc; omega) _ hb3
    have hw2 := wsum_ran (D := D) (W := 65) (fun c hc => by have := wp.2.2.2.2.2.2.1 c hc; omega) _ hb3
    have h52 : S 52 0 t = D 52 0 t := mi.1.1 52 _ rfl
    by_cases hh : hvy D t x.2
    · cases z with
      | zero =>
        have h0 : x.2 = [] := List.length_eq_zero_iff.mp hz
        rw [h0] at hh
        exact absurd hh (hvy_nil wp ht6)
      | succ z =>
        have hE : heL D t a m (z + 1) x = heL D t a m z (oOut x.1 (x.2.getD z 0) a m, x.2.take z) := by rw [heL, if_pos hh]
        rw [hE] at K
        have e0 := take_last hz
        have hcm : x.2.getD z 0 ∈ x.2 := by
          have hzl : z < x.2.length := by omega
          rw [List.getD_eq_getElem?_getD, List.getElem?_eq_getElem hzl, Option.getD_some]
          exact List.getElem_mem hzl
        have hc : x.2.getD z 0 < 10 := hb3 _ hcm
        have hlt : (x.2.take z).length = z := by rw [List.length_take]; omega
        have h84 : S 84 0 t = (z : Int) + 1 := by rw [mq.2.1, hz]; omega
        have mq1 : MU t S (x.2.take z ++ x.2.getD z 0 :: []) := by rw [← e0]; exact mq
        have hv1 : V D x.1 (setL l t (x.2.take z ++ x.2.getD z 0 :: [])) T C := by rw [← e0]; exact hv
        obtain ⟨S2, ⟨m2, q2, g92⟩, i116⟩ := r_116 (xs := xs) (L := L) (e := e) (a := (a : Int)) ht6 hc hm mi mq1
        have hv2 := V_out ht p0 hm hv1
        rw [List.append_nil] at q2 hv2
        rw [hlt] at i116
        have kk := k_125c (pl := pl) (cc := cc) wp ht hm hk ha hb z (oOut x.1 (x.2.getD z 0) a m, x.2.take z) S2 hlt m2 hv2 q2 (fun S3 a1 a2 a3 => K S3 a1 a2 (fun d => (a3 d).trans (g92 d)))
        have hz1 : (z : Int) + 1 - 1 = z := by omega
        rcases hh with hh1 | hh2
        · unfold b_125_173
          repeat' first
            | (refine V_icmp_ge.mpr ?_; first | rw [if_pos (by omega)] | rw [if_neg (by omega)] | split)
            | (refine V_icmp_gt.mpr ?_; first | rw [if_pos (by omega)] | rw [if_neg (by omega)] | split)
            | (refine V_if_eq.mpr ?_; first | rw [if_pos (by omega)] | rw [if_neg (by omega)] | split)
            | (simp (disch := (first | omega | (simp (disch := omega) only [up_f, up_s, up_i, up_k, up_e]; omega))) only [up_f, up_s, up_i, up_k, up_e, V_iconst, V_bipush, V_sipush, V_conti, V_contn, V_goto, Option.some.injEq, exists_eq_left', true_and, and_true, m_fit, Option.isSome_some, List.map_nil, List.map_cons, List.sum_nil, List.sum_cons, List.all_nil, List.all_cons, m_cat, decide_true, Bool.and_true, Bool.true_and, Nat.zero_le, Int.toNat_natCast, Int.reduceAdd, Int.reduceSub, Int.reduceMul, Int.reduceNeg, Int.reduceLE, Int.reduceLT, Nat.reduceAdd, Nat.reduceLeDiff, Int.reduceToNat, Int.reduceEq, decide_eq_true_eq, true_or, or_true, exists_and_left, and_self, Nat.reduceMul, Nat.reduceSub, Nat.reduceLT, m_oa, Nat.reduceEqDiff, or_false, false_or, Sum.inl.injEq, Sum.inr.injEq, ↓reduceIte, ne_eq, not_false_eq_true, Int.reduceNe, exists_eq_left, D_125, R_125, X_125, F_125_113, J_125_11, F_125_110, I_125_211, J_125_33, J_125_39, I_125_204, J_125_51, F_125_161, J_125_63, F_125_137, I_125_214, J_125_78, I_125_208, J_125_89, J_125_101, I_125_217, J_125_112, J_125_116, J_125_128, F_125_125, J_125_170, I_125_220, F_125_16, J_125_184, I_125_224, J_125_209, J_125_227, V_istore5, V_iload5, V_aloadn0, G_10_40, A_331, T_a331, B_331, V_iloadn1, U_iaload, G_10_39, A_330, T_a330, B_330, V_imul, m_mul_eq, V_iadd, m_add_eq, V_iloadn3, V_iload4, T_10, V_iinc5, V_iloadn2, V_istore6, V_iload6, G_10_14, G_10_48, A_339, T_a339, B_339, U_bastore, U_baload, U_iastore, V_dup2, G_10_44, A_335, T_a335, B_335, V_iinc6, G_10_5, A_299, T_a299, B_299, V_isub, m_sub_eq, b_125_0, b_125_3, b_125_42, b_125_54, b_125_57, b_125_119, b_125_120, b_125_167, b_125_212, b_125_230, i123, i124, h52, h84, hz1, i116])
          exact kk
        · by_cases hh1 : D 52 0 t < wsum D 64 x.2
          · unfold b_125_173
            repeat' first
              | (refine V_icmp_ge.mpr ?_; first | rw [if_pos (by omega)] | rw [if_neg (by omega)] | split)
              | (refine V_icmp_gt.mpr ?_; first | rw [if_pos (by omega)] | rw [if_neg (by omega)] | split)
              | (refine V_if_eq.mpr ?_; first | rw [if_pos (by omega)] | rw [if_neg (by omega)] | split)
              | (simp (disch := (first | omega | (simp (disch := omega) only [up_f, up_s, up_i, up_k, up_e]; omega))) only [up_f, up_s, up_i, up_k, up_e, V_iconst, V_bipush, V_sipush, V_conti, V_contn, V_goto, Option.some.injEq, exists_eq_left', true_and, and_true, m_fit, Option.isSome_some, List.map_nil, List.map_cons, List.sum_nil, List.sum_cons, List.all_nil, List.all_cons, m_cat, decide_true, Bool.and_true, Bool.true_and, Nat.zero_le, Int.toNat_natCast, Int.reduceAdd, Int.reduceSub, Int.reduceMul, Int.reduceNeg, Int.reduceLE, Int.reduceLT, Nat.reduceAdd, Nat.reduceLeDiff, Int.reduceToNat, Int.reduceEq, decide_eq_true_eq, true_or, or_true, exists_and_left, and_self, Nat.reduceMul, Nat.reduceSub, Nat.reduceLT, m_oa, Nat.reduceEqDiff, or_false, false_or, Sum.inl.injEq, Sum.inr.injEq, ↓reduceIte, ne_eq, not_false_eq_true, Int.reduceNe, exists_eq_left, D_125, R_125, X_125, F_125_113, J_125_11, F_125_110, I_125_211, J_125_33, J_125_39, I_125_204, J_125_51, F_125_161, J_125_63, F_125_137, I_125_214, J_125_78, I_125_208, J_125_89, J_125_101, I_125_217, J_125_112, J_125_116, J_125_128, F_125_125, J_125_170, I_125_220, F_125_16, J_125_184, I_125_224, J_125_209, J_125_227, V_istore5, V_iload5, V_aloadn0, G_10_40, A_331, T_a331, B_331, V_iloadn1, U_iaload, G_10_39, A_330, T_a330, B_330, V_imul, m_mul_eq, V_iadd, m_add_eq, V_iloadn3, V_iload4, T_10, V_iinc5, V_iloadn2, V_istore6, V_iload6, G_10_14, G_10_48, A_339, T_a339, B_339, U_bastore, U_baload, U_iastore, V_dup2, G_10_44, A_335, T_a335, B_335, V_iinc6, G_10_5, A_299, T_a299, B_299, V_isub, m_sub_eq, b_125_0, b_125_3, b_125_42, b_125_54, b_125_57, b_125_119, b_125_120, b_125_167, b_125_212, b_125_230, i123, i124, h52, h84, hz1, i116])
            exact kk
          · unfold b_125_173
            repeat' first
              | (refine V_icmp_ge.mpr ?_; first | rw [if_pos (by omega)] | rw [if_neg (by omega)] | split)
              | (refine V_icmp_gt.mpr ?_; first | rw [if_pos (by omega)] | rw [if_neg (by omega)] | split)
              | (refine V_if_eq.mpr ?_; first | rw [if_pos (by omega)] | rw [if_neg (by omega)] | split)
              | (simp (disch := (first | omega | (simp (disch := omega) only [up_f, up_s, up_i, up_k, up_e]; omega))) only [up_f, up_s, up_i, up_k, up_e, V_iconst, V_bipush, V_sipush, V_conti, V_contn, V_goto, Option.some.injEq, exists_eq_left', true_and, and_true, m_fit, Option.isSome_some, List.map_nil, List.map_cons, List.sum_nil, List.sum_cons, List.all_nil, List.all_cons, m_cat, decide_true, Bool.and_true, Bool.true_and, Nat.zero_le, Int.toNat_natCast, Int.reduceAdd, Int.reduceSub, Int.reduceMul, Int.reduceNeg, Int.reduceLE, Int.reduceLT, Nat.reduceAdd, Nat.reduceLeDiff, Int.reduceToNat, Int.reduceEq, decide_eq_true_eq, true_or, or_true, exists_and_left, and_self, Nat.reduceMul, Nat.reduceSub, Nat.reduceLT, m_oa, Nat.reduceEqDiff, or_false, false_or, Sum.inl.injEq, Sum.inr.injEq, ↓reduceIte, ne_eq, not_false_eq_true, Int.reduceNe, exists_eq_left, D_125, R_125, X_125, F_125_113, J_125_11, F_125_110, I_125_211, J_125_33, J_125_39, I_125_204, J_125_51, F_125_161, J_125_63, F_125_137, I_125_214, J_125_78, I_125_208, J_125_89, J_125_101, I_125_217, J_125_112, J_125_116, J_125_128, F_125_125, J_125_170, I_125_220, F_125_16, J_125_184, I_125_224, J_125_209, J_125_227, V_istore5, V_iload5, V_aloadn0, G_10_40, A_331, T_a331, B_331, V_iloadn1, U_iaload, G_10_39, A_330, T_a330, B_330, V_imul, m_mul_eq, V_iadd, m_add_eq, V_iloadn3, V_iload4, T_10, V_iinc5, V_iloadn2, V_istore6, V_iload6, G_10_14, G_10_48, A_339, T_a339, B_339, U_bastore, U_baload, U_iastore, V_dup2, G_10_44, A_335, T_a335, B_335, V_iinc6, G_10_5, A_299, T_a299, B_299, V_isub, m_sub_eq, b_125_0, b_125_3, b_125_42, b_125_54, b_125_57, b_125_119, b_125_120, b_125_167, b_125_212, b_125_230, i123, i124, h52, h84, hz1, i116])
            exact kk
    · have hE : heL D t a m z x = x := by
        cases z with
        | zero => rfl
        | succ z => rw [heL, if_neg hh]
      rw [hE] at K
      have kk := K S mi mq (fun _ => rfl)
      have hh1 : ¬ D 52 0 t < wsum D 64 x.2 := fun z => hh (Or.inl z)
      have hh2 : ¬ 100 * (wsum D 65 x.2 + 60) < 65 * (wsum D 64 x.2 + 80) := fun z => hh (Or.inr z)
      unfold b_125_173
      repeat' first
        | (refine V_icmp_ge.mpr ?_; first | rw [if_pos (by omega)] | rw [if_neg (by omega)] | split)
        | (refine V_icmp_gt.mpr ?_; first | rw [if_pos (by omega)] | rw [if_neg (by omega)] | split)
        | (refine V_if_eq.mpr ?_; first | rw [if_pos (by omega)] | rw [if_neg (by omega)] | split)
        | (simp (disch := (first | omega | (simp (disch := omega) only [up_f, up_s, up_i, up_k, up_e]; omega))) only [up_f, up_s, up_i, up_k, up_e, V_iconst, V_bipush, V_sipush, V_conti, V_contn, V_goto, Option.some.injEq, exists_eq_left', true_and, and_true, m_fit, Option.isSome_some, List.map_nil, List.map_cons, List.sum_nil, List.sum_cons, List.all_nil, List.all_cons, m_cat, decide_true, Bool.and_true, Bool.true_and, Nat.zero_le, Int.toNat_natCast, Int.reduceAdd, Int.reduceSub, Int.reduceMul, Int.reduceNeg, Int.reduceLE, Int.reduceLT, Nat.reduceAdd, Nat.reduceLeDiff, Int.reduceToNat, Int.reduceEq, decide_eq_true_eq, true_or, or_true, exists_and_left, and_self, Nat.reduceMul, Nat.reduceSub, Nat.reduceLT, m_oa, Nat.reduceEqDiff, or_false, false_or, Sum.inl.injEq, Sum.inr.injEq, ↓reduceIte, ne_eq, not_false_eq_true, Int.reduceNe, exists_eq_left, D_125, R_125, X_125, F_125_113, J_125_11, F_125_110, I_125_211, J_125_33, J_125_39, I_125_204, J_125_51, F_125_161, J_125_63, F_125_137, I_125_214, J_125_78, I_125_208, J_125_89, J_125_101, I_125_217, J_125_112, J_125_116, J_125_128, F_125_125, J_125_170, I_125_220, F_125_16, J_125_184, I_125_224, J_125_209, J_125_227, V_istore5, V_iload5, V_aloadn0, G_10_40, A_331, T_a331, B_331, V_iloadn1, U_iaload, G_10_39, A_330, T_a330, B_330, V_imul, m_mul_eq, V_iadd, m_add_eq, V_iloadn3, V_iload4, T_10, V_iinc5, V_iloadn2, V_istore6, V_iload6, G_10_14, G_10_48, A_339, T_a339, B_339, U_bastore, U_baload, U_iastore, V_dup2, G_10_44, A_335, T_a335, B_335, V_iinc6, G_10_5, A_299, T_a299, B_299, V_isub, m_sub_eq, b_125_0, b_125_3, b_125_42, b_125_54, b_125_57, b_125_119, b_125_120, b_125_167, b_125_212, b_125_230, i123, i124, h52])
      all_goals exact kk
theorem r_125 {t T C k a b : Nat} {D S0 S : Sg} {s : St} {m : Int} (wp : WP D T C) (ht : t < T) (hm : 0 ≤ m ∧ m < 2000) (hk : (k : Int) + 2 ≤ D 54 0 t) (ha : D 55 0 (6 * t + k) = a) (hb : D 55 0 (6 * t + k + 1) = b) (hk1 : s.1 81 0 t = k) (w : WN D T C s) (mr : MR T D S0 S s) :
    ∃ S2, (MI T D S0 S2 (de3 D s t m).1 s.2 t ∧ MU t S2 (de3 D s t m).2 ∧ ∀ (j c : Nat), (de3 D s t m).2[j]? = some c → S2 92 0 c = if (de1 D s t m).2.length ≤ j then 1 else 0) ∧
      ∀ Q, m_do xs L 125 [vR 296, vI t, vI m, vI a, vI b] (mk S e) Q ↔ Q (.inl none) (mk S2 e) := by
  have hT : T ≤ 6 := wp.2.2.1
  have ht6 : t < 6 := by omega
  have hC : C ≤ 10 := wp.2.2.2.1
  have w54 := wp.2.2.2.2.1 t ht6
  have hkn : (s.1 81 0 t).toNat = k := by omega
  have hd1 : de1 D s t m = drL D (6 * t + k) a m (s.2 t) s.1 := by unfold de1; rw [hkn, ha]
  have hd2 : de2 D s t m = coL D t (6 * t + k) a m C (de1 D s t m) := by
    unfold de2; rw [hkn, ha, show (D 2014 0 0).toNat = C by have := wp.2.1; omega]
  have hd3 : de3 D s t m = heL D t a m (de2 D s t m).2.length (de2 D s t m) := by unfold de3; rw [hkn, ha]
  have v0 := V_of w
  have v1 := V_de1 wp ht hm (by omega) v0
  have v2 := V_de2 wp ht hm (by omega) v0
  have n2 := v2.1.1 t ht
  rw [setL_s] at n2
  have hget : ∀ (j c : Nat), (de3 D s t m).2[j]? = some c → (∀ S2 : Sg, (∀ d, d < C → S2 92 0 d = if d ∈ coA D t (6 * t + k) a m C (de1 D s t m) then 1 else 0) → S2 92 0 c = if (de1 D s t m).2.length ≤ j then 1 else 0) := by
    intro j c hj S2 h92
    rw [hd3] at hj
    have hj2 := heL_get _ _ hj
    have hcC : c < C := (n2.2 c (List.mem_of_getElem? hj2)).1
    have hnd := n2.1
    rw [hd2, coL_A] at hj2 hnd
    rw [List.nodup_append] at hnd
    rw [h92 c hcC]
    by_cases hq : (de1 D s t m).2.length ≤ j
    · rw [if_pos hq]
      rw [List.getElem?_append_right hq] at hj2
      rw [if_pos (List.mem_of_getElem? hj2)]
    · rw [if_neg hq]
      rw [List.getElem?_append_left (by omega)] at hj2
      rw [if_neg (fun z => hnd.2.2 c (List.mem_of_getElem? hj2) c z rfl)]
  refine m_do_ex ?_
  repeat' first
    | (refine V_icmp_ge.mpr ?_; first | rw [if_pos (by omega)] | rw [if_neg (by omega)] | split)
    | (refine V_icmp_gt.mpr ?_; first | rw [if_pos (by omega)] | rw [if_neg (by omega)] | split)
    | (refine V_if_eq.mpr ?_; first | rw [if_pos (by omega)] | rw [if_neg (by omega)] | split)
    | (simp (disch := (first | omega | (simp (disch := omega) only [up_f, up_s, up_i, up_k, up_e]; omega))) only [up_f, up_s, up_i, up_k, up_e, V_iconst, V_bipush, V_sipush, V_conti, V_contn, V_goto, Option.some.injEq, exists_eq_left', true_and, and_true, m_fit, Option.isSome_some, List.map_nil, List.map_cons, List.sum_nil, List.sum_cons, List.all_nil, List.all_cons, m_cat, decide_true, Bool.and_true, Bool.true_and, Nat.zero_le, Int.toNat_natCast, Int.reduceAdd, Int.reduceSub, Int.reduceMul, Int.reduceNeg, Int.reduceLE, Int.reduceLT, Nat.reduceAdd, Nat.reduceLeDiff, Int.reduceToNat, Int.reduceEq, decide_eq_true_eq, true_or, or_true, exists_and_left, and_self, Nat.reduceMul, Nat.reduceSub, Nat.reduceLT, m_oa, Nat.reduceEqDiff, or_false, false_or, Sum.inl.injEq, Sum.inr.injEq, ↓reduceIte, ne_eq, not_false_eq_true, Int.reduceNe, exists_eq_left, D_125, R_125, X_125, F_125_113, J_125_11, F_125_110, I_125_211, J_125_33, J_125_39, I_125_204, J_125_51, F_125_161, J_125_63, F_125_137, I_125_214, J_125_78, I_125_208, J_125_89, J_125_101, I_125_217, J_125_112, J_125_116, J_125_128, F_125_125, J_125_170, I_125_220, F_125_16, J_125_184, I_125_224, J_125_209, J_125_227, V_istore5, V_iload5, V_aloadn0, G_10_40, A_331, T_a331, B_331, V_iloadn1, U_iaload, G_10_39, A_330, T_a330, B_330, V_imul, m_mul_eq, V_iadd, m_add_eq, V_iloadn3, V_iload4, T_10, V_iinc5, V_iloadn2, V_istore6, V_iload6, G_10_14, G_10_48, A_339, T_a339, B_339, U_bastore, U_baload, U_iastore, V_dup2, G_10_44, A_335, T_a335, B_335, V_iinc6, G_10_5, A_299, T_a299, B_299, V_isub, m_sub_eq, b_125_0, b_125_42, b_125_54, b_125_57, b_125_119, b_125_120, b_125_167, b_125_173, b_125_212, b_125_230])
  refine k_125a wp ht hm hk ha hb (s.2 t) [] s.1 S 0 _ rfl (MR_MI mr) (by rw [List.nil_append, setL_self]; exact v0) (mr.2.2.1 t ht) (fun S1 pl v a1 a2 => ?_)
  rw [← hd1] at a1 a2
  rw [List.nil_append] at a2
  unfold b_125_54
  repeat' first
    | (refine V_icmp_ge.mpr ?_; first | rw [if_pos (by omega)] | rw [if_neg (by omega)] | split)
    | (refine V_icmp_gt.mpr ?_; first | rw [if_pos (by omega)] | rw [if_neg (by omega)] | split)
    | (refine V_if_eq.mpr ?_; first | rw [if_pos (by omega)] | rw [if_neg (by omega)] | split)
    | (simp (disch := (first | omega | (simp (disch := omega) only [up_f, up_s, up_i, up_k, up_e]; omega))) only [up_f, up_s, up_i, up_k, up_e, V_iconst, V_bipush, V_sipush, V_conti, V_contn, V_goto, Option.some.injEq, exists_eq_left', true_and, and_true, m_fit, Option.isSome_some, List.map_nil, List.map_cons, List.sum_nil, List.sum_cons, List.all_nil, List.all_cons, m_cat, decide_true, Bool.and_true, Bool.true_and, Nat.zero_le, Int.toNat_natCast, Int.reduceAdd, Int.reduceSub, Int.reduceMul, Int.reduceNeg, Int.reduceLE, Int.reduceLT, Nat.reduceAdd, Nat.reduceLeDiff, Int.reduceToNat, Int.reduceEq, decide_eq_true_eq, true_or, or_true, exists_and_left, and_self, Nat.reduceMul, Nat.reduceSub, Nat.reduceLT, m_oa, Nat.reduceEqDiff, or_false, false_or, Sum.inl.injEq, Sum.inr.injEq, ↓reduceIte, ne_eq, not_false_eq_true, Int.reduceNe, exists_eq_left, D_125, R_125, X_125, F_125_113, J_125_11, F_125_110, I_125_211, J_125_33, J_125_39, I_125_204, J_125_51, F_125_161, J_125_63, F_125_137, I_125_214, J_125_78, I_125_208, J_125_89, J_125_101, I_125_217, J_125_112, J_125_116, J_125_128, F_125_125, J_125_170, I_125_220, F_125_16, J_125_184, I_125_224, J_125_209, J_125_227, V_istore5, V_iload5, V_aloadn0, G_10_40, A_331, T_a331, B_331, V_iloadn1, U_iaload, G_10_39, A_330, T_a330, B_330, V_imul, m_mul_eq, V_iadd, m_add_eq, V_iloadn3, V_iload4, T_10, V_iinc5, V_iloadn2, V_istore6, V_iload6, G_10_14, G_10_48, A_339, T_a339, B_339, U_bastore, U_baload, U_iastore, V_dup2, G_10_44, A_335, T_a335, B_335, V_iinc6, G_10_5, A_299, T_a299, B_299, V_isub, m_sub_eq, b_125_0, b_125_3, b_125_42, b_125_54, b_125_119, b_125_120, b_125_167, b_125_173, b_125_212, b_125_230])
  refine k_125b wp ht hm hk ha hb C 0 0 (de1 D s t m) S1 (by omega) rfl a1 v1 (by rw [hd1, drL_f (by decide) (by decide)]; exact hk1) a2 (fun d hd => by omega) (fun S2 cc b1 b2 b3 => ?_)
  rw [← hd2] at b1 b2
  refine k_125c wp ht hm hk ha hb (de2 D s t m).2.length (de2 D s t m) S2 rfl b1 v2 b2 (fun S3 c1 c2 c3 => ⟨rfl, S3, rfl, ?_, ?_, fun j c hj => hget j c hj S3 (fun d hd => (c3 d).trans (b3 d hd))⟩)
  · rw [← hd3] at c1; exact c1
  · rw [← hd3] at c2; exact c2
end V
