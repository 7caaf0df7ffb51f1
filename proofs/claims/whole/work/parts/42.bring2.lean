/-! ===== a train comes in (class): the whole ===== -/
/-- how many trains are not at their last stops -/
def cntA (D N : Sg) : Nat → Int
  | 0 => 0
  | t + 1 => cntA D N t + (if N 81 0 t + 1 < D 54 0 t then 1 else 0)
theorem cntA_ext {D N N2 : Sg} : ∀ T : Nat, (∀ t, t < T → N2 81 0 t = N 81 0 t) → cntA D N2 T = cntA D N T
  | 0, _ => rfl
  | T + 1, h => by
    unfold cntA
    rw [cntA_ext T (fun t ht => h t (by omega)), h T (by omega)]
theorem cntA_ran {D N : Sg} : ∀ T : Nat, 0 ≤ cntA D N T ∧ cntA D N T ≤ T
  | 0 => by simp [cntA]
  | T + 1 => by
    have := cntA_ran (D := D) (N := N) T
    unfold cntA
    split <;> omega
theorem cntA_0 {D N : Sg} : ∀ T : Nat, cntA D N T ≤ 0 → ∀ t, t < T → D 54 0 t ≤ N 81 0 t + 1
  | 0, _, t, ht => by omega
  | T + 1, h, t, ht => by
    unfold cntA at h
    have h1 := cntA_ran (D := D) (N := N) T
    by_cases hz : N 81 0 T + 1 < D 54 0 T
    · rw [if_pos hz] at h; omega
    · rw [if_neg hz] at h
      by_cases htt : t = T
      · subst htt; omega
      · exact cntA_0 T (by omega) t (by omega)
theorem cntA_up {D N N2 : Sg} {t : Nat} (h1 : N 81 0 t + 2 ≤ D 54 0 t) (h2 : N2 81 0 t = N 81 0 t + 1) : ∀ T : Nat, t < T → (∀ u, ¬ u = t → N2 81 0 u = N 81 0 u) → cntA D N2 T = cntA D N T - (if D 54 0 t ≤ N 81 0 t + 2 then 1 else 0)
  | 0, h, _ => by omega
  | T + 1, h, k => by
    unfold cntA
    by_cases htt : t = T
    · subst htt
      rw [cntA_ext t (fun u hu => k u (by omega)), h2, if_pos (show N 81 0 t + 1 < D 54 0 t by omega)]
      by_cases hz : D 54 0 t ≤ N 81 0 t + 2
      · rw [if_pos hz, if_neg (by omega)]; omega
      · rw [if_neg hz, if_pos (by omega)]; omega
    · rw [cntA_up h1 h2 T (by omega) k, k T (fun z => htt z.symm)]
      omega
def CR (n T C : Nat) (D S0 S : Sg) (s : St) : Prop := PC D S ∧ RW n C S s.1 ∧ (∀ u, u < T → RR n u D S s.1) ∧ (∀ u, u < T → RQ n u S (s.2 u)) ∧ RO n S s.1 ∧ FC n S0 S ∧ S 1204 n 0 = cntA D s.1 T
theorem CR_CI {n T C t : Nat} {D S0 S : Sg} {s : St} (h : CR n T C D S0 S s) : CI n T C D S0 S s.1 s.2 t := ⟨h.1, h.2.1, h.2.2.1, fun u hu _ => h.2.2.2.1 u hu, h.2.2.2.2.1, h.2.2.2.2.2.1⟩
theorem CI_CR {n T C t : Nat} {D S0 S N : Sg} {l : Ls} {x : List Nat} (h : CI n T C D S0 S N l t) (hx : RQ n t S x) (ha : S 1204 n 0 = cntA D N T) : CR n T C D S0 S (N, setL l t x) := by
  refine ⟨h.1, h.2.1, h.2.2.1, fun u hu => ?_, h.2.2.2.2.1, h.2.2.2.2.2, ha⟩
  by_cases hut : u = t
  · subst hut
    simp only [setL_s]
    exact hx
  · simp only [setL_n hut]
    exact h.2.2.2.1 u hu hut
/-- behind comeIn -/
theorem CI_in {n T C t k : Nat} {D S0 S N : Sg} {l : Ls} {m r : Int} (h : CI n T C D S0 S N l t) (hn : n < 3) (ht : t < T) (ht6 : t < 6) (hk : k < 5) (hN : N 81 0 t = k) (hs : (k : Int) + 2 ≤ D 54 0 t) (hd : N 79 0 (6 * t + k + 1) = m)
    (hr : r = if D 54 0 t ≤ (k : Int) + 1 + 1 then 1000000 else if S 11 t (k + 1) < m + S 15 t (k + 1) then m + S 15 t (k + 1) else S 11 t (k + 1)) :
    CI n T C D S0 (up (up (up (up S 1503 (6 * n + t) 0 ((k : Int) + 1)) 32 (6 * n + t) (k + 1) m) 1504 (6 * n + t) 0 1000000) 1505 (6 * n + t) 0 r) (up (up N 82 0 t 0) 81 0 t (k + 1 : Nat)) l t := by
  obtain ⟨h1, h2, h3, h4, h5, h6⟩ := h
  refine ⟨PC_up (PC_up (PC_up (PC_up h1 rfl) rfl) rfl) rfl, RW_ext h2 (fun f i hf => by simp (disch := omega) only [up_f]) (fun f c hf => by simp (disch := omega) only [up_f]), fun u hu => ?_, fun u hu hut => RQ_ext (h4 u hu hut) (fun f k hf => by simp (disch := omega) only [up_f]), RO_ext h5 (fun k => by simp (disch := omega) only [up_f]) (fun k => by simp (disch := omega) only [up_f]), FC_up (FC_up (FC_up (FC_up h6 (by unfold fpC; omega)) (by unfold fpC; omega)) (by unfold fpC; omega)) (by unfold fpC; omega)⟩
  have hz := h3 u hu
  by_cases hut : u = t
  · subst hut
    obtain ⟨z1, z2, z3, z4, z5, z6, z7, z8⟩ := hz
    have e1 := PC_11 h1 ht6 (show k + 1 < 6 by omega)
    have e2 := PC_15 h1 ht6 (show k + 1 < 6 by omega)
    have hk2 : ((k + 1 : Nat) : Int).toNat = k + 1 := by omega
    refine ⟨?_, ?_, ?_, ?_, fun j hj => ?_, fun j hj => ?_, fun j hj => ?_, fun j hj => ?_⟩
    · simp (disch := omega) only [up_f]; exact z1
    · simp (disch := omega) only [up_f, up_s]; omega
    · unfold due
      simp (disch := omega) only [up_f, up_s, if_true]
    · unfold rpe
      simp (disch := omega) only [up_f, up_s, if_true]
      rw [hr, e1, e2, hk2, ← Nat.add_assoc, hd]
      by_cases hq : D 54 0 u ≤ (k : Int) + 1 + 1
      · rw [if_pos hq, if_neg (by omega)]
      · have h9 : ((k + 1 : Nat) : Int) + 1 < D 54 0 u := by omega
        have h8 : ¬ ((k + 1 : Nat) : Int) = 0 := by omega
        simp only [if_neg hq, h9, h8, true_and, if_true, if_false]
    · simp (disch := omega) only [up_f, up_s]
      by_cases hjk : j = k + 1
      · subst hjk
        rw [up_s, if_pos (by omega), ← Nat.add_assoc, hd]
      · rw [up_k hjk, up_f (by decide), z5 j hj, hN]
        by_cases hq : (j : Int) ≤ k
        · rw [if_pos hq, if_pos (by omega)]
        · rw [if_neg hq, if_neg (by omega)]
    · simp (disch := omega) only [up_f]; exact z6 j hj
    · simp (disch := omega) only [up_f]; exact z7 j hj
    · simp (disch := omega) only [up_f]; exact z8 j hj
  · unfold RR due rpe at hz ⊢
    simp (disch := omega) only [up_f, up_i, up_k]
    exact hz
section V
variable {xs : Nat → Int32} {L : Nat} {e : Nat}
theorem r_27 {n t T C : Nat} {D S0 S : Sg} {s : St} {m : Int} (hn : n < 3) (wp : WP D T C) (ht : t < T) (hm : 0 ≤ m ∧ m < 2000) (hdu : due s.1 t = m) (w : WN D T C s) (cr : CR n T C D S0 S s) :
    m_do xs L 27 [vR (nt n), vR (ru n t), vI m] (mk S e) (fun o h => o = .inl none ∧ ∃ S2, h = mk S2 e ∧ CR n T C D S0 S2 (arr D s t m)) := by
  have hT : T ≤ 6 := wp.2.2.1
  have ht6 : t < 6 := by omega
  have hC : C ≤ 10 := wp.2.2.2.1
  obtain ⟨d1, d2⟩ := due_1 hdu hm.2
  have w1 := w.1 t ht
  have k2 := wp.2.2.2.2.1 t ht6
  have w0 := V_of w
  obtain ⟨k, hk⟩ : ∃ k : Nat, s.1 81 0 t = k := ⟨(s.1 81 0 t).toNat, by omega⟩
  have hkn : (s.1 81 0 t).toNat = k := by omega
  rw [hkn] at d2
  have hs2 : (k : Int) + 2 ≤ D 54 0 t := by omega
  have hk5 : k < 5 := by omega
  have ci := CR_CI (t := t) cr
  have rr := ci.2.2.1 t ht
  have h1503 : S 1503 (6 * n + t) 0 = k := by rw [rr.2.1, hk]
  have h1700 := PC_1700 ci.1 ht6
  have h44 : ∀ Q, m_do xs L 44 [vR (ru n t)] (mk S e) Q ↔ Q (.inl (some (vI 0))) (mk S e) := fun Q => by
    rw [s_44 hn ht6 (by omega), if_neg (by omega)]
  have e15 := PC_15 ci.1 ht6 (show k + 1 < 6 by omega)
  have kst := wp.2.2.2.2.2.1 (6 * t + (k + 1)) (by omega)
  have h50 := s_50 (xs := xs) (L := L) (S := S) (e := e) (m := m) hn ht6 hk5 h1503 hm (by omega)
  have hx : ((k : Int) + 1).toNat = k + 1 := by omega
  have h10 := PC_10 ci.1 ht6 (show k + 1 < 6 by omega)
  have rq := cr.2.2.2.1 t ht
  have hv0 : V D (up (up s.1 82 0 t 0) 81 0 t (k + 1 : Nat)) (setL s.2 t ([] ++ s.2 t)) T C := by
    rw [List.nil_append, setL_self]
    exact V_ext w0 (fun c => by simp (disch := omega) only [up_f]) (fun c => by simp (disch := omega) only [up_f]) (fun c => by simp (disch := omega) only [up_f])
  have hlen : (s.2 t).length ≤ 10 := by
    rw [List.nil_append] at hv0
    exact V_len hv0 ht hC
  have hlast : decide (((k + 1 : Nat) : Int) = D 54 0 t - 1) = true ↔ D 54 0 t ≤ ((k : Int) + 1) + 1 := by
    rw [decide_eq_true_eq]; omega
  have harr : arr D s t m = ((arL D (D 55 0 (6 * t + (k + 1))) m (decide (((k + 1 : Nat) : Int) = D 54 0 t - 1)) (s.2 t) (up (up s.1 82 0 t 0) 81 0 t (k + 1 : Nat))).1, setL s.2 t (arL D (D 55 0 (6 * t + (k + 1))) m (decide (((k + 1 : Nat) : Int) = D 54 0 t - 1)) (s.2 t) (up (up s.1 82 0 t 0) 81 0 t (k + 1 : Nat))).2) := by
    unfold arr
    rw [hkn]
  have hab := cr.2.2.2.2.2.2
  have hcr := cntA_ran (D := D) (N := s.1) T
  repeat' first
    | (refine V_icmp_ge.mpr ?_; first | rw [if_pos (by omega)] | rw [if_neg (by omega)] | split)
    | (refine V_if_eq.mpr ?_; first | rw [if_pos (by omega)] | rw [if_neg (by omega)] | split)
    | (refine V_if_ne.mpr ?_; first | rw [if_pos (by omega)] | rw [if_neg (by omega)] | split)
    | (simp (disch := (first | omega | (simp (disch := omega) only [up_f, up_s, up_i, up_k, up_e]; omega))) only [up_f, up_s, up_i, up_k, up_e, V_iconst, V_bipush, V_sipush, V_conti, V_contn, V_goto, Option.some.injEq, exists_eq_left', true_and, and_true, m_fit, Option.isSome_some, List.map_nil, List.map_cons, List.sum_nil, List.sum_cons, List.all_nil, List.all_cons, m_cat, decide_true, Bool.and_true, Bool.true_and, Nat.zero_le, Int.toNat_natCast, Int.reduceAdd, Int.reduceSub, Int.reduceMul, Int.reduceNeg, Int.reduceLE, Int.reduceLT, Nat.reduceAdd, Nat.reduceLeDiff, Int.reduceToNat, Int.reduceEq, decide_eq_true_eq, true_or, or_true, exists_and_left, and_self, Nat.reduceMul, Nat.reduceSub, Nat.reduceLT, m_oa, Nat.reduceEqDiff, or_false, false_or, Sum.inl.injEq, Sum.inr.injEq, ↓reduceIte, ne_eq, not_false_eq_true, Int.reduceNe, exists_eq_left, D_27, R_27, X_27, I_27_83, J_27_4, I_27_125, F_27_128, F_27_132, F_27_137, F_27_140, J_27_38, F_27_143, F_27_19, I_27_146, J_27_63, J_27_81, W_27_140, J_27_94, F_27_55, W_27_55, V_aloadn1, T_5, V_iloadn2, G_5_1, G_7_3, A_trA0, T_atrA0, B_trA0, G_5_3, U_iaload, V_istoren3, V_istore4, V_istore5, V_iload5, G_5_7, G_5_6, A_ruA0, T_aruA0, B_ruA0, V_istore6, V_aloadn0, G_2_2, A_ntW, T_antW, V_iload6, U_aaload, V_iloadn3, V_iload4, U_iastore, V_iinc4, m_add_eq, V_iinc5, P_5_7, V_dup_vI, V_dup_vR, G_2_4, V_isub, m_sub_eq, P_2_4, b_27_0, b_27_8, b_27_78, b_27_107, h44, h50, hx, h10])
  refine k_27 hn wp ht hm (by omega) (show 0 ≤ (k : Int) + 1 ∧ (k : Int) + 1 < 6 by omega) hlast (s.2 t) [] (up (up s.1 82 0 t 0) 81 0 t (k + 1 : Nat)) _ 0 _ _ _ rfl rfl (by simp) (by omega) (CI_in ci hn ht ht6 hk5 hk hs2 d2 (by rw [h1700])) hv0 (by rw [up_s]; omega) ?_ LA_nil ?_ (fun S2 kk ii v a1 a2 a3 a4 => ?_)
  · simp (disch := omega) only [up_f]
    rw [rq.1]; simp
  · exact LA_ext (fun j _ => by simp (disch := omega) only [up_f, Nat.zero_add]) rq.2
  · subst a1
    have rr2 := a2.2.2.1 t ht
    have hN2 : (arL D (D 55 0 (6 * t + (k + 1))) m (decide (((k + 1 : Nat) : Int) = D 54 0 t - 1)) (s.2 t) (up (up s.1 82 0 t 0) 81 0 t (k + 1 : Nat))).1 81 0 t = (k : Int) + 1 := by
      rw [arL_f (by decide) (by decide) (by decide), up_s]; omega
    have hcnt := cntA_up (D := D) (N := s.1) (N2 := (arL D (D 55 0 (6 * t + (k + 1))) m (decide (((k + 1 : Nat) : Int) = D 54 0 t - 1)) (s.2 t) (up (up s.1 82 0 t 0) 81 0 t (k + 1 : Nat))).1) (t := t) (by omega) (by rw [hN2, hk]) T ht (fun u hu => by rw [arL_f (by decide) (by decide) (by decide), up_k hu, up_f (by decide)])
    have g1503 : S2 1503 (6 * n + t) 0 = (k : Int) + 1 := by rw [rr2.2.1, hN2]
    have g1700 := PC_1700 a2.1 ht6
    have a5 : S2 1204 n 0 = cntA D s.1 T := by
      rw [a4]
      simp (disch := omega) only [up_f]
      exact hab
    rw [harr]
    generalize hr : arL D (D 55 0 (6 * t + (k + 1))) m (decide (((k + 1 : Nat) : Int) = D 54 0 t - 1)) (s.2 t) (up (up s.1 82 0 t 0) 81 0 t (k + 1 : Nat)) = r at *
    rw [List.nil_append] at a3 ⊢
    by_cases hq : D 54 0 t ≤ (k : Int) + 1 + 1
    · have g44 : ∀ Q, m_do xs L 44 [vR (ru n t)] (mk (up S2 1507 (6 * n + t) 0 r.2.length) e) Q ↔ Q (.inl (some (vI 1))) (mk (up S2 1507 (6 * n + t) 0 r.2.length) e) := fun Q => by
        rw [s_44 hn ht6 (by simp (disch := omega) only [up_f]; omega), if_pos (by simp (disch := omega) only [up_f]; omega)]
      rw [if_pos (by omega)] at hcnt
      unfold b_27_84
      repeat' first
        | (refine V_icmp_ge.mpr ?_; first | rw [if_pos (by omega)] | rw [if_neg (by omega)] | split)
        | (refine V_if_eq.mpr ?_; first | rw [if_pos (by omega)] | rw [if_neg (by omega)] | split)
        | (refine V_if_ne.mpr ?_; first | rw [if_pos (by omega)] | rw [if_neg (by omega)] | split)
        | (simp (disch := (first | omega | (simp (disch := omega) only [up_f, up_s, up_i, up_k, up_e]; omega))) only [up_f, up_s, up_i, up_k, up_e, V_iconst, V_bipush, V_sipush, V_conti, V_contn, V_goto, Option.some.injEq, exists_eq_left', true_and, and_true, m_fit, Option.isSome_some, List.map_nil, List.map_cons, List.sum_nil, List.sum_cons, List.all_nil, List.all_cons, m_cat, decide_true, Bool.and_true, Bool.true_and, Nat.zero_le, Int.toNat_natCast, Int.reduceAdd, Int.reduceSub, Int.reduceMul, Int.reduceNeg, Int.reduceLE, Int.reduceLT, Nat.reduceAdd, Nat.reduceLeDiff, Int.reduceToNat, Int.reduceEq, decide_eq_true_eq, true_or, or_true, exists_and_left, and_self, Nat.reduceMul, Nat.reduceSub, Nat.reduceLT, m_oa, Nat.reduceEqDiff, or_false, false_or, Sum.inl.injEq, Sum.inr.injEq, ↓reduceIte, ne_eq, not_false_eq_true, Int.reduceNe, exists_eq_left, D_27, R_27, X_27, I_27_83, J_27_4, I_27_125, F_27_128, F_27_132, F_27_137, F_27_140, J_27_38, F_27_143, F_27_19, I_27_146, J_27_63, J_27_81, W_27_140, J_27_94, F_27_55, W_27_55, V_aloadn1, T_5, V_iloadn2, G_5_1, G_7_3, A_trA0, T_atrA0, B_trA0, G_5_3, U_iaload, V_istoren3, V_istore4, V_istore5, V_iload5, G_5_7, G_5_6, A_ruA0, T_aruA0, B_ruA0, V_istore6, V_aloadn0, G_2_2, A_ntW, T_antW, V_iload6, U_aaload, V_iloadn3, V_iload4, U_iastore, V_iinc4, m_add_eq, V_iinc5, P_5_7, V_dup_vI, V_dup_vR, G_2_4, V_isub, m_sub_eq, P_2_4, b_27_0, b_27_8, b_27_78, b_27_107, g44, a5])
      refine ⟨_, rfl, CI_CR (CI_up (CI_up a2 hn (Or.inr (Or.inl ⟨rfl, rfl, ht6⟩))) hn (Or.inr (Or.inr (Or.inr ⟨rfl, rfl⟩)))) ⟨?_, ?_⟩ ?_⟩
      · simp (disch := omega) only [up_f, up_s]
      · exact LA_ext (fun j _ => by simp (disch := omega) only [up_f]) a3
      · simp (disch := omega) only [up_f, up_s]; omega
    · have g44 : ∀ Q, m_do xs L 44 [vR (ru n t)] (mk (up S2 1507 (6 * n + t) 0 r.2.length) e) Q ↔ Q (.inl (some (vI 0))) (mk (up S2 1507 (6 * n + t) 0 r.2.length) e) := fun Q => by
        rw [s_44 hn ht6 (by simp (disch := omega) only [up_f]; omega), if_neg (by simp (disch := omega) only [up_f]; omega)]
      rw [if_neg (by omega)] at hcnt
      unfold b_27_84
      repeat' first
        | (refine V_icmp_ge.mpr ?_; first | rw [if_pos (by omega)] | rw [if_neg (by omega)] | split)
        | (refine V_if_eq.mpr ?_; first | rw [if_pos (by omega)] | rw [if_neg (by omega)] | split)
        | (refine V_if_ne.mpr ?_; first | rw [if_pos (by omega)] | rw [if_neg (by omega)] | split)
        | (simp (disch := (first | omega | (simp (disch := omega) only [up_f, up_s, up_i, up_k, up_e]; omega))) only [up_f, up_s, up_i, up_k, up_e, V_iconst, V_bipush, V_sipush, V_conti, V_contn, V_goto, Option.some.injEq, exists_eq_left', true_and, and_true, m_fit, Option.isSome_some, List.map_nil, List.map_cons, List.sum_nil, List.sum_cons, List.all_nil, List.all_cons, m_cat, decide_true, Bool.and_true, Bool.true_and, Nat.zero_le, Int.toNat_natCast, Int.reduceAdd, Int.reduceSub, Int.reduceMul, Int.reduceNeg, Int.reduceLE, Int.reduceLT, Nat.reduceAdd, Nat.reduceLeDiff, Int.reduceToNat, Int.reduceEq, decide_eq_true_eq, true_or, or_true, exists_and_left, and_self, Nat.reduceMul, Nat.reduceSub, Nat.reduceLT, m_oa, Nat.reduceEqDiff, or_false, false_or, Sum.inl.injEq, Sum.inr.injEq, ↓reduceIte, ne_eq, not_false_eq_true, Int.reduceNe, exists_eq_left, D_27, R_27, X_27, I_27_83, J_27_4, I_27_125, F_27_128, F_27_132, F_27_137, F_27_140, J_27_38, F_27_143, F_27_19, I_27_146, J_27_63, J_27_81, W_27_140, J_27_94, F_27_55, W_27_55, V_aloadn1, T_5, V_iloadn2, G_5_1, G_7_3, A_trA0, T_atrA0, B_trA0, G_5_3, U_iaload, V_istoren3, V_istore4, V_istore5, V_iload5, G_5_7, G_5_6, A_ruA0, T_aruA0, B_ruA0, V_istore6, V_aloadn0, G_2_2, A_ntW, T_antW, V_iload6, U_aaload, V_iloadn3, V_iload4, U_iastore, V_iinc4, m_add_eq, V_iinc5, P_5_7, V_dup_vI, V_dup_vR, G_2_4, V_isub, m_sub_eq, P_2_4, b_27_0, b_27_8, b_27_78, b_27_107, g44])
      refine ⟨_, rfl, CI_CR (CI_up a2 hn (Or.inr (Or.inl ⟨rfl, rfl, ht6⟩))) ⟨?_, ?_⟩ ?_⟩
      · simp (disch := omega) only [up_s]
      · exact LA_ext (fun j _ => by simp (disch := omega) only [up_f]) a3
      · simp (disch := omega) only [up_f]; omega
end V
