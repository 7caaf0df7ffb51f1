/-! ===== a night of the class ===== -/
theorem fillS_f {S : Sg} {F I n f i k : Nat} {v : Int} (h : ¬ f = F) : fillS S F I n v f i k = S f i k := if_neg (fun z => h z.1)
theorem fillS_i {S : Sg} {F I n f i k : Nat} {v : Int} (h : ¬ i = I) : fillS S F I n v f i k = S f i k := if_neg (fun z => h z.2.1)
theorem fillS_v {S : Sg} {F I n k : Nat} {v : Int} (h : k < n) : fillS S F I n v F I k = v := if_pos ⟨rfl, rfl, h⟩
theorem runB_i {S : Sg} {n t f i k : Nat} (h : ¬ i = 6 * n + t) : runB S n t f i k = S f i k := by
  unfold runB
  simp only [fillS, up]
  simp only [h, false_and, and_false, if_false]
theorem runB_f {S : Sg} {n t f i k : Nat} (h : ¬ f = 1502 ∧ ¬ f = 1503 ∧ ¬ f = 1504 ∧ ¬ f = 1505 ∧ ¬ f = 1507 ∧ ¬ f = 32 ∧ ¬ f = 33 ∧ ¬ f = 34 ∧ ¬ f = 35) : runB S n t f i k = S f i k := by
  unfold runB
  simp only [fillS, up]
  simp only [h, false_and, if_false]
theorem RR_beg {n t T C : Nat} {D S : Sg} (wp : WP D T C) (ht : t < 6) (pc : PC D S) (hp : S 1702 t 0 = D 53 0 t) : RR n t D (runB S n t) (begN D) ∧ RQ n t (runB S n t) [] := by
  have h1 := PC_1700 pc ht
  have h2 := PC_11 pc ht (show 0 < 6 by omega)
  rw [Nat.add_zero] at h2
  refine ⟨⟨?_, ?_, ?_, ?_, fun k hk => ?_, fun k hk => ?_, fun k hk => ?_, fun k hk => ?_⟩, ?_, LA_nil⟩
  · unfold runB
    simp (disch := omega) only [fillS_f, up_f, up_s]; exact hp
  · unfold runB
    simp (disch := omega) only [fillS_f, up_f, up_s]; simp [begN]
  · unfold runB
    simp (disch := omega) only [fillS_f, up_f, up_s]; simp [begN, due]
  · unfold runB
    simp (disch := omega) only [fillS_f, up_f, up_s]
    rw [h1, h2]
    simp only [rpe, begN]
    simp
    by_cases hq : D 54 0 t ≤ 1
    · rw [if_pos hq, if_neg (by omega)]
    · rw [if_neg hq, if_pos (by omega)]
  · unfold runB
    simp (disch := omega) only [fillS_f]
    have hmod : (6 * t + k) % 6 = k := by omega
    by_cases hk0 : k = 0
    · subst hk0
      rw [up_s]
      simp [begN]
    · rw [up_k hk0, fillS_v hk]
      simp [begN]
      omega
  · unfold runB
    simp (disch := omega) only [fillS_f, fillS_v]
    simp [begN]
  · unfold runB
    simp (disch := omega) only [fillS_f, fillS_v]
    simp [begN, shB]
  · unfold runB
    simp (disch := omega) only [fillS_f, fillS_v]
    simp [begN]
  · unfold runB
    simp (disch := omega) only [fillS_f, up_f, up_s]
    simp
theorem FC_runB {n t : Nat} {S0 S : Sg} (h : FC n S0 S) (ht : t < 6) : FC n S0 (runB S n t) := fun f i k hn => by
  by_cases hi : i = 6 * n + t
  · rw [runB_f]
    · exact h f i k hn
    · unfold fpC at hn
      omega
  · rw [runB_i hi]
    exact h f i k hn
theorem CR_base {n T C : Nat} {D S0 S : Sg} {s : St} (h : CR n T C D S0 S s) : CR n T C D S S s := ⟨h.1, h.2.1, h.2.2.1, h.2.2.2.1, h.2.2.2.2.1, FC_refl, h.2.2.2.2.2.2⟩
theorem CR_trans {n T C : Nat} {D S0 S1 S : Sg} {s : St} (h : CR n T C D S1 S s) (k : FC n S0 S1) : CR n T C D S0 S s := ⟨h.1, h.2.1, h.2.2.1, h.2.2.2.1, h.2.2.2.2.1, FC_trans k h.2.2.2.2.2.1, h.2.2.2.2.2.2⟩
theorem CR_1205 {n T C : Nat} {D S0 S : Sg} {s : St} {v : Int} (h : CR n T C D S0 S s) : CR n T C D S0 (up S 1205 n 0 v) s := by
  obtain ⟨h1, h2, h3, h4, h5, h6, h7⟩ := h
  refine ⟨PC_up h1 rfl, RW_S h2 (fun f i hf => up_f (by omega)), fun u hu => RR_ext (h3 u hu) (fun f k hf => up_f (by omega)) (fun _ _ _ => rfl), fun u hu => RQ_ext (h4 u hu) (fun f k hf => up_f (by omega)), RO_ext h5 (fun k => up_f (by omega)) (fun _ => rfl), FC_up h6 (by unfold fpC; omega), ?_⟩
  rw [up_f (by decide)]; exact h7
/-- another patience -/
theorem PC_pat {D S : Sg} {t : Nat} {v : Int} (h : PC D S) : PC (up D 53 0 t v) S := by
  have hst : ∀ (t2 : Nat) (a : Int) (k : Nat), stopF (up D 53 0 t v) t2 a k = stopF D t2 a k := fun t2 a k => by
    induction k with
    | zero => rfl
    | succ k ih => simp only [stopF, ih]; rw [up_f (by decide)]
  have hsa : ∀ (t2 : Nat) (a : Int), stA (up D 53 0 t v) t2 a = stA D t2 a := fun t2 a => by
    unfold stA
    rw [hst, up_f (by decide)]
  unfold PC begP usd at h ⊢
  simp (disch := omega) only [up_f, hsa]
  exact h
theorem WP_pat {D : Sg} {T C t : Nat} {v : Int} (h : WP D T C) (hv : 0 ≤ v ∧ v ≤ 180) : WP (up D 53 0 t v) T C := by
  obtain ⟨h1, h2, h3, h4, h5, h6, h7, h8, h9, h10⟩ := h
  refine ⟨?_, ?_, h3, h4, fun u hu => ?_, fun k hk => ?_, fun c hc => ?_, fun c p hc hp => ?_, fun c p hc hp => ?_, fun u k hu hk hq => ?_⟩
  · rw [up_f (by decide)]; exact h1
  · rw [up_f (by decide)]; exact h2
  · have := h5 u hu
    rw [up_f (show ¬ 54 = 53 by decide), up_f (show ¬ 52 = 53 by decide)]
    by_cases hut : u = t
    · subst hut
      rw [up_s]
      omega
    · rw [up_k hut]
      exact this
  · simp (disch := omega) only [up_f]; exact h6 k hk
  · simp (disch := omega) only [up_f]; exact h7 c hc
  · simp (disch := omega) only [up_f]; exact h8 c p hc hp
  · rw [up_f (by decide)] at hp
    rw [up_f (by decide)]; exact h9 c p hc hp
  · rw [up_f (by decide)] at hq
    rw [up_f (by decide)]; exact h10 u k hu hk hq
theorem begA_pat {D : Sg} {t : Nat} {v : Int} : begA (up D 53 0 t v) = begA D := by
  unfold begA begN
  simp (disch := omega) only [up_f]
theorem cntA_pat {D N : Sg} {t : Nat} {v : Int} : ∀ T, cntA (up D 53 0 t v) N T = cntA D N T
  | 0 => rfl
  | T + 1 => by
    unfold cntA
    rw [cntA_pat T, up_f (by decide)]
theorem CR_pat {n T C t : Nat} {D S0 S : Sg} {v : Int} (hn : n < 3) (ht : t < T) (ht6 : T ≤ 6) (h : CR n T C D S0 S (begA D)) : CR n T C (up D 53 0 t v) S0 (up S 1502 (6 * n + t) 0 v) (begA (up D 53 0 t v)) := by
  obtain ⟨h1, h2, h3, h4, h5, h6, h7⟩ := h
  rw [begA_pat]
  refine ⟨PC_pat (PC_up h1 rfl), RW_S h2 (fun f i hf => up_f (by omega)), fun u hu => ?_, fun u hu => RQ_ext (h4 u hu) (fun f k hf => up_f (by omega)), RO_ext h5 (fun k => up_f (by omega)) (fun _ => rfl), FC_up h6 (by unfold fpC; omega), ?_⟩
  · obtain ⟨z1, z2, z3, z4, z5, z6, z7, z8⟩ := h3 u hu
    refine ⟨?_, ?_, ?_, ?_, fun k hk => ?_, fun k hk => ?_, fun k hk => ?_, fun k hk => ?_⟩
    · by_cases hut : u = t
      · subst hut; rw [up_s, up_s]
      · rw [up_i (by omega), up_k hut]; exact z1
    · rw [up_f (by decide)]; exact z2
    · rw [up_f (by decide)]; exact z3
    · rw [up_f (by decide), z4]
      unfold rpe
      simp (disch := omega) only [up_f]
    · rw [up_f (by decide)]; exact z5 k hk
    · rw [up_f (by decide)]; exact z6 k hk
    · rw [up_f (by decide)]; exact z7 k hk
    · rw [up_f (by decide)]; exact z8 k hk
  · rw [up_f (by decide), h7]
    exact (cntA_pat T).symm
/-- how many are home -/
def hmA (D N : Sg) : Nat → Int
  | 0 => 0
  | k + 1 => hmA D N k + (if 0 < D 69 0 k ∧ D 69 0 k ≤ N 90 0 k then 1 else 0)
theorem hmA_C {n T C : Nat} {D S0 S : Sg} {s : St} (hC : C ≤ 10) (h : CR n T C D S0 S s) : ∀ k, k ≤ C → homesC S n k = hmA D s.1 k
  | 0, _ => rfl
  | k + 1, hk => by
    unfold homesC hmA
    rw [hmA_C hC h k (by omega), PC_1109 h.1 (show k < 10 by omega), (h.2.1 k (by omega)).2.2.1]
section V
variable {xs : Nat → Int32} {L : Nat} {e : Nat}
theorem k_22a {n T C : Nat} {D S0 : Sg} {Q : MOut → MHp → Prop} (hn : n < 3) (wp : WP D T C) (K : ∀ (S2 : Sg) (ii : Int), PC D S2 → (∀ u, u < T → RR n u D S2 (begN D) ∧ RQ n u S2 []) → S2 1204 n 0 = cntA D (begN D) T → S2 1205 n 0 = -1 → FC n S0 S2 → m_ok xs L 22 b_22_60 [vR (nt n), vI ii] [] (mk S2 e) Q) : ∀ (z t : Nat) (ii : Int) (S : Sg), t + z = T → ii = t → PC D S → (∀ u, u < 6 → S 1702 u 0 = D 53 0 u) → (∀ u, u < t → RR n u D S (begN D) ∧ RQ n u S []) → S 1204 n 0 = cntA D (begN D) t → S 1205 n 0 = -1 → FC n S0 S → m_ok xs L 22 b_22_12 [vR (nt n), vI ii] [] (mk S e) Q
  | 0, t, ii, S, hz, hii, pc, hp, hr, ha, hv, fc => by
    have ht : t = T := by omega
    subst ht
    subst hii
    have h1403 : S 1403 0 0 = t := by rw [PC_1403 pc]; exact wp.1
    have k := K S t pc hr ha hv fc
    unfold b_22_12
    repeat' first
      | (refine V_icmp_ge.mpr ?_; first | rw [if_pos (by omega)] | rw [if_neg (by omega)] | split)
      | (refine V_if_ne.mpr ?_; first | rw [if_pos (by omega)] | rw [if_neg (by omega)] | split)
      | (simp (disch := (first | omega | (simp (disch := omega) only [up_f, up_s, up_i, up_k, up_e]; omega))) only [up_f, up_s, up_i, up_k, up_e, V_iconst, V_bipush, V_sipush, V_conti, V_contn, V_goto, Option.some.injEq, exists_eq_left', true_and, and_true, m_fit, Option.isSome_some, List.map_nil, List.map_cons, List.sum_nil, List.sum_cons, List.all_nil, List.all_cons, m_cat, decide_true, Bool.and_true, Bool.true_and, Nat.zero_le, Int.toNat_natCast, Int.reduceAdd, Int.reduceSub, Int.reduceMul, Int.reduceNeg, Int.reduceLE, Int.reduceLT, Nat.reduceAdd, Nat.reduceLeDiff, Int.reduceToNat, Int.reduceEq, decide_eq_true_eq, true_or, or_true, exists_and_left, and_self, Nat.reduceMul, Nat.reduceSub, Nat.reduceLT, m_oa, Nat.reduceEqDiff, or_false, false_or, Sum.inl.injEq, Sum.inr.injEq, ↓reduceIte, ne_eq, not_false_eq_true, Int.reduceNe, exists_eq_left, D_22, R_22, X_22, W_22_27, W_22_55, F_22_31, F_22_79, J_22_20, F_22_11, I_22_82, I_22_83, J_22_41, F_22_55, J_22_57, F_22_72, J_22_70, F_22_19, I_22_86, J_22_85, F_22_23, I_22_87, V_aloadn0, G_2_5, P_2_5, G_2_4, P_2_4, V_istoren1, V_iloadn1, G_2_0, G_4_3, G_2_1, A_ntR, T_antR, U_aaload, T_5, V_dup_vI, V_dup_vR, V_iadd, m_add_eq, V_iinc1, G_4_5, G_2_2, A_ntW, T_antW, T_8, G_2_3, A_ntO, T_antO, B_ntO, b_22_0, b_22_54, b_22_62, b_22_88, h1403])
    all_goals exact k
  | z + 1, t, ii, S, hz, hii, pc, hp, hr, ha, hv, fc => by
    subst hii
    have hT : T ≤ 6 := wp.2.2.1
    have ht6 : t < 6 := by omega
    have h1403 : S 1403 0 0 = T := by rw [PC_1403 pc]; exact wp.1
    have h43 := s_43 (xs := xs) (L := L) (S := S) (e := e) hn ht6
    have hb := RR_beg (n := n) wp ht6 pc (hp t ht6)
    have hcn := cntA_ran (D := D) (N := begN D) t
    have g1403 : runB S n t 1403 0 0 = T := by rw [runB_f (by decide)]; exact h1403
    have g1204 : runB S n t 1204 n 0 = cntA D (begN D) t := by rw [runB_f (by decide)]; exact ha
    have e1 : ∀ i, runB S n t 1700 i 0 = S 1700 i 0 := fun i => runB_f (by decide)
    have e2 : runB S n t 1503 (6 * n + t) 0 = 0 := by rw [hb.1.2.1]; simp [begN]
    have pc2 : PC D (runB S n t) := PC_ext pc (fun f i j hf => runB_f (by
      have hne : ∀ a : Nat, cpF a = false → ¬ f = a := fun a ha z => by rw [z, ha] at hf; cases hf
      exact ⟨hne _ rfl, hne _ rfl, hne _ rfl, hne _ rfl, hne _ rfl, hne _ rfl, hne _ rfl, hne _ rfl, hne _ rfl⟩))
    have hr2 : ∀ u, u < t + 1 → RR n u D (runB S n t) (begN D) ∧ RQ n u (runB S n t) [] := fun u hu => by
      by_cases hut : u = t
      · subst hut; exact hb
      · have h9 := hr u (by omega)
        exact ⟨RR_ext h9.1 (fun f k hf => runB_i (by omega)) (fun _ _ _ => rfl), RQ_ext h9.2 (fun f k hf => runB_i (by omega))⟩
    have hp2 : ∀ u, u < 6 → runB S n t 1702 u 0 = D 53 0 u := fun u hu => by rw [runB_f (by decide)]; exact hp u hu
    have hv2 : runB S n t 1205 n 0 = -1 := by rw [runB_f (by decide)]; exact hv
    have fc2 := FC_runB fc ht6
    have ebg : begN D 81 0 t = 0 := by simp [begN]
    have h44 := s_44 (xs := xs) (L := L) (S := runB S n t) (e := e) hn ht6 (by rw [e2]; omega)
    rw [e1, e2, PC_1700 pc ht6] at h44
    by_cases hq : D 54 0 t ≤ 0 + 1
    · simp only [if_pos hq] at h44
      unfold b_22_12
      repeat' first
        | (refine V_icmp_ge.mpr ?_; first | rw [if_pos (by omega)] | rw [if_neg (by omega)] | split)
        | (refine V_if_ne.mpr ?_; first | rw [if_pos (by omega)] | rw [if_neg (by omega)] | split)
        | (simp (disch := (first | omega | (simp (disch := omega) only [up_f, up_s, up_i, up_k, up_e]; omega))) only [up_f, up_s, up_i, up_k, up_e, V_iconst, V_bipush, V_sipush, V_conti, V_contn, V_goto, Option.some.injEq, exists_eq_left', true_and, and_true, m_fit, Option.isSome_some, List.map_nil, List.map_cons, List.sum_nil, List.sum_cons, List.all_nil, List.all_cons, m_cat, decide_true, Bool.and_true, Bool.true_and, Nat.zero_le, Int.toNat_natCast, Int.reduceAdd, Int.reduceSub, Int.reduceMul, Int.reduceNeg, Int.reduceLE, Int.reduceLT, Nat.reduceAdd, Nat.reduceLeDiff, Int.reduceToNat, Int.reduceEq, decide_eq_true_eq, true_or, or_true, exists_and_left, and_self, Nat.reduceMul, Nat.reduceSub, Nat.reduceLT, m_oa, Nat.reduceEqDiff, or_false, false_or, Sum.inl.injEq, Sum.inr.injEq, ↓reduceIte, ne_eq, not_false_eq_true, Int.reduceNe, exists_eq_left, D_22, R_22, X_22, W_22_27, W_22_55, F_22_31, F_22_79, J_22_20, F_22_11, I_22_82, I_22_83, J_22_41, F_22_55, J_22_57, F_22_72, J_22_70, F_22_19, I_22_86, J_22_85, F_22_23, I_22_87, V_aloadn0, G_2_5, P_2_5, G_2_4, P_2_4, V_istoren1, V_iloadn1, G_2_0, G_4_3, G_2_1, A_ntR, T_antR, U_aaload, T_5, V_dup_vI, V_dup_vR, V_iadd, m_add_eq, V_iinc1, G_4_5, G_2_2, A_ntW, T_antW, T_8, G_2_3, A_ntO, T_antO, B_ntO, b_22_0, b_22_54, b_22_62, b_22_88, h1403, h43, g1403, g1204, h44])
      refine k_22a hn wp K z (t + 1) _ _ (by omega) (by omega) pc2 hp2 hr2 ?_ hv2 fc2
      rw [g1204, cntA, if_neg (by rw [ebg]; omega)]; omega
    · simp only [if_neg hq] at h44
      unfold b_22_12
      repeat' first
        | (refine V_icmp_ge.mpr ?_; first | rw [if_pos (by omega)] | rw [if_neg (by omega)] | split)
        | (refine V_if_ne.mpr ?_; first | rw [if_pos (by omega)] | rw [if_neg (by omega)] | split)
        | (simp (disch := (first | omega | (simp (disch := omega) only [up_f, up_s, up_i, up_k, up_e]; omega))) only [up_f, up_s, up_i, up_k, up_e, V_iconst, V_bipush, V_sipush, V_conti, V_contn, V_goto, Option.some.injEq, exists_eq_left', true_and, and_true, m_fit, Option.isSome_some, List.map_nil, List.map_cons, List.sum_nil, List.sum_cons, List.all_nil, List.all_cons, m_cat, decide_true, Bool.and_true, Bool.true_and, Nat.zero_le, Int.toNat_natCast, Int.reduceAdd, Int.reduceSub, Int.reduceMul, Int.reduceNeg, Int.reduceLE, Int.reduceLT, Nat.reduceAdd, Nat.reduceLeDiff, Int.reduceToNat, Int.reduceEq, decide_eq_true_eq, true_or, or_true, exists_and_left, and_self, Nat.reduceMul, Nat.reduceSub, Nat.reduceLT, m_oa, Nat.reduceEqDiff, or_false, false_or, Sum.inl.injEq, Sum.inr.injEq, ↓reduceIte, ne_eq, not_false_eq_true, Int.reduceNe, exists_eq_left, D_22, R_22, X_22, W_22_27, W_22_55, F_22_31, F_22_79, J_22_20, F_22_11, I_22_82, I_22_83, J_22_41, F_22_55, J_22_57, F_22_72, J_22_70, F_22_19, I_22_86, J_22_85, F_22_23, I_22_87, V_aloadn0, G_2_5, P_2_5, G_2_4, P_2_4, V_istoren1, V_iloadn1, G_2_0, G_4_3, G_2_1, A_ntR, T_antR, U_aaload, T_5, V_dup_vI, V_dup_vR, V_iadd, m_add_eq, V_iinc1, G_4_5, G_2_2, A_ntW, T_antW, T_8, G_2_3, A_ntO, T_antO, B_ntO, b_22_0, b_22_54, b_22_62, b_22_88, h1403, h43, g1403, g1204, h44])
      refine k_22a hn wp K z (t + 1) _ _ (by omega) (by omega) (PC_up pc2 rfl) (fun u hu => ?_) (fun u hu => ?_) ?_ ?_ (FC_up fc2 (by unfold fpC; omega))
      · rw [up_f (by decide)]; exact hp2 u hu
      · exact ⟨RR_ext (hr2 u hu).1 (fun f k hf => up_f (by omega)) (fun _ _ _ => rfl), RQ_ext (hr2 u hu).2 (fun f k hf => up_f (by omega))⟩
      · rw [up_s, cntA, if_pos (by rw [ebg]; omega)]
      · rw [up_f (by decide)]; exact hv2
theorem k_22b {n T C : Nat} {D S0 : Sg} {Q : MOut → MHp → Prop} (hn : n < 3) (wp : WP D T C) (K : ∀ (S2 : Sg) (ii : Int), PC D S2 → (∀ u, u < T → RR n u D S2 (begN D) ∧ RQ n u S2 []) → S2 1204 n 0 = cntA D (begN D) T → S2 1205 n 0 = -1 → FC n S0 S2 → RW n C S2 (begN D) → m_ok xs L 22 b_22_88 [vR (nt n), vI ii] [] (mk S2 e) Q) : ∀ (z c : Nat) (ii : Int) (S : Sg), c + z = C → ii = c → PC D S → (∀ u, u < T → RR n u D S (begN D) ∧ RQ n u S []) → S 1204 n 0 = cntA D (begN D) T → S 1205 n 0 = -1 → FC n S0 S → RW n c S (begN D) → m_ok xs L 22 b_22_62 [vR (nt n), vI ii] [] (mk S e) Q
  | 0, c, ii, S, hz, hii, pc, hr, ha, hv, fc, rw0 => by
    have hc : c = C := by omega
    subst hc
    subst hii
    have h1405 : S 1405 0 0 = c := by rw [PC_1405 pc]; exact wp.2.1
    have k := K S c pc hr ha hv fc rw0
    unfold b_22_62
    repeat' first
      | (refine V_icmp_ge.mpr ?_; first | rw [if_pos (by omega)] | rw [if_neg (by omega)] | split)
      | (refine V_if_ne.mpr ?_; first | rw [if_pos (by omega)] | rw [if_neg (by omega)] | split)
      | (simp (disch := (first | omega | (simp (disch := omega) only [up_f, up_s, up_i, up_k, up_e]; omega))) only [up_f, up_s, up_i, up_k, up_e, V_iconst, V_bipush, V_sipush, V_conti, V_contn, V_goto, Option.some.injEq, exists_eq_left', true_and, and_true, m_fit, Option.isSome_some, List.map_nil, List.map_cons, List.sum_nil, List.sum_cons, List.all_nil, List.all_cons, m_cat, decide_true, Bool.and_true, Bool.true_and, Nat.zero_le, Int.toNat_natCast, Int.reduceAdd, Int.reduceSub, Int.reduceMul, Int.reduceNeg, Int.reduceLE, Int.reduceLT, Nat.reduceAdd, Nat.reduceLeDiff, Int.reduceToNat, Int.reduceEq, decide_eq_true_eq, true_or, or_true, exists_and_left, and_self, Nat.reduceMul, Nat.reduceSub, Nat.reduceLT, m_oa, Nat.reduceEqDiff, or_false, false_or, Sum.inl.injEq, Sum.inr.injEq, ↓reduceIte, ne_eq, not_false_eq_true, Int.reduceNe, exists_eq_left, D_22, R_22, X_22, W_22_27, W_22_55, F_22_31, F_22_79, J_22_20, F_22_11, I_22_82, I_22_83, J_22_41, F_22_55, J_22_57, F_22_72, J_22_70, F_22_19, I_22_86, J_22_85, F_22_23, I_22_87, V_aloadn0, G_2_5, P_2_5, G_2_4, P_2_4, V_istoren1, V_iloadn1, G_2_0, G_4_3, G_2_1, A_ntR, T_antR, U_aaload, T_5, V_dup_vI, V_dup_vR, V_iadd, m_add_eq, V_iinc1, G_4_5, G_2_2, A_ntW, T_antW, T_8, G_2_3, A_ntO, T_antO, B_ntO, b_22_0, b_22_12, b_22_54, b_22_60, h1405])
    all_goals exact k
  | z + 1, c, ii, S, hz, hii, pc, hr, ha, hv, fc, rw0 => by
    subst hii
    have hC : C ≤ 10 := wp.2.2.2.1
    have hc10 : c < 10 := by omega
    have h1405 : S 1405 0 0 = C := by rw [PC_1405 pc]; exact wp.2.1
    have e61 := wp.2.2.2.2.2.2.1 c hc10
    unfold b_22_62
    repeat' first
      | (refine V_icmp_ge.mpr ?_; first | rw [if_pos (by omega)] | rw [if_neg (by omega)] | split)
      | (refine V_if_ne.mpr ?_; first | rw [if_pos (by omega)] | rw [if_neg (by omega)] | split)
      | (simp (disch := (first | omega | (simp (disch := omega) only [up_f, up_s, up_i, up_k, up_e]; omega))) only [up_f, up_s, up_i, up_k, up_e, V_iconst, V_bipush, V_sipush, V_conti, V_contn, V_goto, Option.some.injEq, exists_eq_left', true_and, and_true, m_fit, Option.isSome_some, List.map_nil, List.map_cons, List.sum_nil, List.sum_cons, List.all_nil, List.all_cons, m_cat, decide_true, Bool.and_true, Bool.true_and, Nat.zero_le, Int.toNat_natCast, Int.reduceAdd, Int.reduceSub, Int.reduceMul, Int.reduceNeg, Int.reduceLE, Int.reduceLT, Nat.reduceAdd, Nat.reduceLeDiff, Int.reduceToNat, Int.reduceEq, decide_eq_true_eq, true_or, or_true, exists_and_left, and_self, Nat.reduceMul, Nat.reduceSub, Nat.reduceLT, m_oa, Nat.reduceEqDiff, or_false, false_or, Sum.inl.injEq, Sum.inr.injEq, ↓reduceIte, ne_eq, not_false_eq_true, Int.reduceNe, exists_eq_left, D_22, R_22, X_22, W_22_27, W_22_55, F_22_31, F_22_79, J_22_20, F_22_11, I_22_82, I_22_83, J_22_41, F_22_55, J_22_57, F_22_72, J_22_70, F_22_19, I_22_86, J_22_85, F_22_23, I_22_87, V_aloadn0, G_2_5, P_2_5, G_2_4, P_2_4, V_istoren1, V_iloadn1, G_2_0, G_4_3, G_2_1, A_ntR, T_antR, U_aaload, T_5, V_dup_vI, V_dup_vR, V_iadd, m_add_eq, V_iinc1, G_4_5, G_2_2, A_ntW, T_antW, T_8, G_2_3, A_ntO, T_antO, B_ntO, b_22_0, b_22_12, b_22_54, b_22_60, h1405, s_56])
    refine k_22b hn wp K z (c + 1) _ _ (by omega) (by omega) (PC_up (PC_up (PC_up (PC_up pc rfl) rfl) rfl) rfl) (fun u hu => ⟨RR_ext (hr u hu).1 (fun f k hf => by simp (disch := omega) only [up_f]) (fun _ _ _ => rfl), RQ_ext (hr u hu).2 (fun f k hf => by simp (disch := omega) only [up_f])⟩) ?_ ?_ (FC_up (FC_up (FC_up (FC_up fc (by unfold fpC; omega)) (by unfold fpC; omega)) (by unfold fpC; omega)) (by unfold fpC; omega)) (fun d hd => ?_)
    · simp (disch := omega) only [up_f]; exact ha
    · simp (disch := omega) only [up_f]; exact hv
    · by_cases hdc : d = c
      · subst hdc
        simp (disch := omega) only [up_f, up_s]
        rw [PC_1101 pc hc10]
        simp [begN, rdc]
        omega
      · simp (disch := omega) only [up_f, up_i]
        exact rw0 d (by omega)
theorem r_22 {n T C : Nat} {D S : Sg} (hn : n < 3) (wp : WP D T C) (pc : PC D S) (hp : ∀ u, u < 6 → S 1702 u 0 = D 53 0 u) :
    ∃ S2, (CR n T C D S S2 (begA D) ∧ S2 1205 n 0 = -1) ∧ ∀ Q, m_do xs L 22 [vR (nt n)] (mk S e) Q ↔ Q (.inl none) (mk S2 e) := by
  refine m_do_ex ?_
  repeat' first
    | (refine V_icmp_ge.mpr ?_; first | rw [if_pos (by omega)] | rw [if_neg (by omega)] | split)
    | (refine V_if_ne.mpr ?_; first | rw [if_pos (by omega)] | rw [if_neg (by omega)] | split)
    | (simp (disch := (first | omega | (simp (disch := omega) only [up_f, up_s, up_i, up_k, up_e]; omega))) only [up_f, up_s, up_i, up_k, up_e, V_iconst, V_bipush, V_sipush, V_conti, V_contn, V_goto, Option.some.injEq, exists_eq_left', true_and, and_true, m_fit, Option.isSome_some, List.map_nil, List.map_cons, List.sum_nil, List.sum_cons, List.all_nil, List.all_cons, m_cat, decide_true, Bool.and_true, Bool.true_and, Nat.zero_le, Int.toNat_natCast, Int.reduceAdd, Int.reduceSub, Int.reduceMul, Int.reduceNeg, Int.reduceLE, Int.reduceLT, Nat.reduceAdd, Nat.reduceLeDiff, Int.reduceToNat, Int.reduceEq, decide_eq_true_eq, true_or, or_true, exists_and_left, and_self, Nat.reduceMul, Nat.reduceSub, Nat.reduceLT, m_oa, Nat.reduceEqDiff, or_false, false_or, Sum.inl.injEq, Sum.inr.injEq, ↓reduceIte, ne_eq, not_false_eq_true, Int.reduceNe, exists_eq_left, D_22, R_22, X_22, W_22_27, W_22_55, F_22_31, F_22_79, J_22_20, F_22_11, I_22_82, I_22_83, J_22_41, F_22_55, J_22_57, F_22_72, J_22_70, F_22_19, I_22_86, J_22_85, F_22_23, I_22_87, V_aloadn0, G_2_5, P_2_5, G_2_4, P_2_4, V_istoren1, V_iloadn1, G_2_0, G_4_3, G_2_1, A_ntR, T_antR, U_aaload, T_5, V_dup_vI, V_dup_vR, V_iadd, m_add_eq, V_iinc1, G_4_5, G_2_2, A_ntW, T_antW, T_8, G_2_3, A_ntO, T_antO, B_ntO, b_22_0, b_22_54, b_22_62, b_22_88])
  refine k_22a (S0 := S) hn wp (fun S2 ii a1 a2 a3 a4 a5 => ?_) T 0 _ _ (by omega) rfl (PC_up (PC_up pc rfl) rfl) (fun u hu => ?_) (fun u hu => by omega) ?_ ?_ (FC_up (FC_up FC_refl (by unfold fpC; omega)) (by unfold fpC; omega))
  · unfold b_22_60
    repeat' first
      | (refine V_icmp_ge.mpr ?_; first | rw [if_pos (by omega)] | rw [if_neg (by omega)] | split)
      | (refine V_if_ne.mpr ?_; first | rw [if_pos (by omega)] | rw [if_neg (by omega)] | split)
      | (simp (disch := (first | omega | (simp (disch := omega) only [up_f, up_s, up_i, up_k, up_e]; omega))) only [up_f, up_s, up_i, up_k, up_e, V_iconst, V_bipush, V_sipush, V_conti, V_contn, V_goto, Option.some.injEq, exists_eq_left', true_and, and_true, m_fit, Option.isSome_some, List.map_nil, List.map_cons, List.sum_nil, List.sum_cons, List.all_nil, List.all_cons, m_cat, decide_true, Bool.and_true, Bool.true_and, Nat.zero_le, Int.toNat_natCast, Int.reduceAdd, Int.reduceSub, Int.reduceMul, Int.reduceNeg, Int.reduceLE, Int.reduceLT, Nat.reduceAdd, Nat.reduceLeDiff, Int.reduceToNat, Int.reduceEq, decide_eq_true_eq, true_or, or_true, exists_and_left, and_self, Nat.reduceMul, Nat.reduceSub, Nat.reduceLT, m_oa, Nat.reduceEqDiff, or_false, false_or, Sum.inl.injEq, Sum.inr.injEq, ↓reduceIte, ne_eq, not_false_eq_true, Int.reduceNe, exists_eq_left, D_22, R_22, X_22, W_22_27, W_22_55, F_22_31, F_22_79, J_22_20, F_22_11, I_22_82, I_22_83, J_22_41, F_22_55, J_22_57, F_22_72, J_22_70, F_22_19, I_22_86, J_22_85, F_22_23, I_22_87, V_aloadn0, G_2_5, P_2_5, G_2_4, P_2_4, V_istoren1, V_iloadn1, G_2_0, G_4_3, G_2_1, A_ntR, T_antR, U_aaload, T_5, V_dup_vI, V_dup_vR, V_iadd, m_add_eq, V_iinc1, G_4_5, G_2_2, A_ntW, T_antW, T_8, G_2_3, A_ntO, T_antO, B_ntO, b_22_0, b_22_12, b_22_54, b_22_60])
    refine k_22b (S0 := S) hn wp (fun S3 ii b1 b2 b3 b4 b5 b6 => ?_) C 0 _ S2 (by omega) rfl a1 a2 a3 a4 a5 (fun c hc => by omega)
    unfold b_22_88
    repeat' first
      | (refine V_icmp_ge.mpr ?_; first | rw [if_pos (by omega)] | rw [if_neg (by omega)] | split)
      | (refine V_if_ne.mpr ?_; first | rw [if_pos (by omega)] | rw [if_neg (by omega)] | split)
      | (simp (disch := (first | omega | (simp (disch := omega) only [up_f, up_s, up_i, up_k, up_e]; omega))) only [up_f, up_s, up_i, up_k, up_e, V_iconst, V_bipush, V_sipush, V_conti, V_contn, V_goto, Option.some.injEq, exists_eq_left', true_and, and_true, m_fit, Option.isSome_some, List.map_nil, List.map_cons, List.sum_nil, List.sum_cons, List.all_nil, List.all_cons, m_cat, decide_true, Bool.and_true, Bool.true_and, Nat.zero_le, Int.toNat_natCast, Int.reduceAdd, Int.reduceSub, Int.reduceMul, Int.reduceNeg, Int.reduceLE, Int.reduceLT, Nat.reduceAdd, Nat.reduceLeDiff, Int.reduceToNat, Int.reduceEq, decide_eq_true_eq, true_or, or_true, exists_and_left, and_self, Nat.reduceMul, Nat.reduceSub, Nat.reduceLT, m_oa, Nat.reduceEqDiff, or_false, false_or, Sum.inl.injEq, Sum.inr.injEq, ↓reduceIte, ne_eq, not_false_eq_true, Int.reduceNe, exists_eq_left, D_22, R_22, X_22, W_22_27, W_22_55, F_22_31, F_22_79, J_22_20, F_22_11, I_22_82, I_22_83, J_22_41, F_22_55, J_22_57, F_22_72, J_22_70, F_22_19, I_22_86, J_22_85, F_22_23, I_22_87, V_aloadn0, G_2_5, P_2_5, G_2_4, P_2_4, V_istoren1, V_iloadn1, G_2_0, G_4_3, G_2_1, A_ntR, T_antR, U_aaload, T_5, V_dup_vI, V_dup_vR, V_iadd, m_add_eq, V_iinc1, G_4_5, G_2_2, A_ntW, T_antW, T_8, G_2_3, A_ntO, T_antO, B_ntO, b_22_0, b_22_12, b_22_54, b_22_60, b_22_88, f_owed (i := 0) hn])
    refine ⟨_, rfl, ⟨PC_ext b1 (fun f i j hf => fillS_f (fun z => by rw [z] at hf; cases hf)), RW_S b6 (fun f i hf => fillS_f (by omega)), fun u hu => RR_ext (b2 u hu).1 (fun f k hf => fillS_f (by omega)) (fun _ _ _ => rfl), fun u hu => RQ_ext (b2 u hu).2 (fun f k hf => fillS_f (by omega)), fun k hk => ?_, fun f i k hf => ?_, ?_⟩, ?_⟩
    · rw [fillS_v hk]; simp [begA, begN]
    · by_cases hf2 : f = 30
      · subst hf2
        rw [fillS_i (fun z => hf (by unfold fpC; omega))]
        exact b5 _ _ _ hf
      · rw [fillS_f hf2]; exact b5 _ _ _ hf
    · rw [fillS_f (by decide)]; exact b3
    · rw [fillS_f (by decide)]; exact b4
  · simp (disch := omega) only [up_f]; exact hp u hu
  · simp (disch := omega) only [up_f, up_s]; rfl
  · simp (disch := omega) only [up_f, up_s]
end V
