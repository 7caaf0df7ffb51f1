/-! ===== the model's night beside D and N ===== -/
def lim (f : Nat) : Nat := if f = 79 ∨ f = 80 ∨ f = 93 then 36 else if f = 81 ∨ f = 82 then 6 else if f = 87 then 360 else if 88 ≤ f ∧ f ≤ 91 then 10 else 0
def RM (S N : Sg) : Prop := (∀ f k, k < lim f → S f 0 k = N f 0 k) ∧ ∀ k, k < 36 → ¬ N 80 0 k = -1 → S 85 0 k = N 85 0 k ∧ S 86 0 k = N 86 0 k
def PM (D S : Sg) : Prop := (∀ f k, plF f = true → S f 0 k = D f 0 k) ∧ ∀ k, k < 36 → usd D k → S 50 0 (D 55 0 k).toNat = D 50 0 k ∧ S 51 0 (D 55 0 k).toNat = D 51 0 k
def MU (t : Nat) (S : Sg) (x : List Nat) : Prop := x.length ≤ 10 ∧ S 84 0 t = x.length ∧ LA (fun j => S 83 0 (10 * t + j)) x
def FM (S0 S : Sg) : Prop := ∀ f i k, (f < 79 ∨ 93 < f) → S f i k = S0 f i k
/-- all of the model's night but the coaches with the train t -/
def MI (T : Nat) (D S0 S N : Sg) (l : Ls) (t : Nat) : Prop := PM D S ∧ RM S N ∧ (∀ u, u < T → ¬ u = t → MU u S (l u)) ∧ FM S0 S
theorem PM_ext {D S S2 : Sg} (h : PM D S) (k : ∀ f i j, f < 79 ∨ 93 < f → S2 f i j = S f i j) : PM D S2 := by
  refine ⟨fun f j hf => ?_, fun j hj hu => ?_⟩
  · rw [k f 0 j (by
      unfold plF at hf
      simp only [Bool.or_eq_true, Bool.and_eq_true, Nat.ble_eq, Nat.beq_eq] at hf
      omega)]
    exact h.1 f j hf
  · rw [k 50 _ _ (by omega), k 51 _ _ (by omega)]
    exact h.2 j hj hu
theorem PM_up {D S : Sg} {F I K : Nat} {a : Int} (h : PM D S) (hF : 79 ≤ F ∧ F ≤ 93) : PM D (up S F I K a) := PM_ext h (fun f i j hf => up_f (by omega))
theorem FM_up {S0 S : Sg} {F I K : Nat} {a : Int} (h : FM S0 S) (hF : 79 ≤ F ∧ F ≤ 93) : FM S0 (up S F I K a) := fun f i j hf => by rw [up_f (by omega)]; exact h f i j hf
theorem FM_trans {S0 S1 S2 : Sg} (h : FM S0 S1) (k : FM S1 S2) : FM S0 S2 := fun f i j hf => (k f i j hf).trans (h f i j hf)
theorem RM_up {S N : Sg} {F K : Nat} {a : Int} (h : RM S N) (hF : ¬ F = 80 ∧ ¬ F = 85 ∧ ¬ F = 86) : RM (up S F 0 K a) (up N F 0 K a) := by
  refine ⟨fun f k hk => ?_, fun k hk hn => ?_⟩
  · simp only [up]
    split
    · rfl
    · exact h.1 f k hk
  · rw [up_f (by omega)] at hn
    rw [up_f (by omega), up_f (by omega), up_f (by omega), up_f (by omega)]
    exact h.2 k hk hn
theorem RM_no {S N : Sg} {F I K : Nat} {a : Int} (h : RM S N) (hF : lim F = 0 ∧ ¬ F = 85 ∧ ¬ F = 86) : RM (up S F I K a) N := by
  refine ⟨fun f k hk => ?_, fun k hk hn => ?_⟩
  · rw [up_f (fun z => by rw [z, hF.1] at hk; omega)]
    exact h.1 f k hk
  · rw [up_f (by omega), up_f (by omega)]
    exact h.2 k hk hn
/-- a train leaves -/
theorem RM_dep {S N : Sg} {K : Nat} {a b c : Int} (h : RM S N) : RM (up (up (up S 80 0 K a) 86 0 K b) 85 0 K c) (up (up (up N 80 0 K a) 86 0 K b) 85 0 K c) := by
  refine ⟨fun f k hk => ?_, fun k hk hn => ?_⟩
  · simp only [up]
    split
    · rfl
    · split
      · rfl
      · split
        · rfl
        · exact h.1 f k hk
  · by_cases hkK : k = K
    · subst hkK
      simp (disch := omega) only [up_f, up_s]
      exact ⟨trivial, trivial⟩
    · simp (disch := omega) only [up_f, up_k] at hn ⊢
      exact h.2 k hk hn
theorem MU_ext {t : Nat} {S S2 : Sg} {x : List Nat} (h : MU t S x) (k1 : S2 84 0 t = S 84 0 t) (k2 : ∀ j, j < 10 → S2 83 0 (10 * t + j) = S 83 0 (10 * t + j)) : MU t S2 x :=
  ⟨h.1, k1.trans h.2.1, LA_ext (fun j hj => k2 j (by have := h.1; omega)) h.2.2⟩
theorem MI_up {T t F K : Nat} {D S0 S N : Sg} {l : Ls} {a : Int} (h : MI T D S0 S N l t) (hF : 79 ≤ F ∧ F ≤ 93 ∧ ¬ F = 83 ∧ ¬ F = 84 ∧ ¬ F = 80 ∧ ¬ F = 85 ∧ ¬ F = 86) : MI T D S0 (up S F 0 K a) (up N F 0 K a) l t :=
  ⟨PM_up h.1 (by omega), RM_up h.2.1 (by omega), fun u hu hut => MU_ext (h.2.2.1 u hu hut) (up_f (by omega)) (fun j _ => up_f (by omega)), FM_up h.2.2.2 (by omega)⟩
theorem MI_no {T t F K : Nat} {D S0 S N : Sg} {l : Ls} {a : Int} (h : MI T D S0 S N l t) (hF : F = 92 ∨ F = 84 ∧ K = t ∨ F = 83 ∧ 10 * t ≤ K ∧ K < 10 * t + 10) : MI T D S0 (up S F 0 K a) N l t := by
  refine ⟨PM_up h.1 (by omega), RM_no h.2.1 ?_, fun u hu hut => MU_ext (h.2.2.1 u hu hut) ?_ (fun j _ => ?_), FM_up h.2.2.2 (by omega)⟩
  · rcases hF with rfl | ⟨rfl, _⟩ | ⟨rfl, _⟩ <;> exact ⟨rfl, by decide, by decide⟩
  · simp only [up]
    rw [if_neg (by omega)]
  · simp only [up]
    rw [if_neg (by omega)]
theorem MI_dep {T t K : Nat} {D S0 S N : Sg} {l : Ls} {a b c : Int} (h : MI T D S0 S N l t) : MI T D S0 (up (up (up S 80 0 K a) 86 0 K b) 85 0 K c) (up (up (up N 80 0 K a) 86 0 K b) 85 0 K c) l t :=
  ⟨PM_up (PM_up (PM_up h.1 (by omega)) (by omega)) (by omega), RM_dep h.2.1, fun u hu hut => MU_ext (h.2.2.1 u hu hut) (by simp (disch := omega) only [up_f]) (fun j _ => by simp (disch := omega) only [up_f]), FM_up (FM_up (FM_up h.2.2.2 (by omega)) (by omega)) (by omega)⟩
theorem MI_out {T t c : Nat} {D S0 S N : Sg} {l : Ls} {a m : Int} (h : MI T D S0 S N l t) : MI T D S0 (up (up S 88 0 c a) 89 0 c (m + 10)) (oOut N c a m) l t := MI_up (MI_up h (by omega)) (by omega)
theorem R79 {S N : Sg} {k : Nat} (h : RM S N) (hk : k < 36) : S 79 0 k = N 79 0 k := h.1 79 k hk
theorem R80 {S N : Sg} {k : Nat} (h : RM S N) (hk : k < 36) : S 80 0 k = N 80 0 k := h.1 80 k hk
theorem R81 {S N : Sg} {k : Nat} (h : RM S N) (hk : k < 6) : S 81 0 k = N 81 0 k := h.1 81 k hk
theorem R82 {S N : Sg} {k : Nat} (h : RM S N) (hk : k < 6) : S 82 0 k = N 82 0 k := h.1 82 k hk
theorem R87 {S N : Sg} {k : Nat} (h : RM S N) (hk : k < 360) : S 87 0 k = N 87 0 k := h.1 87 k hk
theorem R88 {S N : Sg} {k : Nat} (h : RM S N) (hk : k < 10) : S 88 0 k = N 88 0 k := h.1 88 k hk
theorem R89 {S N : Sg} {k : Nat} (h : RM S N) (hk : k < 10) : S 89 0 k = N 89 0 k := h.1 89 k hk
theorem R90 {S N : Sg} {k : Nat} (h : RM S N) (hk : k < 10) : S 90 0 k = N 90 0 k := h.1 90 k hk
theorem R91 {S N : Sg} {k : Nat} (h : RM S N) (hk : k < 10) : S 91 0 k = N 91 0 k := h.1 91 k hk
theorem R93 {S N : Sg} {k : Nat} (h : RM S N) (hk : k < 36) : S 93 0 k = N 93 0 k := h.1 93 k hk
section V
variable {xs : Nat → Int32} {L : Nat} {e : Nat}
theorem k_116 {t : Nat} {S1 : Sg} {x : List Nat} {pl a m c : Int} {Q : MOut → MHp → Prop} (ht : t < 6) (hx : x.length < 10) (K : ∀ (S2 : Sg) (ii : Int), (∀ f i j, ¬ (f = 83 ∧ i = 0 ∧ 10 * t ≤ j ∧ j < 10 * t + 10) → S2 f i j = S1 f i j) → LA (fun j => S2 83 0 (10 * t + j)) x → m_ok xs L 116 b_116_69 [vR 296, vI t, vI pl, vI a, vI m, vI c, vI ii] [] (mk S2 e) Q) : ∀ (z i : Nat) (ii : Int) (S : Sg), i + z = x.length → ii = i → S 84 0 t = x.length → (∀ f i j, ¬ (f = 83 ∧ i = 0 ∧ 10 * t ≤ j ∧ j < 10 * t + 10) → S f i j = S1 f i j) → (∀ (j d : Nat), x[j]? = some d → (j < i → S 83 0 (10 * t + j) = d) ∧ (i ≤ j → S 83 0 (10 * t + j + 1) = d)) → m_ok xs L 116 b_116_26 [vR 296, vI t, vI pl, vI a, vI m, vI c, vI ii] [] (mk S e) Q
  | 0, i, ii, S, hz, hii, h84, hf, hl => by
    have hi : i = x.length := by omega
    subst hi
    subst hii
    have k := fun ii => K S ii hf (fun j d hd => (hl j d hd).1 (List.getElem?_eq_some_iff.mp hd).1)
    unfold b_116_26
    repeat' first
      | (refine V_icmp_ge.mpr ?_; first | rw [if_pos (by omega)] | rw [if_neg (by omega)] | split)
      | (simp (disch := (first | omega | (simp (disch := omega) only [up_f, up_s, up_i, up_k, up_e]; omega))) only [up_f, up_s, up_i, up_k, up_e, V_iconst, V_bipush, V_sipush, V_conti, V_contn, V_goto, Option.some.injEq, exists_eq_left', true_and, and_true, m_fit, Option.isSome_some, List.map_nil, List.map_cons, List.sum_nil, List.sum_cons, List.all_nil, List.all_cons, m_cat, decide_true, Bool.and_true, Bool.true_and, Nat.zero_le, Int.toNat_natCast, Int.reduceAdd, Int.reduceSub, Int.reduceMul, Int.reduceNeg, Int.reduceLE, Int.reduceLT, Nat.reduceAdd, Nat.reduceLeDiff, Int.reduceToNat, Int.reduceEq, decide_eq_true_eq, true_or, or_true, exists_and_left, and_self, Nat.reduceMul, Nat.reduceSub, Nat.reduceLT, m_oa, Nat.reduceEqDiff, or_false, false_or, Sum.inl.injEq, Sum.inr.injEq, ↓reduceIte, ne_eq, not_false_eq_true, Int.reduceNe, exists_eq_left, D_116, R_116, X_116, F_116_110, F_116_113, J_116_34, J_116_66, F_116_125, F_116_128, V_aloadn0, G_10_39, A_330, T_a330, B_330, V_iloadn1, V_imul, m_mul_eq, V_iloadn2, V_iadd, m_add_eq, U_iaload, V_istore5, G_10_40, A_331, T_a331, B_331, V_dup2, V_isub, m_sub_eq, U_iastore, V_istore6, V_iload6, V_iinc6, G_10_44, A_335, T_a335, B_335, V_iload5, V_iloadn3, G_10_45, A_336, T_a336, B_336, V_iload4, b_116_0, h84])
    all_goals exact k _
  | z + 1, i, ii, S, hz, hii, h84, hf, hl => by
    subst hii
    have hi : i < x.length := by omega
    have hx1 : (10 * (t : Int) + (i : Int)).toNat = 10 * t + i := by omega
    have hx2 : (10 * (t : Int) + (i : Int) + 1).toNat = 10 * t + i + 1 := by omega
    unfold b_116_26
    repeat' first
      | (refine V_icmp_ge.mpr ?_; first | rw [if_pos (by omega)] | rw [if_neg (by omega)] | split)
      | (simp (disch := (first | omega | (simp (disch := omega) only [up_f, up_s, up_i, up_k, up_e]; omega))) only [up_f, up_s, up_i, up_k, up_e, V_iconst, V_bipush, V_sipush, V_conti, V_contn, V_goto, Option.some.injEq, exists_eq_left', true_and, and_true, m_fit, Option.isSome_some, List.map_nil, List.map_cons, List.sum_nil, List.sum_cons, List.all_nil, List.all_cons, m_cat, decide_true, Bool.and_true, Bool.true_and, Nat.zero_le, Int.toNat_natCast, Int.reduceAdd, Int.reduceSub, Int.reduceMul, Int.reduceNeg, Int.reduceLE, Int.reduceLT, Nat.reduceAdd, Nat.reduceLeDiff, Int.reduceToNat, Int.reduceEq, decide_eq_true_eq, true_or, or_true, exists_and_left, and_self, Nat.reduceMul, Nat.reduceSub, Nat.reduceLT, m_oa, Nat.reduceEqDiff, or_false, false_or, Sum.inl.injEq, Sum.inr.injEq, ↓reduceIte, ne_eq, not_false_eq_true, Int.reduceNe, exists_eq_left, D_116, R_116, X_116, F_116_110, F_116_113, J_116_34, J_116_66, F_116_125, F_116_128, V_aloadn0, G_10_39, A_330, T_a330, B_330, V_iloadn1, V_imul, m_mul_eq, V_iloadn2, V_iadd, m_add_eq, U_iaload, V_istore5, G_10_40, A_331, T_a331, B_331, V_dup2, V_isub, m_sub_eq, U_iastore, V_istore6, V_iload6, V_iinc6, G_10_44, A_335, T_a335, B_335, V_iload5, V_iloadn3, G_10_45, A_336, T_a336, B_336, V_iload4, b_116_0, h84, hx1, hx2])
    refine k_116 ht hx K z (i + 1) _ _ (by omega) (by omega) ?_ (fun f a j hn => ?_) (fun j d hd => ?_)
    · rw [up_f (by decide)]; exact h84
    · simp only [up]
      rw [if_neg (fun z => hn ⟨z.1, z.2.1, by omega, by omega⟩)]
      exact hf f a j hn
    · have h9 := hl j d hd
      refine ⟨fun hj => ?_, fun hj => ?_⟩
      · by_cases hji : j = i
        · subst hji
          rw [up_s]
          exact h9.2 (by omega)
        · rw [up_k (by omega)]
          exact h9.1 (by omega)
      · rw [up_k (by omega)]
        exact h9.2 (by omega)
theorem r_116 {t c T : Nat} {D S0 S N : Sg} {l : Ls} {p r : List Nat} {a m : Int} (ht : t < 6) (hc : c < 10) (hm : 0 ≤ m ∧ m < 2000) (mi : MI T D S0 S N l t) (mq : MU t S (p ++ c :: r)) :
    ∃ S2, (MI T D S0 S2 (oOut N c a m) l t ∧ MU t S2 (p ++ r) ∧ ∀ k, S2 92 0 k = S 92 0 k) ∧ ∀ Q, m_do xs L 116 [vR 296, vI t, vI p.length, vI a, vI m] (mk S e) Q ↔ Q (.inl none) (mk S2 e) := by
  have hlen := mq.1
  rw [List.length_append, List.length_cons] at hlen
  have h84 := mq.2.1
  rw [List.length_append, List.length_cons] at h84
  have hcon : S 83 0 (10 * t + p.length) = c := mq.2.2 p.length c (by rw [List.getElem?_append_right (by omega), Nat.sub_self]; rfl)
  have hx1 : (10 * (t : Int) + (p.length : Int)).toNat = 10 * t + p.length := by omega
  have hxr : (p ++ r).length = p.length + r.length := List.length_append
  have hpl : p.length < 10 := by omega
  refine m_do_ex ?_
  repeat' first
    | (refine V_icmp_ge.mpr ?_; first | rw [if_pos (by omega)] | rw [if_neg (by omega)] | split)
    | (simp (disch := (first | omega | (simp (disch := omega) only [up_f, up_s, up_i, up_k, up_e]; omega))) only [up_f, up_s, up_i, up_k, up_e, V_iconst, V_bipush, V_sipush, V_conti, V_contn, V_goto, Option.some.injEq, exists_eq_left', true_and, and_true, m_fit, Option.isSome_some, List.map_nil, List.map_cons, List.sum_nil, List.sum_cons, List.all_nil, List.all_cons, m_cat, decide_true, Bool.and_true, Bool.true_and, Nat.zero_le, Int.toNat_natCast, Int.reduceAdd, Int.reduceSub, Int.reduceMul, Int.reduceNeg, Int.reduceLE, Int.reduceLT, Nat.reduceAdd, Nat.reduceLeDiff, Int.reduceToNat, Int.reduceEq, decide_eq_true_eq, true_or, or_true, exists_and_left, and_self, Nat.reduceMul, Nat.reduceSub, Nat.reduceLT, m_oa, Nat.reduceEqDiff, or_false, false_or, Sum.inl.injEq, Sum.inr.injEq, ↓reduceIte, ne_eq, not_false_eq_true, Int.reduceNe, exists_eq_left, D_116, R_116, X_116, F_116_110, F_116_113, J_116_34, J_116_66, F_116_125, F_116_128, V_aloadn0, G_10_39, A_330, T_a330, B_330, V_iloadn1, V_imul, m_mul_eq, V_iloadn2, V_iadd, m_add_eq, U_iaload, V_istore5, G_10_40, A_331, T_a331, B_331, V_dup2, V_isub, m_sub_eq, U_iastore, V_istore6, V_iload6, V_iinc6, G_10_44, A_335, T_a335, B_335, V_iload5, V_iloadn3, G_10_45, A_336, T_a336, B_336, V_iload4, b_116_0, hcon, hx1, h84])
  refine k_116 (S1 := up S 84 0 t (p.length + r.length)) (x := p ++ r) ht (by omega) (fun S2 ii hf hl => ?_) r.length p.length p.length _ (by omega) rfl ?_ (fun f i j hn => ?_) (fun j d hd => ⟨fun hj => ?_, fun hj => ?_⟩)
  · unfold b_116_69
    repeat' first
      | (refine V_icmp_ge.mpr ?_; first | rw [if_pos (by omega)] | rw [if_neg (by omega)] | split)
      | (simp (disch := (first | omega | (simp (disch := omega) only [up_f, up_s, up_i, up_k, up_e]; omega))) only [up_f, up_s, up_i, up_k, up_e, V_iconst, V_bipush, V_sipush, V_conti, V_contn, V_goto, Option.some.injEq, exists_eq_left', true_and, and_true, m_fit, Option.isSome_some, List.map_nil, List.map_cons, List.sum_nil, List.sum_cons, List.all_nil, List.all_cons, m_cat, decide_true, Bool.and_true, Bool.true_and, Nat.zero_le, Int.toNat_natCast, Int.reduceAdd, Int.reduceSub, Int.reduceMul, Int.reduceNeg, Int.reduceLE, Int.reduceLT, Nat.reduceAdd, Nat.reduceLeDiff, Int.reduceToNat, Int.reduceEq, decide_eq_true_eq, true_or, or_true, exists_and_left, and_self, Nat.reduceMul, Nat.reduceSub, Nat.reduceLT, m_oa, Nat.reduceEqDiff, or_false, false_or, Sum.inl.injEq, Sum.inr.injEq, ↓reduceIte, ne_eq, not_false_eq_true, Int.reduceNe, exists_eq_left, D_116, R_116, X_116, F_116_110, F_116_113, J_116_34, J_116_66, F_116_125, F_116_128, V_aloadn0, G_10_39, A_330, T_a330, B_330, V_iloadn1, V_imul, m_mul_eq, V_iloadn2, V_iadd, m_add_eq, U_iaload, V_istore5, G_10_40, A_331, T_a331, B_331, V_dup2, V_isub, m_sub_eq, U_iastore, V_istore6, V_iload6, V_iinc6, G_10_44, A_335, T_a335, B_335, V_iload5, V_iloadn3, G_10_45, A_336, T_a336, B_336, V_iload4, b_116_0, b_116_69])
    refine ⟨_, rfl, MI_out ?_, ⟨by omega, ?_, LA_ext (fun j _ => by simp (disch := omega) only [up_f]) hl⟩, fun k => ?_⟩
    · have mi1 : MI T D S0 (up S 84 0 t (p.length + r.length)) N l t := MI_no mi (Or.inr (Or.inl ⟨rfl, rfl⟩))
      refine ⟨PM_ext mi1.1 (fun f i j h => hf f i j (by omega)), ⟨fun f k hk => ?_, fun k hk hn => by rw [hf _ _ _ (by omega), hf _ _ _ (by omega)]; exact mi1.2.1.2 k hk hn⟩, fun u hu hut => MU_ext (mi1.2.2.1 u hu hut) (hf _ _ _ (by omega)) (fun j hj => hf _ _ _ (by omega)), fun f i j h => ?_⟩
      · have h83 : ¬ f = 83 := fun z => by rw [z, show lim 83 = 0 from rfl] at hk; omega
        rw [hf _ _ _ (fun z => h83 z.1)]
        exact mi1.2.1.1 f k hk
      · rw [hf f i j (by omega)]
        exact mi1.2.2.2 f i j h
    · simp (disch := omega) only [up_f]
      rw [hf _ _ _ (by omega), up_s, hxr]
      omega
    · simp (disch := omega) only [up_f]
      rw [hf _ _ _ (by omega), up_f (by decide)]
  · rw [hxr]
    simp (disch := omega) only [up_s]
    omega
  · simp only [up]
    split
    · omega
    · rfl
  · rw [up_f (by decide)]
    exact mq.2.2 j d (by rw [List.getElem?_append_left hj] at hd ⊢; exact hd)
  · rw [up_f (by decide)]
    refine mq.2.2 (j + 1) d ?_
    rw [List.getElem?_append_right hj] at hd
    rw [List.getElem?_append_right (by omega), show j + 1 - p.length = (j - p.length) + 1 by omega]
    exact hd
theorem k_117 {t T C k : Nat} {D S0 : Sg} {l : Ls} {m lv : Int} {last : Bool} {Q : MOut → MHp → Prop} (wp : WP D T C) (ht : t < T) (hm : 0 ≤ m ∧ m < 2000) (hk : k < 6) (hlv : lv = if last = true then 1 else 0) : ∀ (r p : List Nat) (N S : Sg) (pl : Int) (v w : MV), pl = p.length → MI T D S0 S N l t → V D N (setL l t (p ++ r)) T C → MU t S (p ++ r) →
    (∀ (S2 : Sg), MI T D S0 S2 (arL D (D 55 0 (6 * t + k)) m last r N).1 l t → MU t S2 (p ++ (arL D (D 55 0 (6 * t + k)) m last r N).2) → Q (.inl none) (mk S2 e)) → m_ok xs L 117 b_117_61 [vR 296, vI t, vI m, vI (D 55 0 (6 * t + k)), vI lv, vI pl, v, w] [] (mk S e) Q
  | [], p, N, S, pl, v, w, hpl, mi, hv, mq, K => by
    subst hpl
    have hT : T ≤ 6 := wp.2.2.1
    rw [List.append_nil] at mq
    have h84 := mq.2.1
    have k := K S mi (by simp only [arL, List.append_nil]; exact mq)
    unfold b_117_61
    repeat' first
      | (refine V_icmp_ge.mpr ?_; first | rw [if_pos (by omega)] | rw [if_neg (by omega)] | split)
      | (refine V_icmp_ne.mpr ?_; first | rw [if_pos (by omega)] | rw [if_neg (by omega)] | split)
      | (refine V_if_eq.mpr ?_; first | rw [if_pos (by omega)] | rw [if_neg (by omega)] | split)
      | (refine V_if_ne.mpr ?_; first | rw [if_pos (by omega)] | rw [if_neg (by omega)] | split)
      | (simp (disch := (first | omega | (simp (disch := omega) only [up_f, up_s, up_i, up_k, up_e]; omega))) only [up_f, up_s, up_i, up_k, up_e, V_iconst, V_bipush, V_sipush, V_conti, V_contn, V_goto, Option.some.injEq, exists_eq_left', true_and, and_true, m_fit, Option.isSome_some, List.map_nil, List.map_cons, List.sum_nil, List.sum_cons, List.all_nil, List.all_cons, m_cat, decide_true, Bool.and_true, Bool.true_and, Nat.zero_le, Int.toNat_natCast, Int.reduceAdd, Int.reduceSub, Int.reduceMul, Int.reduceNeg, Int.reduceLE, Int.reduceLT, Nat.reduceAdd, Nat.reduceLeDiff, Int.reduceToNat, Int.reduceEq, decide_eq_true_eq, true_or, or_true, exists_and_left, and_self, Nat.reduceMul, Nat.reduceSub, Nat.reduceLT, m_oa, Nat.reduceEqDiff, or_false, false_or, Sum.inl.injEq, Sum.inr.injEq, ↓reduceIte, ne_eq, not_false_eq_true, Int.reduceNe, exists_eq_left, D_117, R_117, X_117, F_117_107, F_117_104, F_117_25, F_117_22, J_117_48, J_117_52, F_117_113, J_117_69, F_117_110, F_117_74, F_117_131, J_117_104, J_117_108, J_117_116, J_117_121, I_117_204, J_117_143, J_117_147, J_117_153, J_117_159, V_aloadn0, G_10_38, A_329, T_a329, B_329, V_iloadn1, U_bastore, G_10_37, A_328, T_a328, B_328, V_dup2, U_iaload, V_iadd, m_add_eq, U_iastore, G_10_8, A_302, T_a302, B_302, V_imul, m_mul_eq, V_istoren3, G_10_7, A_301, T_a301, B_301, V_isub, m_sub_eq, V_istore4, V_istore5, V_iload5, G_10_40, A_331, T_a331, B_331, G_10_39, A_330, T_a330, B_330, V_istore6, G_10_25, A_318, T_a318, B_318, V_iload6, G_10_46, A_337, T_a337, B_337, V_iloadn3, V_istore7, V_iload4, V_iload7, V_iloadn2, T_10, V_iinc5, b_117_0, b_117_55, b_117_56, b_117_111, b_117_112, b_117_124, b_117_150, b_117_151, b_117_156, b_117_159, b_117_162, h84])
    all_goals exact k
  | c :: r, p, N, S, pl, v, w, hpl, mi, hv, mq, K => by
    subst hpl
    have hT : T ≤ 6 := wp.2.2.1
    have ht6 : t < 6 := by omega
    have hC : C ≤ 10 := wp.2.2.2.1
    have hlen := mq.1
    have h84 := mq.2.1
    rw [List.length_append, List.length_cons] at hlen h84
    have hcon : S 83 0 (10 * t + p.length) = c := mq.2.2 p.length c (by rw [List.getElem?_append_right (by omega), Nat.sub_self]; rfl)
    obtain ⟨hc0, c88, c68, c69, c90⟩ := V_mem hv ht
    have hc : c < 10 := by omega
    have hpl := wp.2.2.2.2.2.2.1 c hc
    have hx1 : (10 * (t : Int) + (p.length : Int)).toNat = 10 * t + p.length := by omega
    obtain ⟨d, hd⟩ : ∃ d : Nat, N 90 0 c = d := ⟨(N 90 0 c).toNat, by omega⟩
    have hdn : (N 90 0 c).toNat = d := by omega
    have h90 : S 90 0 c = d := by rw [R90 mi.2.1 hc, hd]
    have hx2 : (3 * (c : Int) + (d : Int)).toNat = 3 * c + d := by omega
    have h71 : S 71 0 (3 * c + d) = D 71 0 (3 * c + d) := mi.1.1 71 _ rfl
    have p0 := wp_here wp (show 6 * t + k < 36 by omega)
    obtain ⟨S2, ⟨m2, q2, _⟩, i116⟩ := r_116 (xs := xs) (L := L) (e := e) (a := D 55 0 (6 * t + k)) ht6 hc hm mi mq
    have g90 : S2 90 0 c = d := by rw [R90 m2.2.1 hc, oOut_f (by decide) (by decide), hd]
    by_cases hthr : D 71 0 (3 * c + d) = D 55 0 (6 * t + k)
    · have hth : thr D N (D 55 0 (6 * t + k)) c := by unfold thr; rw [hdn]; exact hthr
      have hE : arL D (D 55 0 (6 * t + k)) m last (c :: r) N = arL D (D 55 0 (6 * t + k)) m last r (up (oOut N c (D 55 0 (6 * t + k)) m) 90 0 c (N 90 0 c + 1)) := by rw [arL, if_pos (Or.inr hth), if_pos hth]
      rw [hE] at K
      have m3 : MI T D S0 (up S2 90 0 c ((d : Int) + 1)) (up (oOut N c (D 55 0 (6 * t + k)) m) 90 0 c (N 90 0 c + 1)) l t := by rw [hd]; exact MI_up m2 (by omega)
      have q3 : MU t (up S2 90 0 c ((d : Int) + 1)) (p ++ r) := MU_ext q2 (up_f (by decide)) (fun j _ => up_f (by decide))
      have kk := fun v w => k_117 wp ht hm hk hlv r p (up (oOut N c (D 55 0 (6 * t + k)) m) 90 0 c (N 90 0 c + 1)) _ _ v w rfl m3 (V_out2 ht p0 hm (Or.inr rfl) hv) q3 K
      cases last
      all_goals
        simp only [Bool.false_eq_true, if_false, if_true] at hlv
        subst hlv
        unfold b_117_61
        repeat' first
          | (refine V_icmp_ge.mpr ?_; first | rw [if_pos (by omega)] | rw [if_neg (by omega)] | split)
          | (refine V_icmp_ne.mpr ?_; first | rw [if_pos (by omega)] | rw [if_neg (by omega)] | split)
          | (refine V_if_eq.mpr ?_; first | rw [if_pos (by omega)] | rw [if_neg (by omega)] | split)
          | (refine V_if_ne.mpr ?_; first | rw [if_pos (by omega)] | rw [if_neg (by omega)] | split)
          | (simp (disch := (first | omega | (simp (disch := omega) only [up_f, up_s, up_i, up_k, up_e]; omega))) only [up_f, up_s, up_i, up_k, up_e, V_iconst, V_bipush, V_sipush, V_conti, V_contn, V_goto, Option.some.injEq, exists_eq_left', true_and, and_true, m_fit, Option.isSome_some, List.map_nil, List.map_cons, List.sum_nil, List.sum_cons, List.all_nil, List.all_cons, m_cat, decide_true, Bool.and_true, Bool.true_and, Nat.zero_le, Int.toNat_natCast, Int.reduceAdd, Int.reduceSub, Int.reduceMul, Int.reduceNeg, Int.reduceLE, Int.reduceLT, Nat.reduceAdd, Nat.reduceLeDiff, Int.reduceToNat, Int.reduceEq, decide_eq_true_eq, true_or, or_true, exists_and_left, and_self, Nat.reduceMul, Nat.reduceSub, Nat.reduceLT, m_oa, Nat.reduceEqDiff, or_false, false_or, Sum.inl.injEq, Sum.inr.injEq, ↓reduceIte, ne_eq, not_false_eq_true, Int.reduceNe, exists_eq_left, D_117, R_117, X_117, F_117_107, F_117_104, F_117_25, F_117_22, J_117_48, J_117_52, F_117_113, J_117_69, F_117_110, F_117_74, F_117_131, J_117_104, J_117_108, J_117_116, J_117_121, I_117_204, J_117_143, J_117_147, J_117_153, J_117_159, V_aloadn0, G_10_38, A_329, T_a329, B_329, V_iloadn1, U_bastore, G_10_37, A_328, T_a328, B_328, V_dup2, U_iaload, V_iadd, m_add_eq, U_iastore, G_10_8, A_302, T_a302, B_302, V_imul, m_mul_eq, V_istoren3, G_10_7, A_301, T_a301, B_301, V_isub, m_sub_eq, V_istore4, V_istore5, V_iload5, G_10_40, A_331, T_a331, B_331, G_10_39, A_330, T_a330, B_330, V_istore6, G_10_25, A_318, T_a318, B_318, V_iload6, G_10_46, A_337, T_a337, B_337, V_iloadn3, V_istore7, V_iload4, V_iload7, V_iloadn2, T_10, V_iinc5, b_117_0, b_117_55, b_117_56, b_117_111, b_117_112, b_117_124, b_117_150, b_117_151, b_117_156, b_117_159, b_117_162, h84, hcon, hx1, h90, hx2, h71, hthr, i116, g90])
        exact kk _ _
    · have hth : ¬ thr D N (D 55 0 (6 * t + k)) c := by unfold thr; rw [hdn]; exact hthr
      cases last with
      | true =>
        have hlv2 : lv = 1 := hlv
        have hE : arL D (D 55 0 (6 * t + k)) m true (c :: r) N = arL D (D 55 0 (6 * t + k)) m true r (up (oOut N c (D 55 0 (6 * t + k)) m) 90 0 c (N 90 0 c)) := by rw [arL, if_pos (Or.inl rfl), if_neg hth, Int.add_zero]
        rw [hE] at K
        have m3 : MI T D S0 (up S2 90 0 c ((d : Int) + 0)) (up (oOut N c (D 55 0 (6 * t + k)) m) 90 0 c (N 90 0 c)) l t := by rw [hd, Int.add_zero]; exact MI_up m2 (by omega)
        have q3 : MU t (up S2 90 0 c ((d : Int) + 0)) (p ++ r) := MU_ext q2 (up_f (by decide)) (fun j _ => up_f (by decide))
        have kk := fun v w => k_117 wp ht hm hk hlv r p (up (oOut N c (D 55 0 (6 * t + k)) m) 90 0 c (N 90 0 c)) _ _ v w rfl m3 (V_out2 ht p0 hm (Or.inl rfl) hv) q3 K
        subst hlv2
        unfold b_117_61
        repeat' first
          | (refine V_icmp_ge.mpr ?_; first | rw [if_pos (by omega)] | rw [if_neg (by omega)] | split)
          | (refine V_icmp_ne.mpr ?_; first | rw [if_pos (by omega)] | rw [if_neg (by omega)] | split)
          | (refine V_if_eq.mpr ?_; first | rw [if_pos (by omega)] | rw [if_neg (by omega)] | split)
          | (refine V_if_ne.mpr ?_; first | rw [if_pos (by omega)] | rw [if_neg (by omega)] | split)
          | (simp (disch := (first | omega | (simp (disch := omega) only [up_f, up_s, up_i, up_k, up_e]; omega))) only [up_f, up_s, up_i, up_k, up_e, V_iconst, V_bipush, V_sipush, V_conti, V_contn, V_goto, Option.some.injEq, exists_eq_left', true_and, and_true, m_fit, Option.isSome_some, List.map_nil, List.map_cons, List.sum_nil, List.sum_cons, List.all_nil, List.all_cons, m_cat, decide_true, Bool.and_true, Bool.true_and, Nat.zero_le, Int.toNat_natCast, Int.reduceAdd, Int.reduceSub, Int.reduceMul, Int.reduceNeg, Int.reduceLE, Int.reduceLT, Nat.reduceAdd, Nat.reduceLeDiff, Int.reduceToNat, Int.reduceEq, decide_eq_true_eq, true_or, or_true, exists_and_left, and_self, Nat.reduceMul, Nat.reduceSub, Nat.reduceLT, m_oa, Nat.reduceEqDiff, or_false, false_or, Sum.inl.injEq, Sum.inr.injEq, ↓reduceIte, ne_eq, not_false_eq_true, Int.reduceNe, exists_eq_left, D_117, R_117, X_117, F_117_107, F_117_104, F_117_25, F_117_22, J_117_48, J_117_52, F_117_113, J_117_69, F_117_110, F_117_74, F_117_131, J_117_104, J_117_108, J_117_116, J_117_121, I_117_204, J_117_143, J_117_147, J_117_153, J_117_159, V_aloadn0, G_10_38, A_329, T_a329, B_329, V_iloadn1, U_bastore, G_10_37, A_328, T_a328, B_328, V_dup2, U_iaload, V_iadd, m_add_eq, U_iastore, G_10_8, A_302, T_a302, B_302, V_imul, m_mul_eq, V_istoren3, G_10_7, A_301, T_a301, B_301, V_isub, m_sub_eq, V_istore4, V_istore5, V_iload5, G_10_40, A_331, T_a331, B_331, G_10_39, A_330, T_a330, B_330, V_istore6, G_10_25, A_318, T_a318, B_318, V_iload6, G_10_46, A_337, T_a337, B_337, V_iloadn3, V_istore7, V_iload4, V_iload7, V_iloadn2, T_10, V_iinc5, b_117_0, b_117_55, b_117_56, b_117_111, b_117_112, b_117_124, b_117_150, b_117_151, b_117_156, b_117_159, b_117_162, h84, hcon, hx1, h90, hx2, h71, hthr, i116, g90])
        exact kk _ _
      | false =>
        have hlv2 : lv = 0 := hlv
        have hE : arL D (D 55 0 (6 * t + k)) m false (c :: r) N = ((arL D (D 55 0 (6 * t + k)) m false r N).1, c :: (arL D (D 55 0 (6 * t + k)) m false r N).2) := by rw [arL, if_neg (by simp only [Bool.false_eq_true, false_or]; exact hth)]
        have hap : p ++ c :: (arL D (D 55 0 (6 * t + k)) m false r N).2 = (p ++ [c]) ++ (arL D (D 55 0 (6 * t + k)) m false r N).2 := app_cons
        have hap2 : p ++ c :: r = (p ++ [c]) ++ r := app_cons
        rw [hE, hap] at K
        rw [hap2] at hv mq
        have kk := fun pl v w hpl => k_117 wp ht hm hk hlv r (p ++ [c]) N S pl v w hpl mi hv mq K
        subst hlv2
        unfold b_117_61
        repeat' first
          | (refine V_icmp_ge.mpr ?_; first | rw [if_pos (by omega)] | rw [if_neg (by omega)] | split)
          | (refine V_icmp_ne.mpr ?_; first | rw [if_pos (by omega)] | rw [if_neg (by omega)] | split)
          | (refine V_if_eq.mpr ?_; first | rw [if_pos (by omega)] | rw [if_neg (by omega)] | split)
          | (refine V_if_ne.mpr ?_; first | rw [if_pos (by omega)] | rw [if_neg (by omega)] | split)
          | (simp (disch := (first | omega | (simp (disch := omega) only [up_f, up_s, up_i, up_k, up_e]; omega))) only [up_f, up_s, up_i, up_k, up_e, V_iconst, V_bipush, V_sipush, V_conti, V_contn, V_goto, Option.some.injEq, exists_eq_left', true_and, and_true, m_fit, Option.isSome_some, List.map_nil, List.map_cons, List.sum_nil, List.sum_cons, List.all_nil, List.all_cons, m_cat, decide_true, Bool.and_true, Bool.true_and, Nat.zero_le, Int.toNat_natCast, Int.reduceAdd, Int.reduceSub, Int.reduceMul, Int.reduceNeg, Int.reduceLE, Int.reduceLT, Nat.reduceAdd, Nat.reduceLeDiff, Int.reduceToNat, Int.reduceEq, decide_eq_true_eq, true_or, or_true, exists_and_left, and_self, Nat.reduceMul, Nat.reduceSub, Nat.reduceLT, m_oa, Nat.reduceEqDiff, or_false, false_or, Sum.inl.injEq, Sum.inr.injEq, ↓reduceIte, ne_eq, not_false_eq_true, Int.reduceNe, exists_eq_left, D_117, R_117, X_117, F_117_107, F_117_104, F_117_25, F_117_22, J_117_48, J_117_52, F_117_113, J_117_69, F_117_110, F_117_74, F_117_131, J_117_104, J_117_108, J_117_116, J_117_121, I_117_204, J_117_143, J_117_147, J_117_153, J_117_159, V_aloadn0, G_10_38, A_329, T_a329, B_329, V_iloadn1, U_bastore, G_10_37, A_328, T_a328, B_328, V_dup2, U_iaload, V_iadd, m_add_eq, U_iastore, G_10_8, A_302, T_a302, B_302, V_imul, m_mul_eq, V_istoren3, G_10_7, A_301, T_a301, B_301, V_isub, m_sub_eq, V_istore4, V_istore5, V_iload5, G_10_40, A_331, T_a331, B_331, G_10_39, A_330, T_a330, B_330, V_istore6, G_10_25, A_318, T_a318, B_318, V_iload6, G_10_46, A_337, T_a337, B_337, V_iloadn3, V_istore7, V_iload4, V_iload7, V_iloadn2, T_10, V_iinc5, b_117_0, b_117_55, b_117_56, b_117_111, b_117_112, b_117_124, b_117_150, b_117_151, b_117_156, b_117_159, b_117_162, h84, hcon, hx1, h90, hx2, h71, hthr, i116, g90])
        exact kk _ _ _ (by simp)
def MR (T : Nat) (D S0 S : Sg) (s : St) : Prop := PM D S ∧ RM S s.1 ∧ (∀ u, u < T → MU u S (s.2 u)) ∧ FM S0 S
theorem MR_MI {T t : Nat} {D S0 S : Sg} {s : St} (h : MR T D S0 S s) : MI T D S0 S s.1 s.2 t := ⟨h.1, h.2.1, fun u hu _ => h.2.2.1 u hu, h.2.2.2⟩
theorem MI_MR {T t : Nat} {D S0 S N : Sg} {l : Ls} {x : List Nat} (h : MI T D S0 S N l t) (hx : MU t S x) : MR T D S0 S (N, setL l t x) := by
  refine ⟨h.1, h.2.1, fun u hu => ?_, h.2.2.2⟩
  by_cases hut : u = t
  · subst hut
    simp only [setL_s]
    exact hx
  · simp only [setL_n hut]
    exact h.2.2.1 u hu hut
theorem r_117 {t T C : Nat} {D S0 S : Sg} {s : St} {m : Int} (wp : WP D T C) (ht : t < T) (hm : 0 ≤ m ∧ m < 2000) (hdu : due s.1 t = m) (w : WN D T C s) (mr : MR T D S0 S s) :
    ∃ S2, MR T D S0 S2 (arr D s t m) ∧ ∀ Q, m_do xs L 117 [vR 296, vI t, vI m] (mk S e) Q ↔ Q (.inl none) (mk S2 e) := by
  have hT : T ≤ 6 := wp.2.2.1
  have ht6 : t < 6 := by omega
  obtain ⟨d1, d2⟩ := due_1 hdu hm.2
  have w1 := w.1 t ht
  have k2 := wp.2.2.2.2.1 t ht6
  have w0 := V_of w
  obtain ⟨k, hk⟩ : ∃ k : Nat, s.1 81 0 t = k := ⟨(s.1 81 0 t).toNat, by omega⟩
  have hkn : (s.1 81 0 t).toNat = k := by omega
  have h81 : S 81 0 t = k := by rw [R81 mr.2.1 ht6, hk]
  have hx : (6 * (t : Int) + ((k : Int) + 1)).toNat = 6 * t + (k + 1) := by omega
  have h55 : S 55 0 (6 * t + (k + 1)) = D 55 0 (6 * t + (k + 1)) := mr.1.1 55 _ rfl
  have h54 : S 54 0 t = D 54 0 t := mr.1.1 54 _ rfl
  have mi0 : MI T D S0 (up (up S 82 0 t 0) 81 0 t ((k : Int) + 1)) (up (up s.1 82 0 t 0) 81 0 t (k + 1 : Nat)) s.2 t := by
    rw [show ((k + 1 : Nat) : Int) = (k : Int) + 1 by omega]
    exact MI_up (MI_up (MR_MI mr) (by omega)) (by omega)
  have mq0 : MU t (up (up S 82 0 t 0) 81 0 t ((k : Int) + 1)) ([] ++ s.2 t) := MU_ext (mr.2.2.1 t ht) (by simp (disch := omega) only [up_f]) (fun j _ => by simp (disch := omega) only [up_f])
  have hv0 : V D (up (up s.1 82 0 t 0) 81 0 t (k + 1 : Nat)) (setL s.2 t ([] ++ s.2 t)) T C := by
    rw [List.nil_append, setL_self]
    exact V_ext w0 (fun c => by simp (disch := omega) only [up_f]) (fun c => by simp (disch := omega) only [up_f]) (fun c => by simp (disch := omega) only [up_f])
  have harr : arr D s t m = ((arL D (D 55 0 (6 * t + (k + 1))) m (decide (((k + 1 : Nat) : Int) = D 54 0 t - 1)) (s.2 t) (up (up s.1 82 0 t 0) 81 0 t (k + 1 : Nat))).1, setL s.2 t (arL D (D 55 0 (6 * t + (k + 1))) m (decide (((k + 1 : Nat) : Int) = D 54 0 t - 1)) (s.2 t) (up (up s.1 82 0 t 0) 81 0 t (k + 1 : Nat))).2) := by
    unfold arr
    rw [hkn]
  rw [harr]
  generalize hlast : decide (((k + 1 : Nat) : Int) = D 54 0 t - 1) = last at *
  have kk := fun (lv : Int) (hlv : lv = if last = true then 1 else 0) (v w : MV) (Q : MOut → MHp → Prop) => k_117 (xs := xs) (L := L) (e := e) (k := k + 1) (last := last) (Q := Q) wp ht hm (by omega) hlv (s.2 t) [] _ _ 0 v w rfl mi0 hv0 mq0
  refine m_do_ex ?_
  cases last with
  | true =>
    have hq : (k : Int) + 1 = D 54 0 t - 1 := by have := of_decide_eq_true hlast; omega
    repeat' first
      | (refine V_icmp_ge.mpr ?_; first | rw [if_pos (by omega)] | rw [if_neg (by omega)] | split)
      | (refine V_icmp_ne.mpr ?_; first | rw [if_pos (by omega)] | rw [if_neg (by omega)] | split)
      | (refine V_if_eq.mpr ?_; first | rw [if_pos (by omega)] | rw [if_neg (by omega)] | split)
      | (refine V_if_ne.mpr ?_; first | rw [if_pos (by omega)] | rw [if_neg (by omega)] | split)
      | (simp (disch := (first | omega | (simp (disch := omega) only [up_f, up_s, up_i, up_k, up_e]; omega))) only [up_f, up_s, up_i, up_k, up_e, V_iconst, V_bipush, V_sipush, V_conti, V_contn, V_goto, Option.some.injEq, exists_eq_left', true_and, and_true, m_fit, Option.isSome_some, List.map_nil, List.map_cons, List.sum_nil, List.sum_cons, List.all_nil, List.all_cons, m_cat, decide_true, Bool.and_true, Bool.true_and, Nat.zero_le, Int.toNat_natCast, Int.reduceAdd, Int.reduceSub, Int.reduceMul, Int.reduceNeg, Int.reduceLE, Int.reduceLT, Nat.reduceAdd, Nat.reduceLeDiff, Int.reduceToNat, Int.reduceEq, decide_eq_true_eq, true_or, or_true, exists_and_left, and_self, Nat.reduceMul, Nat.reduceSub, Nat.reduceLT, m_oa, Nat.reduceEqDiff, or_false, false_or, Sum.inl.injEq, Sum.inr.injEq, ↓reduceIte, ne_eq, not_false_eq_true, Int.reduceNe, exists_eq_left, D_117, R_117, X_117, F_117_107, F_117_104, F_117_25, F_117_22, J_117_48, J_117_52, F_117_113, J_117_69, F_117_110, F_117_74, F_117_131, J_117_104, J_117_108, J_117_116, J_117_121, I_117_204, J_117_143, J_117_147, J_117_153, J_117_159, V_aloadn0, G_10_38, A_329, T_a329, B_329, V_iloadn1, U_bastore, G_10_37, A_328, T_a328, B_328, V_dup2, U_iaload, V_iadd, m_add_eq, U_iastore, G_10_8, A_302, T_a302, B_302, V_imul, m_mul_eq, V_istoren3, G_10_7, A_301, T_a301, B_301, V_isub, m_sub_eq, V_istore4, V_istore5, V_iload5, G_10_40, A_331, T_a331, B_331, G_10_39, A_330, T_a330, B_330, V_istore6, G_10_25, A_318, T_a318, B_318, V_iload6, G_10_46, A_337, T_a337, B_337, V_iloadn3, V_istore7, V_iload4, V_iload7, V_iloadn2, T_10, V_iinc5, b_117_0, b_117_55, b_117_56, b_117_111, b_117_112, b_117_124, b_117_150, b_117_151, b_117_156, b_117_159, b_117_162, h81, hx, h55, h54])
    refine kk _ rfl _ _ _ (fun S2 m2 q2 => ⟨rfl, S2, rfl, MI_MR m2 (by rw [List.nil_append] at q2; exact q2)⟩)
  | false =>
    have hq : ¬ (k : Int) + 1 = D 54 0 t - 1 := fun z => of_decide_eq_false hlast (by omega)
    repeat' first
      | (refine V_icmp_ge.mpr ?_; first | rw [if_pos (by omega)] | rw [if_neg (by omega)] | split)
      | (refine V_icmp_ne.mpr ?_; first | rw [if_pos (by omega)] | rw [if_neg (by omega)] | split)
      | (refine V_if_eq.mpr ?_; first | rw [if_pos (by omega)] | rw [if_neg (by omega)] | split)
      | (refine V_if_ne.mpr ?_; first | rw [if_pos (by omega)] | rw [if_neg (by omega)] | split)
      | (simp (disch := (first | omega | (simp (disch := omega) only [up_f, up_s, up_i, up_k, up_e]; omega))) only [up_f, up_s, up_i, up_k, up_e, V_iconst, V_bipush, V_sipush, V_conti, V_contn, V_goto, Option.some.injEq, exists_eq_left', true_and, and_true, m_fit, Option.isSome_some, List.map_nil, List.map_cons, List.sum_nil, List.sum_cons, List.all_nil, List.all_cons, m_cat, decide_true, Bool.and_true, Bool.true_and, Nat.zero_le, Int.toNat_natCast, Int.reduceAdd, Int.reduceSub, Int.reduceMul, Int.reduceNeg, Int.reduceLE, Int.reduceLT, Nat.reduceAdd, Nat.reduceLeDiff, Int.reduceToNat, Int.reduceEq, decide_eq_true_eq, true_or, or_true, exists_and_left, and_self, Nat.reduceMul, Nat.reduceSub, Nat.reduceLT, m_oa, Nat.reduceEqDiff, or_false, false_or, Sum.inl.injEq, Sum.inr.injEq, ↓reduceIte, ne_eq, not_false_eq_true, Int.reduceNe, exists_eq_left, D_117, R_117, X_117, F_117_107, F_117_104, F_117_25, F_117_22, J_117_48, J_117_52, F_117_113, J_117_69, F_117_110, F_117_74, F_117_131, J_117_104, J_117_108, J_117_116, J_117_121, I_117_204, J_117_143, J_117_147, J_117_153, J_117_159, V_aloadn0, G_10_38, A_329, T_a329, B_329, V_iloadn1, U_bastore, G_10_37, A_328, T_a328, B_328, V_dup2, U_iaload, V_iadd, m_add_eq, U_iastore, G_10_8, A_302, T_a302, B_302, V_imul, m_mul_eq, V_istoren3, G_10_7, A_301, T_a301, B_301, V_isub, m_sub_eq, V_istore4, V_istore5, V_iload5, G_10_40, A_331, T_a331, B_331, G_10_39, A_330, T_a330, B_330, V_istore6, G_10_25, A_318, T_a318, B_318, V_iload6, G_10_46, A_337, T_a337, B_337, V_iloadn3, V_istore7, V_iload4, V_iload7, V_iloadn2, T_10, V_iinc5, b_117_0, b_117_55, b_117_56, b_117_111, b_117_112, b_117_124, b_117_150, b_117_151, b_117_156, b_117_159, b_117_162, h81, hx, h55, h54])
    refine kk _ rfl _ _ _ (fun S2 m2 q2 => ⟨rfl, S2, rfl, MI_MR m2 (by rw [List.nil_append] at q2; exact q2)⟩)
end V
