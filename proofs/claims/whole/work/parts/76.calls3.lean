/-! ===== swap, book, takeOut, side by side ===== -/
theorem up_cong {B1 B2 : Sg} {F I K : Nat} {v : Int} {f i l : Nat} (h : B1 f i l = B2 f i l) : up B1 F I K v f i l = up B2 F I K v f i l := by
  unfold up
  simp only [h]
theorem pmF_yes {f : Nat} (hf : pmF f = true) : 72 ≤ f ∧ f ≤ 78 := by
  unfold pmF at hf
  simp only [Bool.and_eq_true, Nat.ble_eq] at hf
  exact hf
theorem peF_yes {f : Nat} (hf : peF f = true) : f = 40 ∨ f = 1003 ∨ 1300 ≤ f ∧ f ≤ 1307 := by
  unfold peF at hf
  simp only [Bool.or_eq_true, Bool.and_eq_true, Nat.ble_eq, Nat.beq_eq] at hf
  omega
theorem swB_c {B B2 : Sg} {i j c r b c2 r2 b2 f l : Nat} (h : B2 f 0 l = B f 0 l) : swB B2 i j c r b c2 r2 b2 f 0 l = swB B i j c r b c2 r2 b2 f 0 l := by
  unfold swB
  exact up_cong (up_cong (up_cong (up_cong (up_cong (up_cong h)))))
theorem oneR_c {B B2 : Sg} {F x : Nat} (h : ∀ f l, 72 ≤ f ∧ f ≤ 78 → B2 f 0 l = B f 0 l) (hF : F = 72 ∨ F = 74) : oneR B2 F x ↔ oneR B F x := by
  unfold oneR
  simp only [h 78 _ (by omega), h F _ (by omega)]
theorem swS_f {S : Sg} {i j c r b c2 r2 b2 f a l : Nat} (h : ¬ f = 40 ∧ ¬ f = 1304 ∧ ¬ f = 1305 ∧ ¬ f = 1306) : swS S i j c r b c2 r2 b2 f a l = S f a l := by
  unfold swS
  simp (disch := omega) only [up_f]
section V
variable {xs : Nat → Int32} {L : Nat} {S : Sg} {e j : Nat}
theorem call_10 {A T C P : Nat} {i l : Int} (h : II S A T C P j e) : ∃ (k : Int) (S1 : Sg) (e1 : Nat) (S2 : Sg), (∀ Q, m_do xs L 165 [vR 0, vI i, vI l] (mk S e) Q ↔ Q (.inl (some (vI k))) (mk S1 e1)) ∧ (∀ Q, m_do xs L 137 [vR 296, vI i, vI l] (mk S1 e1) Q ↔ Q (.inl none) (mk S2 e1)) ∧ S2 2000 0 0 = k ∧ II S2 A T C P (j + 1) e1 := by
  have pp := h.2.2.2.2.1
  have hP40 := pp.1
  have hP := h.2.2.1
  have hP2 := h.2.2.2.1
  have hthr : ∀ k : Int, II (up S 2000 0 0 k) A T C P (j + 1) (e + 1) := fun k => II_keep h (fun f i l hf => up_f (iiF_no hf).2.2.2) (NC_up h.1 h.2.1 rfl rfl (by decide)) (by have := h.2.2.2.2.2.2; omega)
  by_cases g : 0 ≤ i ∧ i < P
  · by_cases gl : 0 ≤ l ∧ l < P
    · obtain ⟨i, rfl⟩ : ∃ t : Nat, i = t := ⟨i.toNat, by omega⟩
      obtain ⟨l, rfl⟩ : ∃ t : Nat, l = t := ⟨l.toNat, by omega⟩
      have hi : i < P := by omega
      have hl : l < P := by omega
      by_cases hil : i = l
      · subst hil
        exact ⟨2, S, e + 1, up S 2000 0 0 2, w_165_1 (c_74c hP hP40 g), m_137c hP2 hP40 g, up_s, hthr 2⟩
      · rcases pp.2.2.1 i hi with hn | ⟨h0, c, r, b, ha⟩
        · exact ⟨3, S, e + 1, up S 2000 0 0 3, w_165_2 (c_74d hP hP40 hi hl hil (Or.inl hn.2.1)), m_137d hP2 hP40 hi hl hil (Or.inl hn.1), up_s, hthr 3⟩
        · rcases pp.2.2.1 l hl with hn | ⟨h02, c2, r2, b2, hd⟩
          · exact ⟨3, S, e + 1, up S 2000 0 0 3, w_165_2 (c_74d hP hP40 hi hl hil (Or.inr hn.2.1)), m_137d hP2 hP40 hi hl hil (Or.inr hn.1), up_s, hthr 3⟩
          · by_cases hc : ((oneR (swB S i l c r b c2 r2 b2) 72 (18 * c + 3 * r) ∨ oneR (swB S i l c r b c2 r2 b2) 74 (18 * c + 3 * r)) ∧ (oneR (swB S i l c r b c2 r2 b2) 72 (18 * c2 + 3 * r2) ∨ oneR (swB S i l c r b c2 r2 b2) 74 (18 * c2 + 3 * r2)))
            · have hS1 : ∀ f l2, 72 ≤ f ∧ f ≤ 78 → swS S i l c r b c2 r2 b2 f 0 l2 = S f 0 l2 := fun f l2 hf => swS_f (by omega)
              have hsw : ∀ f l2, 72 ≤ f ∧ f ≤ 78 → swB (swS S i l c r b c2 r2 b2) i l c r b c2 r2 b2 f 0 l2 = swB S i l c r b c2 r2 b2 f 0 l2 := fun f l2 hf => swB_c (hS1 f l2 hf)
              have pp1 : PPx S (swS S i l c r b c2 r2 b2) P := PP_ext pp (fun _ _ _ _ => rfl) (fun f l2 hf => hS1 f l2 (pmF_yes hf))
              have ats1 : ∀ x c r b : Nat, ats S S x c r b → ats S (swS S i l c r b c2 r2 b2) x c r b := fun x c r b hx => by
                unfold ats at hx ⊢
                rw [swS_f (by omega), swS_f (by omega), swS_f (by omega)]
                exact hx
              have ha1 : ats S (swS S i l c r b c2 r2 b2) i c r b := by
                unfold ats at ha ⊢
                rw [swS_f (by omega), swS_f (by omega), swS_f (by omega)]
                exact ha
              have hd1 : ats S (swS S i l c r b c2 r2 b2) l c2 r2 b2 := by
                unfold ats at hd ⊢
                rw [swS_f (by omega), swS_f (by omega), swS_f (by omega)]
                exact hd
              have hc1 : ((oneR (swB (swS S i l c r b c2 r2 b2) i l c r b c2 r2 b2) 72 (18 * c + 3 * r) ∨ oneR (swB (swS S i l c r b c2 r2 b2) i l c r b c2 r2 b2) 74 (18 * c + 3 * r)) ∧ (oneR (swB (swS S i l c r b c2 r2 b2) i l c r b c2 r2 b2) 72 (18 * c2 + 3 * r2) ∨ oneR (swB (swS S i l c r b c2 r2 b2) i l c r b c2 r2 b2) 74 (18 * c2 + 3 * r2))) := by
                rw [oneR_c hsw (Or.inl rfl), oneR_c hsw (Or.inr rfl), oneR_c hsw (Or.inl rfl), oneR_c hsw (Or.inr rfl)]
                exact hc
              have pf := PP_swap pp hi hl hil ha hd hc.1 hc.2
              refine ⟨0, _, e, _, w_165 (c_74 pp hP hi hl hil ha hd hc), m_137 pp1 (by rw [swS_f (by omega)]; exact hP2) hi hl hil ha1 hd1 hc1, up_s, II_pe h ?_ ?_ ?_ ?_ (by have := h.2.2.2.2.2.2; omega)⟩
              · intro f i2 l2 hf
                rw [up_f (by omega), swB_f (by omega), swS_f (by omega)]
              · rw [up_f (by omega), swB_f (by omega), swS_f (by omega)]; exact hP
              · rw [up_f (by omega), swB_f (by omega), swS_f (by omega)]; exact hP2
              · refine PP_ext pf (fun f i2 l2 hf => ?_) (fun f l2 hf => ?_)
                · have := peF_yes hf
                  rw [up_f (by omega), swB_f (by omega)]
                · have := pmF_yes hf
                  rw [up_f (by omega), hsw f l2 this]
            · refine ⟨3, _, e + 1, _, w_165_2 (c_74e pp hP hi hl hil ha hd hc), m_137e pp hP2 hi hl hil ha hd hc, up_s, II_pe h ?_ ?_ ?_ ?_ (by have := h.2.2.2.2.2.2; omega)⟩
              · intro f i2 l2 hf
                rw [up_f (by omega), swB_f (by omega), swB_f (by omega)]
              · rw [up_f (by omega), swB_f (by omega), swB_f (by omega)]; exact hP
              · rw [up_f (by omega), swB_f (by omega), swB_f (by omega)]; exact hP2
              · refine PP_ext pp (fun f i2 l2 hf => ?_) (fun f l2 hf => ?_)
                · have := peF_yes hf
                  rw [up_f (by omega), swB_f (by omega), swB_f (by omega)]
                · have := pmF_yes hf
                  rw [up_f (by omega)]
                  exact swB_back hil ha hd f l2
    · exact ⟨1, S, e + 1, up S 2000 0 0 1, w_165_0 (c_74b hP hP40 g gl), m_137b hP2 hP40 g gl, up_s, hthr 1⟩
  · exact ⟨1, S, e + 1, up S 2000 0 0 1, w_165_0 (c_74a hP hP40 g), m_137a hP2 hP40 g, up_s, hthr 1⟩
theorem NC_new {S2 : Sg} {T C T2 C2 : Nat} (h : NC S T C) (h1 : S2 1406 0 0 = S 1406 0 0 + 1) (h2 : S2 1205 0 0 = S 1205 0 0) (h3 : S2 1205 1 0 = S 1205 1 0) (h4 : S2 2034 0 0 = 0) : NC S2 T2 C2 := by
  obtain ⟨a1, a2, a3, _, _, _, _⟩ := h
  exact ⟨by omega, by omega, by omega, fun z => by exfalso; omega, fun z => by exfalso; omega, Or.inl h4, fun z => by exfalso; omega⟩
/-- takeOut of the model, beside the rows before the class's -/
theorem m_133b {S0 B0 : Sg} {P c C : Nat} (hb0 : ∀ f l, 61 ≤ f ∧ f ≤ 78 → S f 0 l = B0 f 0 l) (h : PPx S0 B0 P) (hC : S 2014 0 0 = C) (hC10 : C ≤ 10) (hc : c < C) (hP : S 2026 0 0 = P) (h69 : 0 ≤ B0 69 0 c ∧ B0 69 0 c ≤ 3) (h67 : ∀ k, k < 10 → 0 ≤ B0 68 0 k ∧ B0 68 0 k ≤ 1) (ho : B0 68 0 c = 0) :
    ∃ S2, (MB S2 (tkA (up B0 68 0 c 1) c C P).1 ∧ FPm (up (up (up S 2000 0 0 0) 68 0 c 1) 2034 0 0 0) S2) ∧ ∀ Q, m_do xs L 133 [vR 296, vI c] (mk S e) Q ↔ Q (.inl (some (vI (tkA (up B0 68 0 c 1) c C P).2))) (mk S2 e) := by
  have ho2 : S 68 0 c = 0 := (hb0 68 c (by omega)).trans ho
  have hB : PPx S0 (up B0 68 0 c 1) P := PP_ext h (fun _ _ _ _ => rfl) (fun f j hf => up_f (fun z => by rw [z] at hf; cases hf))
  have e69 : up B0 68 0 c 1 69 0 c = B0 69 0 c := up_f (by decide)
  have hex : ∀ i, i ≤ P → ∃ Sx, PPx Sx (tkA (up B0 68 0 c 1) c C i).1 P := tkA_PP hB hC10 (by rw [e69]; exact h69)
  have h103 := co1 (xs := xs) (L := L) (S := S) (e := e) (a := (c : Int)) (by omega) (by omega)
  refine m_do_ex ?_
  repeat' first
    | (refine V_icmp_ge.mpr ?_; first | rw [if_pos (by omega)] | rw [if_neg (by omega)] | split)
    | (refine V_icmp_ne.mpr ?_; first | rw [if_pos (by omega)] | rw [if_neg (by omega)] | split)
    | (refine V_if_eq.mpr ?_; first | rw [if_pos (by omega)] | rw [if_neg (by omega)] | split)
    | (refine V_if_ne.mpr ?_; first | rw [if_pos (by omega)] | rw [if_neg (by omega)] | split)
    | (simp (disch := (first | omega | (simp (disch := omega) only [up_f, up_s, up_i, up_k, up_e]; omega))) only [up_f, up_s, up_i, up_k, up_e, V_iconst, V_bipush, V_sipush, V_conti, V_contn, V_goto, Option.some.injEq, exists_eq_left', true_and, and_true, m_fit, Option.isSome_some, List.map_nil, List.map_cons, List.sum_nil, List.sum_cons, List.all_nil, List.all_cons, m_cat, decide_true, Bool.and_true, Bool.true_and, Nat.zero_le, Int.toNat_natCast, Int.reduceAdd, Int.reduceSub, Int.reduceMul, Int.reduceNeg, Int.reduceLE, Int.reduceLT, Nat.reduceAdd, Nat.reduceLeDiff, Int.reduceToNat, Int.reduceEq, decide_eq_true_eq, true_or, or_true, exists_and_left, and_self, Nat.reduceMul, Nat.reduceSub, Nat.reduceLT, m_oa, Nat.reduceEqDiff, or_false, false_or, Sum.inl.injEq, Sum.inr.injEq, ↓reduceIte, ne_eq, not_false_eq_true, Int.reduceNe, exists_eq_left, D_133, R_133, X_133, I_133_185, J_133_8, J_133_12, F_133_65, J_133_21, J_133_25, I_133_167, J_133_32, W_133_173, F_133_164, J_133_60, F_133_89, J_133_71, F_133_95, I_133_241, I_133_244, J_133_106, F_133_86, F_133_68, J_133_131, F_133_77, F_133_83, I_133_237, I_133_247, J_133_165, V_aloadn0, V_iloadn1, T_10, V_istoren2, V_iloadn2, G_10_22, A_315, T_a315, B_315, U_baload, U_bastore, G_10_34, P_10_34, V_istoren3, V_istore4, V_iload4, G_10_26, G_10_31, A_323, T_a323, B_323, U_iaload, G_10_33, A_325, T_a325, B_325, U_iastore, V_istore5, V_iload5, G_10_30, A_322, T_a322, B_322, V_dup2, G_10_23, A_316, T_a316, B_316, V_imul, m_mul_eq, V_iadd, m_add_eq, V_iinc3, G_10_27, A_319, T_a319, B_319, G_10_29, A_321, T_a321, B_321, V_iinc4, V_iloadn3, b_133_0, b_133_15, b_133_28, b_133_29, b_133_37, b_133_134, b_133_162, b_133_168, h103, ho, refu0])
  refine k_133 (B := up B0 68 0 c 1) (C := C) (P := P) hC10 (by omega) h.1 (by simp (disch := omega) only [up_f]; exact hP) (by simp (disch := omega) only [up_f]; exact hC) (by rw [e69]; exact h69) (fun k hk => ?_) hex (fun S2 a1 a2 => ⟨rfl, S2, rfl, a1, a2⟩) P 0 0 0 _ _ (by omega) rfl rfl (fun f l hf => ?_) (fun _ _ _ _ => rfl)
  · by_cases hkc : k = c
    · subst hkc
      rw [up_s]; omega
    · rw [up_k hkc]; exact h67 k hk
  · show up (up (up S 2000 0 0 0) 68 0 c 1) 2034 0 0 0 f 0 l = up B0 68 0 c 1 f 0 l
    rw [up_f (by omega)]
    refine up_cong ?_
    rw [up_f (by omega)]
    exact hb0 f l hf
theorem PS_out {A T C c : Nat} (ps : PS S A T C) : PS (up (up S 1108 c 0 1) 68 0 c 1) A T C := by
  obtain ⟨h1, h2, h3, h4, h5, h6, h7, h8⟩ := ps
  refine ⟨?_, PS2_ext h2 (fun f i j hf => by simp (disch := omega) only [up_f]), PS3_ext h3 (fun f i j hf => by simp (disch := omega) only [up_f]), ?_, PS5_ext h5 (fun f i j hf => by simp (disch := omega) only [up_f]), fun k hk => ?_, PS7_ext h7 (fun f i j hf => by simp (disch := omega) only [up_f]), PS8_ext h8 (fun f i j hf => by simp (disch := omega) only [up_f])⟩
  · unfold PS1 at h1 ⊢
    simp (disch := omega) only [up_f]
    exact h1
  · exact PS4_ext h4 (fun f i j hf => by simp (disch := omega) only [up_f])
  · have h6k := h6 k hk
    by_cases hkc : k = c
    · subst hkc
      simp (disch := omega) only [up_f, up_s, true_and, and_true]
      omega
    · simp (disch := omega) only [up_f, up_i, up_k]
      exact h6k
theorem call_7 {A T C P : Nat} {c : Int} (h : II S A T C P j e) (hj : j < 10000) : CS xs L 162 133 [vR 0, vI c, vR 341] [vR 296, vI c] S e j := by
  have h1 := h.1.1
  unfold PS1 at h1
  have hC10 := h1.2.2.2.2.2.2.2.2
  have pp := h.2.2.2.2.1
  by_cases g : 0 ≤ c ∧ c < C
  · obtain ⟨c, rfl⟩ : ∃ t : Nat, c = t := ⟨c.toNat, by omega⟩
    have hc : c < C := by omega
    have h6 := h.1.2.2.2.2.2.1
    have h7 := h.1.2.2.2.2.2.2.1
    have h6c := h6 c (by omega)
    by_cases ho : S 68 0 c = 0
    · have ho2 : S 1108 c 0 = 0 := by omega
      have pl : PL (up S 1108 c 0 1) (up S 68 0 c 1) c := fun k hk => by
        have h6k := h6 k hk
        have h7k := h7 k 0 hk (by omega)
        have h7c := h7 c 0 (by omega) (by omega)
        have e1 : begP S k 0 = S 61 0 k := if_pos rfl
        have e2 : begP S c 0 = S 61 0 c := if_pos rfl
        rw [e1] at h7k
        rw [e2] at h7c
        rw [Nat.add_zero] at h7k h7c
        unfold rep
        by_cases hkc : k = c
        · subst hkc
          simp (disch := omega) only [up_f, up_s]
          omega
        · simp (disch := omega) only [up_f, up_i, up_k]
          constructor
          · rintro ⟨z1, z2, z3, z4, z5, z6⟩
            have y1 := h7k.2.2.2.2.2.2 (by omega)
            have y2 := h7c.2.2.2.2.2.2 (by omega)
            omega
          · rintro ⟨z1, z2, z3, z4, z5, z6⟩
            have y1 := h7k.2.2.2.2.2.2 (by omega)
            have y2 := h7c.2.2.2.2.2.2 (by omega)
            omega
      obtain ⟨S1, ⟨pp1, fp1⟩, i1⟩ := c_71 (xs := xs) (L := L) (e := e) pp h1.2.2.2.2.2.2.1 hC10 hc h.2.2.1 h6c.1 (by omega) (by omega) ho2 ⟨h.2.1.2.2.1, by have := h.2.2.2.2.2.1; omega⟩ pl
      have hw := w_162 i1
      have hb0 : ∀ x f l, 61 ≤ f ∧ f ≤ 78 → up S1 98 0 0 x f 0 l = S f 0 l := fun x f l hf => by
        rw [up_f (by omega), fp1 f 0 l (by
          cases hp : peF f with
          | false => rfl
          | true => have := peF_yes hp; omega), up_f (by omega), up_f (by omega)]
      have hfp : ∀ f i l, ¬ (f = 40 ∨ f = 1003 ∨ 1300 ≤ f ∧ f ≤ 1307) → S1 f i l = up (up S 1108 c 0 1) 1406 0 0 (S 1406 0 0 + 1) f i l := fun f i l hf => fp1 f i l (by
        cases hp : peF f with
        | false => rfl
        | true => have := peF_yes hp; omega)
      obtain ⟨S3, ⟨mb, fpm⟩, i2⟩ := m_133b (xs := xs) (L := L) (e := e) (S := up S1 98 0 0 ((Int32.ofInt (tkA (up S 68 0 c 1) c C P).2).toInt64).toInt) (hb0 _) pp (c := c) (C := C) (by rw [up_f (by decide), hfp 2014 _ _ (by omega), up_f (by decide), up_f (by decide)]; exact h1.2.2.2.2.2.2.2.1) hC10 hc (by rw [up_f (by decide), hfp 2026 _ _ (by omega), up_f (by decide), up_f (by decide)]; exact h.2.2.2.1) (by omega) (fun k hk => by have := h6 k hk; omega) ho
      have hS3 : ∀ f i l, ¬ (f = 40 ∨ f = 1003 ∨ 1300 ≤ f ∧ f ≤ 1307) → ¬ (75 ≤ f ∧ f ≤ 78) → ¬ f = 2034 → ¬ f = 98 → ¬ f = 2000 → ¬ f = 1406 → S3 f i l = up (up S 1108 c 0 1) 68 0 c 1 f i l := fun f i l z1 z2 z3 z4 z5 z6 => by
        rw [fpm f i l z2, up_f z3]
        refine up_cong ?_
        rw [up_f z5, up_f z4, hfp f i l z1, up_f z6]
      refine ⟨0, _, _, e, S3, A, T, C, P, hw, i2, ?_, fun _ => ?_, ?_, ?_, ?_, ?_, ?_, ?_, by have := h.2.2.2.2.2.2; omega⟩
      · rw [fpm 2000 0 0 (by omega), up_f (by decide), up_f (by decide), up_s]
      · rw [fpm 98 0 0 (by omega), up_f (by decide), up_f (by decide), up_f (by decide), up_s]
      · refine PS_ext (PS_out (c := c) h.1) (fun f i l hf => ?_)
        have := psF_yes hf
        exact hS3 f i l (by omega) (by omega) (by omega) (by omega) (by omega) (by omega)
      · refine NC_new h.2.1 ?_ ?_ ?_ ?_
        · rw [fpm 1406 0 0 (by omega), up_f (by decide), up_f (by decide), up_f (by decide), up_f (by decide), hfp 1406 _ _ (by omega), up_s]
        · rw [hS3 1205 _ _ (by omega) (by omega) (by omega) (by omega) (by omega) (by omega), up_f (by decide), up_f (by decide)]
        · rw [hS3 1205 _ _ (by omega) (by omega) (by omega) (by omega) (by omega) (by omega), up_f (by decide), up_f (by decide)]
        · rw [fpm 2034 0 0 (by omega), up_s]
      · rw [hS3 1001 _ _ (by omega) (by omega) (by omega) (by omega) (by omega) (by omega), up_f (by decide), up_f (by decide)]; exact h.2.2.1
      · rw [hS3 2026 _ _ (by omega) (by omega) (by omega) (by omega) (by omega) (by omega), up_f (by decide), up_f (by decide)]; exact h.2.2.2.1
      · refine PP_ext pp1 (fun f i l hf => ?_) (fun f l hf => ?_)
        · have := peF_yes hf
          rw [fpm f i l (by omega), up_f (by omega), up_f (by omega), up_f (by omega), up_f (by omega)]
        · have := pmF_yes hf
          exact mb f l (by omega)
      · rw [fpm 1406 0 0 (by omega), up_f (by decide), up_f (by decide), up_f (by decide), up_f (by decide), hfp 1406 _ _ (by omega), up_s]
        have := h.2.2.2.2.2.1
        omega
    · exact CS_thr h (by decide) (w_162_2 (c_71u h1.2.2.2.2.2.2.1 hC10 hc (by omega))) (m_133u h1.2.2.2.2.2.2.2.1 hC10 hc ho)
  · exact CS_thr h (by decide) (w_162_0 (c_71t h1.2.2.2.2.2.2.1 hC10 g)) (m_133t h1.2.2.2.2.2.2.2.1 hC10 g)
end V
