/-! ===== each site of each method, rewritten ===== -/
section V
variable {xs : Nat → Int32} {L mi pc : Nat} {r : MCode} {ls st : List MV} {h : MHp} {Q : MOut → MHp → Prop}
theorem U_getf {k ci f tk o : Nat} {fin : Bool} (hf : fR (m_own mi) k = some (ci, f, tk, fin)) : m_ok xs L mi ((pc, .getfield k) :: r) ls (vR o :: st) h Q ↔ ∃ v, m_get h o ci f = some v ∧ m_ok xs L mi r ls (v :: st) h Q := by
  rw [m_ok_step]
  simp only [m_step, m_act, m_getf, hf, m_ld, m_nx]
  cases m_get h o ci f with
  | none => exact ⟨fun k => k.elim, fun ⟨_, k, _⟩ => by cases k⟩
  | some v => exact ⟨fun k => ⟨v, rfl, k⟩, fun ⟨_, k, k2⟩ => by cases k; exact k2⟩
theorem U_putf {k ci f tk o : Nat} {v : MV} (hf : fR (m_own mi) k = some (ci, f, tk, false)) : m_ok xs L mi ((pc, .putfield k) :: r) ls (v :: vR o :: st) h Q ↔ (m_fit tk v = true ∧ (m_get h o ci f).isSome = true) ∧ m_ok xs L mi r ls st (m_set h o f v) Q := by
  rw [m_ok_step]
  simp only [m_step, m_act, m_putf, hf, m_nx]
  split
  · rename_i hc; exact ⟨fun k => ⟨⟨hc.1, hc.2.1⟩, k⟩, fun k => k.2⟩
  · rename_i hc; exact ⟨fun k => k.elim, fun k => absurd ⟨k.1.1, k.1.2, fun z => by cases z⟩ hc⟩
theorem U_aaload {i : Int} {o : Nat} : m_ok xs L mi ((pc, .aaload) :: r) ls (vI i :: vR o :: st) h Q ↔ ∃ t, m_tag h o = some t ∧ (30 ≤ t ∧ m_oa (t - 30) = true) ∧ ∃ q, m_age h o t i = some (vR q) ∧ m_ok xs L mi r ls (vR q :: st) h Q := by
  rw [m_ok_step]
  simp only [m_step, m_act, m_aald, m_nx]
  cases m_tag h o with
  | none => exact ⟨fun k => k.elim, fun ⟨_, k, _⟩ => by cases k⟩
  | some t =>
    simp only [Option.some.injEq, exists_eq_left']
    split
    · rename_i hc
      split
      · rename_i q hq
        exact ⟨fun k => ⟨hc, q, hq, k⟩, fun ⟨_, q2, k, k2⟩ => by rw [hq] at k; cases k; exact k2⟩
      · rename_i hq
        exact ⟨fun k => k.elim, fun ⟨_, q2, k, k2⟩ => absurd k (hq q2)⟩
    · rename_i hc
      exact ⟨fun k => k.elim, fun k => absurd k.1 hc⟩
theorem U_iaload {i : Int} {o : Nat} : m_ok xs L mi ((pc, .iaload) :: r) ls (vI i :: vR o :: st) h Q ↔ ∃ a : Int, m_age h o 20 i = some (vI a) ∧ m_ok xs L mi r ls (vI a :: st) h Q := by
  rw [m_ok_step]
  simp only [m_step, m_act, m_iald, m_nx]
  split
  · rename_i q hq
    exact ⟨fun k => ⟨q, hq, k⟩, fun ⟨q2, k, k2⟩ => by rw [hq] at k; cases k; exact k2⟩
  · rename_i hq
    exact ⟨fun k => k.elim, fun ⟨q2, k, k2⟩ => absurd k (hq q2)⟩
theorem U_baload {i : Int} {o : Nat} : m_ok xs L mi ((pc, .baload) :: r) ls (vI i :: vR o :: st) h Q ↔ ∃ a : Int, m_age h o 21 i = some (vI a) ∧ m_ok xs L mi r ls (vI a :: st) h Q := by
  rw [m_ok_step]
  simp only [m_step, m_act, m_zald, m_nx]
  split
  · rename_i q hq
    exact ⟨fun k => ⟨q, hq, k⟩, fun ⟨q2, k, k2⟩ => by rw [hq] at k; cases k; exact k2⟩
  · rename_i hq
    exact ⟨fun k => k.elim, fun ⟨q2, k, k2⟩ => absurd k (hq q2)⟩
theorem U_faload {i : Int} {o : Nat} : m_ok xs L mi ((pc, .faload) :: r) ls (vI i :: vR o :: st) h Q ↔ ∃ a : UInt32, m_age h o 22 i = some (vF a) ∧ m_ok xs L mi r ls (vF a :: st) h Q := by
  rw [m_ok_step]
  simp only [m_step, m_act, m_fald, m_nx]
  split
  · rename_i q hq
    exact ⟨fun k => ⟨q, hq, k⟩, fun ⟨q2, k, k2⟩ => by rw [hq] at k; cases k; exact k2⟩
  · rename_i hq
    exact ⟨fun k => k.elim, fun ⟨q2, k, k2⟩ => absurd k (hq q2)⟩
theorem U_laload {i : Int} {o : Nat} : m_ok xs L mi ((pc, .laload) :: r) ls (vI i :: vR o :: st) h Q ↔ ∃ a : Int64, m_age h o 23 i = some (vL a) ∧ m_ok xs L mi r ls (vL a :: st) h Q := by
  rw [m_ok_step]
  simp only [m_step, m_act, m_lald, m_nx]
  split
  · rename_i q hq
    exact ⟨fun k => ⟨q, hq, k⟩, fun ⟨q2, k, k2⟩ => by rw [hq] at k; cases k; exact k2⟩
  · rename_i hq
    exact ⟨fun k => k.elim, fun ⟨q2, k, k2⟩ => absurd k (hq q2)⟩
theorem U_daload {i : Int} {o : Nat} : m_ok xs L mi ((pc, .daload) :: r) ls (vI i :: vR o :: st) h Q ↔ ∃ a : UInt64, m_age h o 24 i = some (vD a) ∧ m_ok xs L mi r ls (vD a :: st) h Q := by
  rw [m_ok_step]
  simp only [m_step, m_act, m_dald, m_nx]
  split
  · rename_i q hq
    exact ⟨fun k => ⟨q, hq, k⟩, fun ⟨q2, k, k2⟩ => by rw [hq] at k; cases k; exact k2⟩
  · rename_i hq
    exact ⟨fun k => k.elim, fun ⟨q2, k, k2⟩ => absurd k (hq q2)⟩
theorem U_iastore {i : Int} {o : Nat} {a : Int} : m_ok xs L mi ((pc, .iastore) :: r) ls (vI a :: vI i :: vR o :: st) h Q ↔ (m_age h o 20 i).isSome = true ∧ m_ok xs L mi r ls st (m_set h o i.toNat (vI a)) Q := by
  rw [m_ok_step]
  simp only [m_step, m_act, m_iast, m_nx]
  split
  · rename_i hc; exact ⟨fun k => ⟨hc, k⟩, fun k => k.2⟩
  · rename_i hc; exact ⟨fun k => k.elim, fun k => absurd k.1 hc⟩
theorem U_fastore {i : Int} {o : Nat} {a : UInt32} : m_ok xs L mi ((pc, .fastore) :: r) ls (vF a :: vI i :: vR o :: st) h Q ↔ (m_age h o 22 i).isSome = true ∧ m_ok xs L mi r ls st (m_set h o i.toNat (vF a)) Q := by
  rw [m_ok_step]
  simp only [m_step, m_act, m_fast, m_nx]
  split
  · rename_i hc; exact ⟨fun k => ⟨hc, k⟩, fun k => k.2⟩
  · rename_i hc; exact ⟨fun k => k.elim, fun k => absurd k.1 hc⟩
theorem U_lastore {i : Int} {o : Nat} {a : Int64} : m_ok xs L mi ((pc, .lastore) :: r) ls (vL a :: vI i :: vR o :: st) h Q ↔ (m_age h o 23 i).isSome = true ∧ m_ok xs L mi r ls st (m_set h o i.toNat (vL a)) Q := by
  rw [m_ok_step]
  simp only [m_step, m_act, m_last, m_nx]
  split
  · rename_i hc; exact ⟨fun k => ⟨hc, k⟩, fun k => k.2⟩
  · rename_i hc; exact ⟨fun k => k.elim, fun k => absurd k.1 hc⟩
theorem U_dastore {i : Int} {o : Nat} {a : UInt64} : m_ok xs L mi ((pc, .dastore) :: r) ls (vD a :: vI i :: vR o :: st) h Q ↔ (m_age h o 24 i).isSome = true ∧ m_ok xs L mi r ls st (m_set h o i.toNat (vD a)) Q := by
  rw [m_ok_step]
  simp only [m_step, m_act, m_dast, m_nx]
  split
  · rename_i hc; exact ⟨fun k => ⟨hc, k⟩, fun k => k.2⟩
  · rename_i hc; exact ⟨fun k => k.elim, fun k => absurd k.1 hc⟩
theorem U_bastore {i a : Int} {o : Nat} : m_ok xs L mi ((pc, .bastore) :: r) ls (vI a :: vI i :: vR o :: st) h Q ↔ ((a = 0 ∨ a = 1) ∧ (m_age h o 21 i).isSome = true) ∧ m_ok xs L mi r ls st (m_set h o i.toNat (vI a)) Q := by
  rw [m_ok_step]
  simp only [m_step, m_act, m_zast, m_nx]
  split
  · rename_i hc; exact ⟨fun k => ⟨hc, k⟩, fun k => k.2⟩
  · rename_i hc; exact ⟨fun k => k.elim, fun k => absurd k.1 hc⟩
theorem U_alen {o : Nat} : m_ok xs L mi ((pc, .arraylength) :: r) ls (vR o :: st) h Q ↔ ∃ n : Nat, m_len h o = some n ∧ n < 2147483648 ∧ m_ok xs L mi r ls (vI n :: st) h Q := by
  rw [m_ok_step]
  simp only [m_step, m_act, m_alen, m_nx]
  cases m_len h o with
  | none => exact ⟨fun k => k.elim, fun ⟨_, k, _⟩ => by cases k⟩
  | some n =>
    simp only [Option.some.injEq, exists_eq_left']
    split
    · rename_i hc; exact ⟨fun k => ⟨hc, k⟩, fun k => k.2⟩
    · rename_i hc; exact ⟨fun k => k.elim, fun k => absurd k.1 hc⟩
theorem U_max {k q : Nat} {a b : Int} (hk : cR (m_own mi) k = some (2, q)) : m_ok xs L mi ((pc, .invokestatic k) :: r) ls (vI b :: vI a :: st) h Q ↔ (st.map m_cat).sum ≤ 8 ∧ m_ok xs L mi r ls (vI (if a < b then b else a) :: st) h Q := by
  rw [m_ok_step]
  simp only [m_step, m_act, m_invs, hk, m_nx]
  split
  · rename_i hc; exact ⟨fun k => ⟨hc, k⟩, fun k => k.2⟩
  · rename_i hc; exact ⟨fun k => k.elim, fun k => absurd k.1 hc⟩
theorem U_invs {k mj : Nat} {av : List MV} (hk : cR (m_own mi) k = some (1, mj)) (hkd : m_kind mj = 0) (hn : m_narg mj = av.length) (hm : av.length ≤ m_maxL mj) : m_ok xs L mi ((pc, .invokestatic k) :: r) ls (av ++ st) h Q ↔ ((st.map m_cat).sum ≤ 8 ∧ av.all (fun v => decide (m_cat v = 1)) = true) ∧ m_do xs L mj av.reverse h (m_cont xs L mi pc r ls st Q) := by
  constructor
  · intro k
    rw [m_ok_step] at k
    simp only [m_step, m_act, m_invs, hk, m_callA] at k
    rw [if_pos ⟨hkd, by rw [hn, List.length_append]; omega⟩, hn, List.take_left' rfl, List.drop_left' rfl] at k
    split at k
    · rename_i hc
      exact ⟨⟨hc.1, by rw [← List.all_reverse]; exact hc.2.1⟩, k⟩
    · exact k.elim
  · rintro ⟨⟨h8, h1⟩, k⟩
    exact (V_invs hk hkd hn h8 h1 hm).mpr k
theorem U_invv {k mj o : Nat} {av : List MV} (hk : cR (m_own mi) k = some (1, mj)) (hkd : m_kind mj = 1) (hn : m_narg mj = av.length) (hm : av.length + 1 ≤ m_maxL mj) : m_ok xs L mi ((pc, .invokevirtual k) :: r) ls (av ++ vR o :: st) h Q ↔ (m_tag h o = some (m_own mj) ∧ (st.map m_cat).sum ≤ 8 ∧ av.all (fun v => decide (m_cat v = 1)) = true) ∧ m_do xs L mj (vR o :: av.reverse) h (m_cont xs L mi pc r ls st Q) := by
  constructor
  · intro k
    rw [m_ok_step] at k
    simp only [m_step, m_act, m_invv, hk, m_callA] at k
    rw [hn, List.take_left' rfl, List.drop_left' rfl] at k
    simp only at k
    split at k
    · rename_i hc0
      split at k
      · rename_i hc
        refine ⟨⟨hc0.2, hc.1, ?_⟩, k⟩
        have h9 := hc.2.1
        rw [List.all_cons, List.all_reverse] at h9
        exact (Bool.and_eq_true _ _ ▸ h9 : _ ∧ _).2
      · exact k.elim
    · exact k.elim
  · rintro ⟨⟨ht, h8, h1⟩, k⟩
    exact (V_invv hk hkd hn ht h8 h1 hm).mpr k
theorem V_conti {v : MV} : m_cont xs L mi pc r ls st Q (.inl (some v)) h ↔ m_ok xs L mi r ls (v :: st) h Q := Iff.rfl
theorem V_contn : m_cont xs L mi pc r ls st Q (.inl none) h ↔ m_ok xs L mi r ls st h Q := Iff.rfl
theorem D_1 {a0 a1 a2 : MV} : m_do xs L 1 [a0, a1, a2] h Q ↔ m_ok xs L 1 b_1_0 [a0, a1, a2] [] h Q := Iff.rfl
theorem R_1 {a : Int} : m_ok xs L 1 ((pc, .ireturn) :: r) ls [vI a] h Q ↔ Q (.inl (some (vI a))) h := V_ireti rfl
theorem X_1 {e : Nat} : m_cont xs L 1 pc r ls st Q (.inr e) h ↔ Q (.inr e) h := V_contx rfl
theorem D_2 {a0 : MV} : m_do xs L 2 [a0] h Q ↔ m_ok xs L 2 b_2_0 [a0, vU] [] h Q := Iff.rfl
theorem R_2 {o : Nat} : m_ok xs L 2 ((pc, .areturn) :: r) ls [vR o] h Q ↔ Q (.inl (some (vR o))) h := V_aret rfl
theorem X_2 {e : Nat} : m_cont xs L 2 pc r ls st Q (.inr e) h ↔ Q (.inr e) h := V_contx rfl
theorem F_2_11 {o : Nat} : m_ok xs L 2 ((pc, .getfield 11) :: r) ls (vR o :: st) h Q ↔ ∃ v, m_get h o 0 0 = some v ∧ m_ok xs L 2 r ls (v :: st) h Q := U_getf rfl
theorem F_2_17 {o : Nat} : m_ok xs L 2 ((pc, .getfield 17) :: r) ls (vR o :: st) h Q ↔ ∃ v, m_get h o 0 1 = some v ∧ m_ok xs L 2 r ls (v :: st) h Q := U_getf rfl
theorem W_2_17 {o : Nat} {v : MV} : m_ok xs L 2 ((pc, .putfield 17) :: r) ls (v :: vR o :: st) h Q ↔ (m_fit 0 v = true ∧ (m_get h o 0 1).isSome = true) ∧ m_ok xs L 2 r ls st (m_set h o 1 v) Q := U_putf rfl
theorem D_3 {a0 a1 a2 a3 : MV} : m_do xs L 3 [a0, a1, a2, a3] h Q ↔ m_ok xs L 3 b_3_0 [a0, a1, a2, a3, vU] [] h Q := Iff.rfl
theorem R_3 {a : Int} : m_ok xs L 3 ((pc, .ireturn) :: r) ls [vI a] h Q ↔ Q (.inl (some (vI a))) h := V_ireti rfl
theorem X_3 {e : Nat} : m_cont xs L 3 pc r ls st Q (.inr e) h ↔ Q (.inr e) h := V_contx rfl
theorem J_3_7 : m_jmp 3 7 (37) = b_3_44 := rfl
theorem I_3_37 {o : Nat} {a0 a1 a2 : MV} : m_ok xs L 3 ((pc, .invokevirtual 37) :: r) ls (a2 :: a1 :: a0 :: vR o :: st) h Q ↔ (m_tag h o = some 0 ∧ (st.map m_cat).sum ≤ 8 ∧ [a2, a1, a0].all (fun v => decide (m_cat v = 1)) = true) ∧ m_do xs L 4 [vR o, a0, a1, a2] h (m_cont xs L 3 pc r ls st Q) := U_invv (mj := 4) (av := [a2, a1, a0]) rfl rfl rfl (Nat.le_of_ble_eq_true rfl)
theorem J_3_19 : m_jmp 3 19 (19) = b_3_38 := rfl
theorem I_3_41 {o : Nat} {a0 a1 a2 a3 a4 : MV} : m_ok xs L 3 ((pc, .invokevirtual 41) :: r) ls (a4 :: a3 :: a2 :: a1 :: a0 :: vR o :: st) h Q ↔ (m_tag h o = some 0 ∧ (st.map m_cat).sum ≤ 8 ∧ [a4, a3, a2, a1, a0].all (fun v => decide (m_cat v = 1)) = true) ∧ m_do xs L 5 [vR o, a0, a1, a2, a3, a4] h (m_cont xs L 3 pc r ls st Q) := U_invv (mj := 5) (av := [a4, a3, a2, a1, a0]) rfl rfl rfl (Nat.le_of_ble_eq_true rfl)
theorem J_3_32 : m_jmp 3 32 (6) = b_3_38 := rfl
theorem J_3_41 : m_jmp 3 41 (-38) = b_3_3 := rfl
theorem D_4 {a0 a1 a2 a3 : MV} : m_do xs L 4 [a0, a1, a2, a3] h Q ↔ m_ok xs L 4 b_4_0 [a0, a1, a2, a3, vU, vU] [] h Q := Iff.rfl
theorem R_4 {a : Int} : m_ok xs L 4 ((pc, .ireturn) :: r) ls [vI a] h Q ↔ Q (.inl (some (vI a))) h := V_ireti rfl
theorem X_4 {e : Nat} : m_cont xs L 4 pc r ls st Q (.inr e) h ↔ Q (.inr e) h := V_contx rfl
theorem J_4_9 : m_jmp 4 9 (39) = b_4_48 := rfl
theorem F_4_21 {o : Nat} : m_ok xs L 4 ((pc, .getfield 21) :: r) ls (vR o :: st) h Q ↔ ∃ v, m_get h o 0 2 = some v ∧ m_ok xs L 4 r ls (v :: st) h Q := U_getf rfl
theorem I_4_45 {a0 a1 a2 : MV} : m_ok xs L 4 ((pc, .invokestatic 45) :: r) ls (a2 :: a1 :: a0 :: st) h Q ↔ ((st.map m_cat).sum ≤ 8 ∧ [a2, a1, a0].all (fun v => decide (m_cat v = 1)) = true) ∧ m_do xs L 1 [a0, a1, a2] h (m_cont xs L 4 pc r ls st Q) := U_invs (mj := 1) (av := [a2, a1, a0]) rfl rfl rfl (Nat.le_of_ble_eq_true rfl)
theorem J_4_25 : m_jmp 4 25 (17) = b_4_42 := rfl
theorem J_4_31 : m_jmp 4 31 (7) = b_4_38 := rfl
theorem J_4_35 : m_jmp 4 35 (7) = b_4_42 := rfl
theorem J_4_45 : m_jmp 4 45 (-39) = b_4_6 := rfl
theorem D_5 {a0 a1 a2 a3 a4 a5 : MV} : m_do xs L 5 [a0, a1, a2, a3, a4, a5] h Q ↔ m_ok xs L 5 b_5_0 [a0, a1, a2, a3, a4, a5, vU, vU, vU, vU] [] h Q := Iff.rfl
theorem R_5 {a : Int} : m_ok xs L 5 ((pc, .ireturn) :: r) ls [vI a] h Q ↔ (a = 0 ∨ a = 1) ∧ Q (.inl (some (vI a))) h := V_iretz rfl
theorem X_5 {e : Nat} : m_cont xs L 5 pc r ls st Q (.inr e) h ↔ Q (.inr e) h := V_contx rfl
theorem J_5_12 : m_jmp 5 12 (89) = b_5_101 := rfl
theorem F_5_21 {o : Nat} : m_ok xs L 5 ((pc, .getfield 21) :: r) ls (vR o :: st) h Q ↔ ∃ v, m_get h o 0 2 = some v ∧ m_ok xs L 5 r ls (v :: st) h Q := U_getf rfl
theorem I_5_45 {a0 a1 a2 : MV} : m_ok xs L 5 ((pc, .invokestatic 45) :: r) ls (a2 :: a1 :: a0 :: st) h Q ↔ ((st.map m_cat).sum ≤ 8 ∧ [a2, a1, a0].all (fun v => decide (m_cat v = 1)) = true) ∧ m_do xs L 1 [a0, a1, a2] h (m_cont xs L 5 pc r ls st Q) := U_invs (mj := 1) (av := [a2, a1, a0]) rfl rfl rfl (Nat.le_of_ble_eq_true rfl)
theorem J_5_32 : m_jmp 5 32 (63) = b_5_95 := rfl
theorem J_5_39 : m_jmp 5 39 (56) = b_5_95 := rfl
theorem J_5_44 : m_jmp 5 44 (21) = b_5_65 := rfl
theorem F_5_11 {o : Nat} : m_ok xs L 5 ((pc, .getfield 11) :: r) ls (vR o :: st) h Q ↔ ∃ v, m_get h o 0 0 = some v ∧ m_ok xs L 5 r ls (v :: st) h Q := U_getf rfl
theorem F_5_49 {o : Nat} : m_ok xs L 5 ((pc, .getfield 49) :: r) ls (vR o :: st) h Q ↔ ∃ v, m_get h o 3 1 = some v ∧ m_ok xs L 5 r ls (v :: st) h Q := U_getf rfl
theorem J_5_58 : m_jmp 5 58 (7) = b_5_65 := rfl
theorem J_5_62 : m_jmp 5 62 (4) = b_5_66 := rfl
theorem J_5_70 : m_jmp 5 70 (22) = b_5_92 := rfl
theorem F_5_53 {o : Nat} : m_ok xs L 5 ((pc, .getfield 53) :: r) ls (vR o :: st) h Q ↔ ∃ v, m_get h o 3 3 = some v ∧ m_ok xs L 5 r ls (v :: st) h Q := U_getf rfl
theorem J_5_85 : m_jmp 5 85 (7) = b_5_92 := rfl
theorem J_5_89 : m_jmp 5 89 (4) = b_5_93 := rfl
theorem J_5_98 : m_jmp 5 98 (-89) = b_5_9 := rfl
theorem J_5_103 : m_jmp 5 103 (8) = b_5_111 := rfl
theorem J_5_108 : m_jmp 5 108 (7) = b_5_115 := rfl
theorem J_5_112 : m_jmp 5 112 (4) = b_5_116 := rfl
theorem D_6 {a0 a1 a2 a3 : MV} : m_do xs L 6 [a0, a1, a2, a3] h Q ↔ m_ok xs L 6 b_6_0 [a0, a1, a2, a3, vU] [] h Q := Iff.rfl
theorem R_6 : m_ok xs L 6 ((pc, .return_) :: r) ls [] h Q ↔ Q (.inl none) h := V_vret rfl
theorem X_6 {e : Nat} : m_cont xs L 6 pc r ls st Q (.inr e) h ↔ Q (.inr e) h := V_contx rfl
theorem F_6_56 {o : Nat} : m_ok xs L 6 ((pc, .getfield 56) :: r) ls (vR o :: st) h Q ↔ ∃ v, m_get h o 3 2 = some v ∧ m_ok xs L 6 r ls (v :: st) h Q := U_getf rfl
theorem J_6_9 : m_jmp 6 9 (7) = b_6_16 := rfl
theorem J_6_13 : m_jmp 6 13 (4) = b_6_17 := rfl
theorem I_6_37 {o : Nat} {a0 a1 a2 : MV} : m_ok xs L 6 ((pc, .invokevirtual 37) :: r) ls (a2 :: a1 :: a0 :: vR o :: st) h Q ↔ (m_tag h o = some 0 ∧ (st.map m_cat).sum ≤ 8 ∧ [a2, a1, a0].all (fun v => decide (m_cat v = 1)) = true) ∧ m_do xs L 4 [vR o, a0, a1, a2] h (m_cont xs L 6 pc r ls st Q) := U_invv (mj := 4) (av := [a2, a1, a0]) rfl rfl rfl (Nat.le_of_ble_eq_true rfl)
theorem J_6_25 : m_jmp 6 25 (12) = b_6_37 := rfl
theorem I_6_59 {o : Nat} {a0 a1 a2 a3 : MV} : m_ok xs L 6 ((pc, .invokevirtual 59) :: r) ls (a3 :: a2 :: a1 :: a0 :: vR o :: st) h Q ↔ (m_tag h o = some 0 ∧ (st.map m_cat).sum ≤ 8 ∧ [a3, a2, a1, a0].all (fun v => decide (m_cat v = 1)) = true) ∧ m_do xs L 7 [vR o, a0, a1, a2, a3] h (m_cont xs L 6 pc r ls st Q) := U_invv (mj := 7) (av := [a3, a2, a1, a0]) rfl rfl rfl (Nat.le_of_ble_eq_true rfl)
theorem D_7 {a0 a1 a2 a3 a4 : MV} : m_do xs L 7 [a0, a1, a2, a3, a4] h Q ↔ m_ok xs L 7 b_7_0 [a0, a1, a2, a3, a4] [] h Q := Iff.rfl
theorem R_7 : m_ok xs L 7 ((pc, .return_) :: r) ls [] h Q ↔ Q (.inl none) h := V_vret rfl
theorem X_7 {e : Nat} : m_cont xs L 7 pc r ls st Q (.inr e) h ↔ Q (.inr e) h := V_contx rfl
theorem W_7_63 {o : Nat} {v : MV} : m_ok xs L 7 ((pc, .putfield 63) :: r) ls (v :: vR o :: st) h Q ↔ (m_fit 0 v = true ∧ (m_get h o 3 4).isSome = true) ∧ m_ok xs L 7 r ls st (m_set h o 4 v) Q := U_putf rfl
theorem W_7_66 {o : Nat} {v : MV} : m_ok xs L 7 ((pc, .putfield 66) :: r) ls (v :: vR o :: st) h Q ↔ (m_fit 0 v = true ∧ (m_get h o 3 5).isSome = true) ∧ m_ok xs L 7 r ls st (m_set h o 5 v) Q := U_putf rfl
theorem W_7_69 {o : Nat} {v : MV} : m_ok xs L 7 ((pc, .putfield 69) :: r) ls (v :: vR o :: st) h Q ↔ (m_fit 0 v = true ∧ (m_get h o 3 6).isSome = true) ∧ m_ok xs L 7 r ls st (m_set h o 6 v) Q := U_putf rfl
theorem F_7_21 {o : Nat} : m_ok xs L 7 ((pc, .getfield 21) :: r) ls (vR o :: st) h Q ↔ ∃ v, m_get h o 0 2 = some v ∧ m_ok xs L 7 r ls (v :: st) h Q := U_getf rfl
theorem I_7_45 {a0 a1 a2 : MV} : m_ok xs L 7 ((pc, .invokestatic 45) :: r) ls (a2 :: a1 :: a0 :: st) h Q ↔ ((st.map m_cat).sum ≤ 8 ∧ [a2, a1, a0].all (fun v => decide (m_cat v = 1)) = true) ∧ m_do xs L 1 [a0, a1, a2] h (m_cont xs L 7 pc r ls st Q) := U_invs (mj := 1) (av := [a2, a1, a0]) rfl rfl rfl (Nat.le_of_ble_eq_true rfl)
theorem F_7_72 {o : Nat} : m_ok xs L 7 ((pc, .getfield 72) :: r) ls (vR o :: st) h Q ↔ ∃ v, m_get h o 3 0 = some v ∧ m_ok xs L 7 r ls (v :: st) h Q := U_getf rfl
theorem D_8 {a0 a1 : MV} : m_do xs L 8 [a0, a1] h Q ↔ m_ok xs L 8 b_8_0 [a0, a1] [] h Q := Iff.rfl
theorem R_8 : m_ok xs L 8 ((pc, .return_) :: r) ls [] h Q ↔ Q (.inl none) h := V_vret rfl
theorem X_8 {e : Nat} : m_cont xs L 8 pc r ls st Q (.inr e) h ↔ Q (.inr e) h := V_contx rfl
theorem F_8_21 {o : Nat} : m_ok xs L 8 ((pc, .getfield 21) :: r) ls (vR o :: st) h Q ↔ ∃ v, m_get h o 0 2 = some v ∧ m_ok xs L 8 r ls (v :: st) h Q := U_getf rfl
theorem F_8_63 {o : Nat} : m_ok xs L 8 ((pc, .getfield 63) :: r) ls (vR o :: st) h Q ↔ ∃ v, m_get h o 3 4 = some v ∧ m_ok xs L 8 r ls (v :: st) h Q := U_getf rfl
theorem F_8_66 {o : Nat} : m_ok xs L 8 ((pc, .getfield 66) :: r) ls (vR o :: st) h Q ↔ ∃ v, m_get h o 3 5 = some v ∧ m_ok xs L 8 r ls (v :: st) h Q := U_getf rfl
theorem F_8_69 {o : Nat} : m_ok xs L 8 ((pc, .getfield 69) :: r) ls (vR o :: st) h Q ↔ ∃ v, m_get h o 3 6 = some v ∧ m_ok xs L 8 r ls (v :: st) h Q := U_getf rfl
theorem I_8_45 {a0 a1 a2 : MV} : m_ok xs L 8 ((pc, .invokestatic 45) :: r) ls (a2 :: a1 :: a0 :: st) h Q ↔ ((st.map m_cat).sum ≤ 8 ∧ [a2, a1, a0].all (fun v => decide (m_cat v = 1)) = true) ∧ m_do xs L 1 [a0, a1, a2] h (m_cont xs L 8 pc r ls st Q) := U_invs (mj := 1) (av := [a2, a1, a0]) rfl rfl rfl (Nat.le_of_ble_eq_true rfl)
theorem W_8_63 {o : Nat} {v : MV} : m_ok xs L 8 ((pc, .putfield 63) :: r) ls (v :: vR o :: st) h Q ↔ (m_fit 0 v = true ∧ (m_get h o 3 4).isSome = true) ∧ m_ok xs L 8 r ls st (m_set h o 4 v) Q := U_putf rfl
theorem W_8_66 {o : Nat} {v : MV} : m_ok xs L 8 ((pc, .putfield 66) :: r) ls (v :: vR o :: st) h Q ↔ (m_fit 0 v = true ∧ (m_get h o 3 5).isSome = true) ∧ m_ok xs L 8 r ls st (m_set h o 5 v) Q := U_putf rfl
theorem W_8_69 {o : Nat} {v : MV} : m_ok xs L 8 ((pc, .putfield 69) :: r) ls (v :: vR o :: st) h Q ↔ (m_fit 0 v = true ∧ (m_get h o 3 6).isSome = true) ∧ m_ok xs L 8 r ls st (m_set h o 6 v) Q := U_putf rfl
theorem D_9 {a0 a1 a2 : MV} : m_do xs L 9 [a0, a1, a2] h Q ↔ m_ok xs L 9 b_9_0 [a0, a1, a2] [] h Q := Iff.rfl
theorem R_9 : m_ok xs L 9 ((pc, .return_) :: r) ls [] h Q ↔ Q (.inl none) h := V_vret rfl
theorem X_9 {e : Nat} : m_cont xs L 9 pc r ls st Q (.inr e) h ↔ Q (.inr e) h := V_contx rfl
theorem F_9_75 {o : Nat} : m_ok xs L 9 ((pc, .getfield 75) :: r) ls (vR o :: st) h Q ↔ ∃ v, m_get h o 3 7 = some v ∧ m_ok xs L 9 r ls (v :: st) h Q := U_getf rfl
theorem W_9_75 {o : Nat} {v : MV} : m_ok xs L 9 ((pc, .putfield 75) :: r) ls (v :: vR o :: st) h Q ↔ (m_fit 0 v = true ∧ (m_get h o 3 7).isSome = true) ∧ m_ok xs L 9 r ls st (m_set h o 7 v) Q := U_putf rfl
theorem F_9_25 {o : Nat} : m_ok xs L 9 ((pc, .getfield 25) :: r) ls (vR o :: st) h Q ↔ ∃ v, m_get h o 0 3 = some v ∧ m_ok xs L 9 r ls (v :: st) h Q := U_getf rfl
theorem W_9_25 {o : Nat} {v : MV} : m_ok xs L 9 ((pc, .putfield 25) :: r) ls (v :: vR o :: st) h Q ↔ (m_fit 0 v = true ∧ (m_get h o 0 3).isSome = true) ∧ m_ok xs L 9 r ls st (m_set h o 3 v) Q := U_putf rfl
theorem D_10 {a0 a1 a2 : MV} : m_do xs L 10 [a0, a1, a2] h Q ↔ m_ok xs L 10 b_10_0 [a0, a1, a2] [] h Q := Iff.rfl
theorem R_10 {a : Int} : m_ok xs L 10 ((pc, .ireturn) :: r) ls [vI a] h Q ↔ (a = 0 ∨ a = 1) ∧ Q (.inl (some (vI a))) h := V_iretz rfl
theorem X_10 {e : Nat} : m_cont xs L 10 pc r ls st Q (.inr e) h ↔ Q (.inr e) h := V_contx rfl
theorem F_10_63 {o : Nat} : m_ok xs L 10 ((pc, .getfield 63) :: r) ls (vR o :: st) h Q ↔ ∃ v, m_get h o 3 4 = some v ∧ m_ok xs L 10 r ls (v :: st) h Q := U_getf rfl
theorem J_10_5 : m_jmp 10 5 (69) = b_10_74 := rfl
theorem J_10_13 : m_jmp 10 13 (61) = b_10_74 := rfl
theorem F_10_66 {o : Nat} : m_ok xs L 10 ((pc, .getfield 66) :: r) ls (vR o :: st) h Q ↔ ∃ v, m_get h o 3 5 = some v ∧ m_ok xs L 10 r ls (v :: st) h Q := U_getf rfl
theorem F_10_49 {o : Nat} : m_ok xs L 10 ((pc, .getfield 49) :: r) ls (vR o :: st) h Q ↔ ∃ v, m_get h o 3 1 = some v ∧ m_ok xs L 10 r ls (v :: st) h Q := U_getf rfl
theorem F_10_53 {o : Nat} : m_ok xs L 10 ((pc, .getfield 53) :: r) ls (vR o :: st) h Q ↔ ∃ v, m_get h o 3 3 = some v ∧ m_ok xs L 10 r ls (v :: st) h Q := U_getf rfl
theorem F_10_72 {o : Nat} : m_ok xs L 10 ((pc, .getfield 72) :: r) ls (vR o :: st) h Q ↔ ∃ v, m_get h o 3 0 = some v ∧ m_ok xs L 10 r ls (v :: st) h Q := U_getf rfl
theorem I_10_41 {o : Nat} {a0 a1 a2 a3 a4 : MV} : m_ok xs L 10 ((pc, .invokevirtual 41) :: r) ls (a4 :: a3 :: a2 :: a1 :: a0 :: vR o :: st) h Q ↔ (m_tag h o = some 0 ∧ (st.map m_cat).sum ≤ 8 ∧ [a4, a3, a2, a1, a0].all (fun v => decide (m_cat v = 1)) = true) ∧ m_do xs L 5 [vR o, a0, a1, a2, a3, a4] h (m_cont xs L 10 pc r ls st Q) := U_invv (mj := 5) (av := [a4, a3, a2, a1, a0]) rfl rfl rfl (Nat.le_of_ble_eq_true rfl)
theorem J_10_40 : m_jmp 10 40 (34) = b_10_74 := rfl
theorem J_10_67 : m_jmp 10 67 (7) = b_10_74 := rfl
theorem J_10_71 : m_jmp 10 71 (4) = b_10_75 := rfl
theorem D_11 {a0 a1 a2 : MV} : m_do xs L 11 [a0, a1, a2] h Q ↔ m_ok xs L 11 b_11_0 [a0, a1, a2, vU, vU, vU] [] h Q := Iff.rfl
theorem R_11 : m_ok xs L 11 ((pc, .return_) :: r) ls [] h Q ↔ Q (.inl none) h := V_vret rfl
theorem X_11 {e : Nat} : m_cont xs L 11 pc r ls st Q (.inr e) h ↔ Q (.inr e) h := V_contx rfl
theorem F_11_63 {o : Nat} : m_ok xs L 11 ((pc, .getfield 63) :: r) ls (vR o :: st) h Q ↔ ∃ v, m_get h o 3 4 = some v ∧ m_ok xs L 11 r ls (v :: st) h Q := U_getf rfl
theorem F_11_66 {o : Nat} : m_ok xs L 11 ((pc, .getfield 66) :: r) ls (vR o :: st) h Q ↔ ∃ v, m_get h o 3 5 = some v ∧ m_ok xs L 11 r ls (v :: st) h Q := U_getf rfl
theorem F_11_69 {o : Nat} : m_ok xs L 11 ((pc, .getfield 69) :: r) ls (vR o :: st) h Q ↔ ∃ v, m_get h o 3 6 = some v ∧ m_ok xs L 11 r ls (v :: st) h Q := U_getf rfl
theorem I_11_59 {o : Nat} {a0 a1 a2 a3 : MV} : m_ok xs L 11 ((pc, .invokevirtual 59) :: r) ls (a3 :: a2 :: a1 :: a0 :: vR o :: st) h Q ↔ (m_tag h o = some 0 ∧ (st.map m_cat).sum ≤ 8 ∧ [a3, a2, a1, a0].all (fun v => decide (m_cat v = 1)) = true) ∧ m_do xs L 7 [vR o, a0, a1, a2, a3] h (m_cont xs L 11 pc r ls st Q) := U_invv (mj := 7) (av := [a3, a2, a1, a0]) rfl rfl rfl (Nat.le_of_ble_eq_true rfl)
theorem D_13 {a0 : MV} : m_do xs L 13 [a0] h Q ↔ m_ok xs L 13 b_13_0 [a0] [] h Q := Iff.rfl
theorem R_13 {a : Int} : m_ok xs L 13 ((pc, .ireturn) :: r) ls [vI a] h Q ↔ Q (.inl (some (vI a))) h := V_ireti rfl
theorem X_13 {e : Nat} : m_cont xs L 13 pc r ls st Q (.inr e) h ↔ Q (.inr e) h := V_contx rfl
theorem F_13_15 {o : Nat} : m_ok xs L 13 ((pc, .getfield 15) :: r) ls (vR o :: st) h Q ↔ ∃ v, m_get h o 1 9 = some v ∧ m_ok xs L 13 r ls (v :: st) h Q := U_getf rfl
theorem J_13_4 : m_jmp 13 4 (17) = b_13_21 := rfl
theorem F_13_26 {o : Nat} : m_ok xs L 13 ((pc, .getfield 26) :: r) ls (vR o :: st) h Q ↔ ∃ v, m_get h o 1 12 = some v ∧ m_ok xs L 13 r ls (v :: st) h Q := U_getf rfl
theorem J_13_18 : m_jmp 13 18 (7) = b_13_25 := rfl
theorem F_13_32 {o : Nat} : m_ok xs L 13 ((pc, .getfield 32) :: r) ls (vR o :: st) h Q ↔ ∃ v, m_get h o 1 1 = some v ∧ m_ok xs L 13 r ls (v :: st) h Q := U_getf rfl
theorem D_14 {a0 a1 a2 a3 : MV} : m_do xs L 14 [a0, a1, a2, a3] h Q ↔ m_ok xs L 14 b_14_0 [a0, a1, a2, a3] [] h Q := Iff.rfl
theorem R_14 {a : Int} : m_ok xs L 14 ((pc, .ireturn) :: r) ls [vI a] h Q ↔ Q (.inl (some (vI a))) h := V_ireti rfl
theorem X_14 {e : Nat} : m_cont xs L 14 pc r ls st Q (.inr e) h ↔ Q (.inr e) h := V_contx rfl
theorem F_14_19 {o : Nat} : m_ok xs L 14 ((pc, .getfield 19) :: r) ls (vR o :: st) h Q ↔ ∃ v, m_get h o 1 10 = some v ∧ m_ok xs L 14 r ls (v :: st) h Q := U_getf rfl
theorem F_14_15 {o : Nat} : m_ok xs L 14 ((pc, .getfield 15) :: r) ls (vR o :: st) h Q ↔ ∃ v, m_get h o 1 9 = some v ∧ m_ok xs L 14 r ls (v :: st) h Q := U_getf rfl
theorem F_14_23 {o : Nat} : m_ok xs L 14 ((pc, .getfield 23) :: r) ls (vR o :: st) h Q ↔ ∃ v, m_get h o 1 11 = some v ∧ m_ok xs L 14 r ls (v :: st) h Q := U_getf rfl
theorem F_14_26 {o : Nat} : m_ok xs L 14 ((pc, .getfield 26) :: r) ls (vR o :: st) h Q ↔ ∃ v, m_get h o 1 12 = some v ∧ m_ok xs L 14 r ls (v :: st) h Q := U_getf rfl
theorem W_14_15 {o : Nat} {v : MV} : m_ok xs L 14 ((pc, .putfield 15) :: r) ls (v :: vR o :: st) h Q ↔ (m_fit 0 v = true ∧ (m_get h o 1 9).isSome = true) ∧ m_ok xs L 14 r ls st (m_set h o 9 v) Q := U_putf rfl
theorem D_15 {a0 a1 a2 : MV} : m_do xs L 15 [a0, a1, a2] h Q ↔ m_ok xs L 15 b_15_0 [a0, a1, a2] [] h Q := Iff.rfl
theorem R_15 {a : Int} : m_ok xs L 15 ((pc, .ireturn) :: r) ls [vI a] h Q ↔ (a = 0 ∨ a = 1) ∧ Q (.inl (some (vI a))) h := V_iretz rfl
theorem X_15 {e : Nat} : m_cont xs L 15 pc r ls st Q (.inr e) h ↔ Q (.inr e) h := V_contx rfl
theorem F_15_35 {o : Nat} : m_ok xs L 15 ((pc, .getfield 35) :: r) ls (vR o :: st) h Q ↔ ∃ v, m_get h o 1 6 = some v ∧ m_ok xs L 15 r ls (v :: st) h Q := U_getf rfl
theorem F_15_38 {o : Nat} : m_ok xs L 15 ((pc, .getfield 38) :: r) ls (vR o :: st) h Q ↔ ∃ v, m_get h o 6 0 = some v ∧ m_ok xs L 15 r ls (v :: st) h Q := U_getf rfl
theorem J_15_12 : m_jmp 15 12 (25) = b_15_37 := rfl
theorem F_15_43 {o : Nat} : m_ok xs L 15 ((pc, .getfield 43) :: r) ls (vR o :: st) h Q ↔ ∃ v, m_get h o 6 1 = some v ∧ m_ok xs L 15 r ls (v :: st) h Q := U_getf rfl
theorem J_15_23 : m_jmp 15 23 (10) = b_15_33 := rfl
theorem F_15_46 {o : Nat} : m_ok xs L 15 ((pc, .getfield 46) :: r) ls (vR o :: st) h Q ↔ ∃ v, m_get h o 1 7 = some v ∧ m_ok xs L 15 r ls (v :: st) h Q := U_getf rfl
theorem J_15_30 : m_jmp 15 30 (7) = b_15_37 := rfl
theorem J_15_34 : m_jmp 15 34 (4) = b_15_38 := rfl
theorem D_16 {a0 a1 : MV} : m_do xs L 16 [a0, a1] h Q ↔ m_ok xs L 16 b_16_0 [a0, a1] [] h Q := Iff.rfl
theorem R_16 {a : Int} : m_ok xs L 16 ((pc, .ireturn) :: r) ls [vI a] h Q ↔ (a = 0 ∨ a = 1) ∧ Q (.inl (some (vI a))) h := V_iretz rfl
theorem X_16 {e : Nat} : m_cont xs L 16 pc r ls st Q (.inr e) h ↔ Q (.inr e) h := V_contx rfl
theorem F_16_9 {o : Nat} : m_ok xs L 16 ((pc, .getfield 9) :: r) ls (vR o :: st) h Q ↔ ∃ v, m_get h o 1 8 = some v ∧ m_ok xs L 16 r ls (v :: st) h Q := U_getf rfl
theorem J_16_4 : m_jmp 16 4 (62) = b_16_66 := rfl
theorem F_16_49 {o : Nat} : m_ok xs L 16 ((pc, .getfield 49) :: r) ls (vR o :: st) h Q ↔ ∃ v, m_get h o 1 3 = some v ∧ m_ok xs L 16 r ls (v :: st) h Q := U_getf rfl
theorem J_16_15 : m_jmp 16 15 (51) = b_16_66 := rfl
theorem F_16_15 {o : Nat} : m_ok xs L 16 ((pc, .getfield 15) :: r) ls (vR o :: st) h Q ↔ ∃ v, m_get h o 1 9 = some v ∧ m_ok xs L 16 r ls (v :: st) h Q := U_getf rfl
theorem J_16_22 : m_jmp 16 22 (44) = b_16_66 := rfl
theorem J_16_29 : m_jmp 16 29 (37) = b_16_66 := rfl
theorem F_16_19 {o : Nat} : m_ok xs L 16 ((pc, .getfield 19) :: r) ls (vR o :: st) h Q ↔ ∃ v, m_get h o 1 10 = some v ∧ m_ok xs L 16 r ls (v :: st) h Q := U_getf rfl
theorem J_16_44 : m_jmp 16 44 (22) = b_16_66 := rfl
theorem F_16_23 {o : Nat} : m_ok xs L 16 ((pc, .getfield 23) :: r) ls (vR o :: st) h Q ↔ ∃ v, m_get h o 1 11 = some v ∧ m_ok xs L 16 r ls (v :: st) h Q := U_getf rfl
theorem J_16_59 : m_jmp 16 59 (7) = b_16_66 := rfl
theorem J_16_63 : m_jmp 16 63 (4) = b_16_67 := rfl
theorem D_18 {a0 : MV} : m_do xs L 18 [a0] h Q ↔ m_ok xs L 18 b_18_0 [a0, vU] [] h Q := Iff.rfl
theorem R_18 : m_ok xs L 18 ((pc, .return_) :: r) ls [] h Q ↔ Q (.inl none) h := V_vret rfl
theorem X_18 {e : Nat} : m_cont xs L 18 pc r ls st Q (.inr e) h ↔ Q (.inr e) h := V_contx rfl
theorem F_18_27 {o : Nat} : m_ok xs L 18 ((pc, .getfield 27) :: r) ls (vR o :: st) h Q ↔ ∃ v, m_get h o 2 5 = some v ∧ m_ok xs L 18 r ls (v :: st) h Q := U_getf rfl
theorem F_18_31 {o : Nat} : m_ok xs L 18 ((pc, .getfield 31) :: r) ls (vR o :: st) h Q ↔ ∃ v, m_get h o 2 0 = some v ∧ m_ok xs L 18 r ls (v :: st) h Q := U_getf rfl
theorem F_18_51 {o : Nat} : m_ok xs L 18 ((pc, .getfield 51) :: r) ls (vR o :: st) h Q ↔ ∃ v, m_get h o 4 6 = some v ∧ m_ok xs L 18 r ls (v :: st) h Q := U_getf rfl
theorem J_18_11 : m_jmp 18 11 (45) = b_18_56 := rfl
theorem I_18_52 {o : Nat} : m_ok xs L 18 ((pc, .invokevirtual 52) :: r) ls (vR o :: st) h Q ↔ (m_tag h o = some 2 ∧ (st.map m_cat).sum ≤ 8 ∧ [].all (fun v => decide (m_cat v = 1)) = true) ∧ m_do xs L 22 [vR o] h (m_cont xs L 18 pc r ls st Q) := U_invv (mj := 22) (av := []) rfl rfl rfl (Nat.le_of_ble_eq_true rfl)
theorem J_18_24 : m_jmp 18 24 (21) = b_18_45 := rfl
theorem F_18_55 {o : Nat} : m_ok xs L 18 ((pc, .getfield 55) :: r) ls (vR o :: st) h Q ↔ ∃ v, m_get h o 2 4 = some v ∧ m_ok xs L 18 r ls (v :: st) h Q := U_getf rfl
theorem J_18_31 : m_jmp 18 31 (14) = b_18_45 := rfl
theorem I_18_58 {o : Nat} {a0 : MV} : m_ok xs L 18 ((pc, .invokevirtual 58) :: r) ls (a0 :: vR o :: st) h Q ↔ (m_tag h o = some 2 ∧ (st.map m_cat).sum ≤ 8 ∧ [a0].all (fun v => decide (m_cat v = 1)) = true) ∧ m_do xs L 26 [vR o, a0] h (m_cont xs L 18 pc r ls st Q) := U_invv (mj := 26) (av := [a0]) rfl rfl rfl (Nat.le_of_ble_eq_true rfl)
theorem J_18_42 : m_jmp 18 42 (-22) = b_18_20 := rfl
theorem W_18_27 {o : Nat} {v : MV} : m_ok xs L 18 ((pc, .putfield 27) :: r) ls (v :: vR o :: st) h Q ↔ (m_fit 0 v = true ∧ (m_get h o 2 5).isSome = true) ∧ m_ok xs L 18 r ls st (m_set h o 5 v) Q := U_putf rfl
theorem D_19 {a0 : MV} : m_do xs L 19 [a0] h Q ↔ m_ok xs L 19 b_19_0 [a0] [] h Q := Iff.rfl
theorem R_19 : m_ok xs L 19 ((pc, .return_) :: r) ls [] h Q ↔ Q (.inl none) h := V_vret rfl
theorem X_19 {e : Nat} : m_cont xs L 19 pc r ls st Q (.inr e) h ↔ Q (.inr e) h := V_contx rfl
theorem F_19_27 {o : Nat} : m_ok xs L 19 ((pc, .getfield 27) :: r) ls (vR o :: st) h Q ↔ ∃ v, m_get h o 2 5 = some v ∧ m_ok xs L 19 r ls (v :: st) h Q := U_getf rfl
theorem F_19_31 {o : Nat} : m_ok xs L 19 ((pc, .getfield 31) :: r) ls (vR o :: st) h Q ↔ ∃ v, m_get h o 2 0 = some v ∧ m_ok xs L 19 r ls (v :: st) h Q := U_getf rfl
theorem F_19_51 {o : Nat} : m_ok xs L 19 ((pc, .getfield 51) :: r) ls (vR o :: st) h Q ↔ ∃ v, m_get h o 4 6 = some v ∧ m_ok xs L 19 r ls (v :: st) h Q := U_getf rfl
theorem J_19_11 : m_jmp 19 11 (22) = b_19_33 := rfl
theorem I_19_52 {o : Nat} : m_ok xs L 19 ((pc, .invokevirtual 52) :: r) ls (vR o :: st) h Q ↔ (m_tag h o = some 2 ∧ (st.map m_cat).sum ≤ 8 ∧ [].all (fun v => decide (m_cat v = 1)) = true) ∧ m_do xs L 22 [vR o] h (m_cont xs L 19 pc r ls st Q) := U_invv (mj := 22) (av := []) rfl rfl rfl (Nat.le_of_ble_eq_true rfl)
theorem I_19_62 {o : Nat} : m_ok xs L 19 ((pc, .invokevirtual 62) :: r) ls (vR o :: st) h Q ↔ (m_tag h o = some 2 ∧ (st.map m_cat).sum ≤ 8 ∧ [].all (fun v => decide (m_cat v = 1)) = true) ∧ m_do xs L 23 [vR o] h (m_cont xs L 19 pc r ls st Q) := U_invv (mj := 23) (av := []) rfl rfl rfl (Nat.le_of_ble_eq_true rfl)
theorem W_19_27 {o : Nat} {v : MV} : m_ok xs L 19 ((pc, .putfield 27) :: r) ls (v :: vR o :: st) h Q ↔ (m_fit 0 v = true ∧ (m_get h o 2 5).isSome = true) ∧ m_ok xs L 19 r ls st (m_set h o 5 v) Q := U_putf rfl
theorem D_20 {a0 a1 a2 : MV} : m_do xs L 20 [a0, a1, a2] h Q ↔ m_ok xs L 20 b_20_0 [a0, a1, a2] [] h Q := Iff.rfl
theorem R_20 {a : Int} : m_ok xs L 20 ((pc, .ireturn) :: r) ls [vI a] h Q ↔ Q (.inl (some (vI a))) h := V_ireti rfl
theorem X_20 {e : Nat} : m_cont xs L 20 pc r ls st Q (.inr e) h ↔ Q (.inr e) h := V_contx rfl
theorem I_20_52 {o : Nat} : m_ok xs L 20 ((pc, .invokevirtual 52) :: r) ls (vR o :: st) h Q ↔ (m_tag h o = some 2 ∧ (st.map m_cat).sum ≤ 8 ∧ [].all (fun v => decide (m_cat v = 1)) = true) ∧ m_do xs L 22 [vR o] h (m_cont xs L 20 pc r ls st Q) := U_invv (mj := 22) (av := []) rfl rfl rfl (Nat.le_of_ble_eq_true rfl)
theorem F_20_11 {o : Nat} : m_ok xs L 20 ((pc, .getfield 11) :: r) ls (vR o :: st) h Q ↔ ∃ v, m_get h o 2 1 = some v ∧ m_ok xs L 20 r ls (v :: st) h Q := U_getf rfl
theorem W_20_65 {o : Nat} {v : MV} : m_ok xs L 20 ((pc, .putfield 65) :: r) ls (v :: vR o :: st) h Q ↔ (m_fit 0 v = true ∧ (m_get h o 5 2).isSome = true) ∧ m_ok xs L 20 r ls st (m_set h o 2 v) Q := U_putf rfl
theorem I_20_62 {o : Nat} : m_ok xs L 20 ((pc, .invokevirtual 62) :: r) ls (vR o :: st) h Q ↔ (m_tag h o = some 2 ∧ (st.map m_cat).sum ≤ 8 ∧ [].all (fun v => decide (m_cat v = 1)) = true) ∧ m_do xs L 23 [vR o] h (m_cont xs L 20 pc r ls st Q) := U_invv (mj := 23) (av := []) rfl rfl rfl (Nat.le_of_ble_eq_true rfl)
theorem I_20_68 {o : Nat} : m_ok xs L 20 ((pc, .invokevirtual 68) :: r) ls (vR o :: st) h Q ↔ (m_tag h o = some 2 ∧ (st.map m_cat).sum ≤ 8 ∧ [].all (fun v => decide (m_cat v = 1)) = true) ∧ m_do xs L 21 [vR o] h (m_cont xs L 20 pc r ls st Q) := U_invv (mj := 21) (av := []) rfl rfl rfl (Nat.le_of_ble_eq_true rfl)
theorem D_21 {a0 : MV} : m_do xs L 21 [a0] h Q ↔ m_ok xs L 21 b_21_0 [a0, vU, vU] [] h Q := Iff.rfl
theorem R_21 {a : Int} : m_ok xs L 21 ((pc, .ireturn) :: r) ls [vI a] h Q ↔ Q (.inl (some (vI a))) h := V_ireti rfl
theorem X_21 {e : Nat} : m_cont xs L 21 pc r ls st Q (.inr e) h ↔ Q (.inr e) h := V_contx rfl
theorem F_21_31 {o : Nat} : m_ok xs L 21 ((pc, .getfield 31) :: r) ls (vR o :: st) h Q ↔ ∃ v, m_get h o 2 0 = some v ∧ m_ok xs L 21 r ls (v :: st) h Q := U_getf rfl
theorem F_21_72 {o : Nat} : m_ok xs L 21 ((pc, .getfield 72) :: r) ls (vR o :: st) h Q ↔ ∃ v, m_get h o 4 5 = some v ∧ m_ok xs L 21 r ls (v :: st) h Q := U_getf rfl
theorem J_21_12 : m_jmp 21 12 (24) = b_21_36 := rfl
theorem F_21_19 {o : Nat} : m_ok xs L 21 ((pc, .getfield 19) :: r) ls (vR o :: st) h Q ↔ ∃ v, m_get h o 2 2 = some v ∧ m_ok xs L 21 r ls (v :: st) h Q := U_getf rfl
theorem I_21_75 {o : Nat} : m_ok xs L 21 ((pc, .invokevirtual 75) :: r) ls (vR o :: st) h Q ↔ (m_tag h o = some 8 ∧ (st.map m_cat).sum ≤ 8 ∧ [].all (fun v => decide (m_cat v = 1)) = true) ∧ m_do xs L 58 [vR o] h (m_cont xs L 21 pc r ls st Q) := U_invv (mj := 58) (av := []) rfl rfl rfl (Nat.le_of_ble_eq_true rfl)
theorem J_21_24 : m_jmp 21 24 (6) = b_21_30 := rfl
theorem J_21_33 : m_jmp 21 33 (-29) = b_21_4 := rfl
theorem D_22 {a0 : MV} : m_do xs L 22 [a0] h Q ↔ m_ok xs L 22 b_22_0 [a0, vU] [] h Q := Iff.rfl
theorem R_22 : m_ok xs L 22 ((pc, .return_) :: r) ls [] h Q ↔ Q (.inl none) h := V_vret rfl
theorem X_22 {e : Nat} : m_cont xs L 22 pc r ls st Q (.inr e) h ↔ Q (.inr e) h := V_contx rfl
theorem W_22_27 {o : Nat} {v : MV} : m_ok xs L 22 ((pc, .putfield 27) :: r) ls (v :: vR o :: st) h Q ↔ (m_fit 0 v = true ∧ (m_get h o 2 5).isSome = true) ∧ m_ok xs L 22 r ls st (m_set h o 5 v) Q := U_putf rfl
theorem W_22_55 {o : Nat} {v : MV} : m_ok xs L 22 ((pc, .putfield 55) :: r) ls (v :: vR o :: st) h Q ↔ (m_fit 0 v = true ∧ (m_get h o 2 4).isSome = true) ∧ m_ok xs L 22 r ls st (m_set h o 4 v) Q := U_putf rfl
theorem F_22_31 {o : Nat} : m_ok xs L 22 ((pc, .getfield 31) :: r) ls (vR o :: st) h Q ↔ ∃ v, m_get h o 2 0 = some v ∧ m_ok xs L 22 r ls (v :: st) h Q := U_getf rfl
theorem F_22_79 {o : Nat} : m_ok xs L 22 ((pc, .getfield 79) :: r) ls (vR o :: st) h Q ↔ ∃ v, m_get h o 4 3 = some v ∧ m_ok xs L 22 r ls (v :: st) h Q := U_getf rfl
theorem J_22_20 : m_jmp 22 20 (40) = b_22_60 := rfl
theorem F_22_11 {o : Nat} : m_ok xs L 22 ((pc, .getfield 11) :: r) ls (vR o :: st) h Q ↔ ∃ v, m_get h o 2 1 = some v ∧ m_ok xs L 22 r ls (v :: st) h Q := U_getf rfl
theorem I_22_82 {o : Nat} : m_ok xs L 22 ((pc, .invokevirtual 82) :: r) ls (vR o :: st) h Q ↔ (m_tag h o = some 5 ∧ (st.map m_cat).sum ≤ 8 ∧ [].all (fun v => decide (m_cat v = 1)) = true) ∧ m_do xs L 43 [vR o] h (m_cont xs L 22 pc r ls st Q) := U_invv (mj := 43) (av := []) rfl rfl rfl (Nat.le_of_ble_eq_true rfl)
theorem I_22_83 {o : Nat} : m_ok xs L 22 ((pc, .invokevirtual 83) :: r) ls (vR o :: st) h Q ↔ (m_tag h o = some 5 ∧ (st.map m_cat).sum ≤ 8 ∧ [].all (fun v => decide (m_cat v = 1)) = true) ∧ m_do xs L 44 [vR o] h (m_cont xs L 22 pc r ls st Q) := U_invv (mj := 44) (av := []) rfl rfl rfl (Nat.le_of_ble_eq_true rfl)
theorem J_22_41 : m_jmp 22 41 (13) = b_22_54 := rfl
theorem F_22_55 {o : Nat} : m_ok xs L 22 ((pc, .getfield 55) :: r) ls (vR o :: st) h Q ↔ ∃ v, m_get h o 2 4 = some v ∧ m_ok xs L 22 r ls (v :: st) h Q := U_getf rfl
theorem J_22_57 : m_jmp 22 57 (-45) = b_22_12 := rfl
theorem F_22_72 {o : Nat} : m_ok xs L 22 ((pc, .getfield 72) :: r) ls (vR o :: st) h Q ↔ ∃ v, m_get h o 4 5 = some v ∧ m_ok xs L 22 r ls (v :: st) h Q := U_getf rfl
theorem J_22_70 : m_jmp 22 70 (18) = b_22_88 := rfl
theorem F_22_19 {o : Nat} : m_ok xs L 22 ((pc, .getfield 19) :: r) ls (vR o :: st) h Q ↔ ∃ v, m_get h o 2 2 = some v ∧ m_ok xs L 22 r ls (v :: st) h Q := U_getf rfl
theorem I_22_86 {o : Nat} : m_ok xs L 22 ((pc, .invokevirtual 86) :: r) ls (vR o :: st) h Q ↔ (m_tag h o = some 8 ∧ (st.map m_cat).sum ≤ 8 ∧ [].all (fun v => decide (m_cat v = 1)) = true) ∧ m_do xs L 56 [vR o] h (m_cont xs L 22 pc r ls st Q) := U_invv (mj := 56) (av := []) rfl rfl rfl (Nat.le_of_ble_eq_true rfl)
theorem J_22_85 : m_jmp 22 85 (-23) = b_22_62 := rfl
theorem F_22_23 {o : Nat} : m_ok xs L 22 ((pc, .getfield 23) :: r) ls (vR o :: st) h Q ↔ ∃ v, m_get h o 2 3 = some v ∧ m_ok xs L 22 r ls (v :: st) h Q := U_getf rfl
theorem I_22_87 {a0 a1 : MV} : m_ok xs L 22 ((pc, .invokestatic 87) :: r) ls (a1 :: a0 :: st) h Q ↔ ((st.map m_cat).sum ≤ 8 ∧ [a1, a0].all (fun v => decide (m_cat v = 1)) = true) ∧ m_do xs L 153 [a0, a1] h (m_cont xs L 22 pc r ls st Q) := U_invs (mj := 153) (av := [a1, a0]) rfl rfl rfl (Nat.le_of_ble_eq_true rfl)
theorem D_23 {a0 : MV} : m_do xs L 23 [a0] h Q ↔ m_ok xs L 23 b_23_0 [a0, vU, vU] [] h Q := Iff.rfl
theorem R_23 : m_ok xs L 23 ((pc, .return_) :: r) ls [] h Q ↔ Q (.inl none) h := V_vret rfl
theorem X_23 {e : Nat} : m_cont xs L 23 pc r ls st Q (.inr e) h ↔ Q (.inr e) h := V_contx rfl
theorem I_23_93 {o : Nat} {a0 : MV} : m_ok xs L 23 ((pc, .invokevirtual 93) :: r) ls (a0 :: vR o :: st) h Q ↔ (m_tag h o = some 2 ∧ (st.map m_cat).sum ≤ 8 ∧ [a0].all (fun v => decide (m_cat v = 1)) = true) ∧ m_do xs L 24 [vR o, a0] h (m_cont xs L 23 pc r ls st Q) := U_invv (mj := 24) (av := [a0]) rfl rfl rfl (Nat.le_of_ble_eq_true rfl)
theorem J_23_12 : m_jmp 23 12 (27) = b_23_39 := rfl
theorem J_23_19 : m_jmp 23 19 (20) = b_23_39 := rfl
theorem I_23_58 {o : Nat} {a0 : MV} : m_ok xs L 23 ((pc, .invokevirtual 58) :: r) ls (a0 :: vR o :: st) h Q ↔ (m_tag h o = some 2 ∧ (st.map m_cat).sum ≤ 8 ∧ [a0].all (fun v => decide (m_cat v = 1)) = true) ∧ m_do xs L 26 [vR o, a0] h (m_cont xs L 23 pc r ls st Q) := U_invv (mj := 26) (av := [a0]) rfl rfl rfl (Nat.le_of_ble_eq_true rfl)
theorem J_23_36 : m_jmp 23 36 (-28) = b_23_8 := rfl
theorem D_24 {a0 a1 : MV} : m_do xs L 24 [a0, a1] h Q ↔ m_ok xs L 24 b_24_0 [a0, a1, vU, vU, vU] [] h Q := Iff.rfl
theorem R_24 {a : Int} : m_ok xs L 24 ((pc, .ireturn) :: r) ls [vI a] h Q ↔ Q (.inl (some (vI a))) h := V_ireti rfl
theorem X_24 {e : Nat} : m_cont xs L 24 pc r ls st Q (.inr e) h ↔ Q (.inr e) h := V_contx rfl
theorem F_24_31 {o : Nat} : m_ok xs L 24 ((pc, .getfield 31) :: r) ls (vR o :: st) h Q ↔ ∃ v, m_get h o 2 0 = some v ∧ m_ok xs L 24 r ls (v :: st) h Q := U_getf rfl
theorem F_24_79 {o : Nat} : m_ok xs L 24 ((pc, .getfield 79) :: r) ls (vR o :: st) h Q ↔ ∃ v, m_get h o 4 3 = some v ∧ m_ok xs L 24 r ls (v :: st) h Q := U_getf rfl
theorem J_24_14 : m_jmp 24 14 (60) = b_24_74 := rfl
theorem F_24_11 {o : Nat} : m_ok xs L 24 ((pc, .getfield 11) :: r) ls (vR o :: st) h Q ↔ ∃ v, m_get h o 2 1 = some v ∧ m_ok xs L 24 r ls (v :: st) h Q := U_getf rfl
theorem F_24_97 {o : Nat} : m_ok xs L 24 ((pc, .getfield 97) :: r) ls (vR o :: st) h Q ↔ ∃ v, m_get h o 5 4 = some v ∧ m_ok xs L 24 r ls (v :: st) h Q := U_getf rfl
theorem I_24_100 {a0 a1 a2 : MV} : m_ok xs L 24 ((pc, .invokestatic 100) :: r) ls (a2 :: a1 :: a0 :: st) h Q ↔ ((st.map m_cat).sum ≤ 8 ∧ [a2, a1, a0].all (fun v => decide (m_cat v = 1)) = true) ∧ m_do xs L 25 [a0, a1, a2] h (m_cont xs L 24 pc r ls st Q) := U_invs (mj := 25) (av := [a2, a1, a0]) rfl rfl rfl (Nat.le_of_ble_eq_true rfl)
theorem F_24_104 {o : Nat} : m_ok xs L 24 ((pc, .getfield 104) :: r) ls (vR o :: st) h Q ↔ ∃ v, m_get h o 5 5 = some v ∧ m_ok xs L 24 r ls (v :: st) h Q := U_getf rfl
theorem C_24_107 : m_ok xs L 24 ((pc, .ldc 107) :: r) ls st h Q ↔ m_ok xs L 24 r ls (vI 1000000 :: st) h Q := V_ldc rfl
theorem J_24_43 : m_jmp 24 43 (25) = b_24_68 := rfl
theorem I_24_108 {o : Nat} : m_ok xs L 24 ((pc, .invokevirtual 108) :: r) ls (vR o :: st) h Q ↔ (m_tag h o = some 5 ∧ (st.map m_cat).sum ≤ 8 ∧ [].all (fun v => decide (m_cat v = 1)) = true) ∧ m_do xs L 45 [vR o] h (m_cont xs L 24 pc r ls st Q) := U_invv (mj := 45) (av := []) rfl rfl rfl (Nat.le_of_ble_eq_true rfl)
theorem J_24_71 : m_jmp 24 71 (-65) = b_24_6 := rfl
theorem F_24_72 {o : Nat} : m_ok xs L 24 ((pc, .getfield 72) :: r) ls (vR o :: st) h Q ↔ ∃ v, m_get h o 4 5 = some v ∧ m_ok xs L 24 r ls (v :: st) h Q := U_getf rfl
theorem J_24_84 : m_jmp 24 84 (24) = b_24_108 := rfl
theorem F_24_19 {o : Nat} : m_ok xs L 24 ((pc, .getfield 19) :: r) ls (vR o :: st) h Q ↔ ∃ v, m_get h o 2 2 = some v ∧ m_ok xs L 24 r ls (v :: st) h Q := U_getf rfl
theorem F_24_111 {o : Nat} : m_ok xs L 24 ((pc, .getfield 111) :: r) ls (vR o :: st) h Q ↔ ∃ v, m_get h o 8 2 = some v ∧ m_ok xs L 24 r ls (v :: st) h Q := U_getf rfl
theorem J_24_105 : m_jmp 24 105 (-29) = b_24_76 := rfl
theorem D_25 {a0 a1 a2 : MV} : m_do xs L 25 [a0, a1, a2] h Q ↔ m_ok xs L 25 b_25_0 [a0, a1, a2] [] h Q := Iff.rfl
theorem R_25 {a : Int} : m_ok xs L 25 ((pc, .ireturn) :: r) ls [vI a] h Q ↔ Q (.inl (some (vI a))) h := V_ireti rfl
theorem X_25 {e : Nat} : m_cont xs L 25 pc r ls st Q (.inr e) h ↔ Q (.inr e) h := V_contx rfl
theorem J_25_2 : m_jmp 25 2 (12) = b_25_14 := rfl
theorem J_25_7 : m_jmp 25 7 (7) = b_25_14 := rfl
theorem J_25_11 : m_jmp 25 11 (4) = b_25_15 := rfl
theorem D_26 {a0 a1 : MV} : m_do xs L 26 [a0, a1] h Q ↔ m_ok xs L 26 b_26_0 [a0, a1, vU] [] h Q := Iff.rfl
theorem R_26 : m_ok xs L 26 ((pc, .return_) :: r) ls [] h Q ↔ Q (.inl none) h := V_vret rfl
theorem X_26 {e : Nat} : m_cont xs L 26 pc r ls st Q (.inr e) h ↔ Q (.inr e) h := V_contx rfl
theorem F_26_31 {o : Nat} : m_ok xs L 26 ((pc, .getfield 31) :: r) ls (vR o :: st) h Q ↔ ∃ v, m_get h o 2 0 = some v ∧ m_ok xs L 26 r ls (v :: st) h Q := U_getf rfl
theorem F_26_79 {o : Nat} : m_ok xs L 26 ((pc, .getfield 79) :: r) ls (vR o :: st) h Q ↔ ∃ v, m_get h o 4 3 = some v ∧ m_ok xs L 26 r ls (v :: st) h Q := U_getf rfl
theorem J_26_10 : m_jmp 26 10 (33) = b_26_43 := rfl
theorem F_26_11 {o : Nat} : m_ok xs L 26 ((pc, .getfield 11) :: r) ls (vR o :: st) h Q ↔ ∃ v, m_get h o 2 1 = some v ∧ m_ok xs L 26 r ls (v :: st) h Q := U_getf rfl
theorem F_26_97 {o : Nat} : m_ok xs L 26 ((pc, .getfield 97) :: r) ls (vR o :: st) h Q ↔ ∃ v, m_get h o 5 4 = some v ∧ m_ok xs L 26 r ls (v :: st) h Q := U_getf rfl
theorem J_26_23 : m_jmp 26 23 (14) = b_26_37 := rfl
theorem I_26_114 {o : Nat} {a0 a1 : MV} : m_ok xs L 26 ((pc, .invokevirtual 114) :: r) ls (a1 :: a0 :: vR o :: st) h Q ↔ (m_tag h o = some 2 ∧ (st.map m_cat).sum ≤ 8 ∧ [a1, a0].all (fun v => decide (m_cat v = 1)) = true) ∧ m_do xs L 27 [vR o, a0, a1] h (m_cont xs L 26 pc r ls st Q) := U_invv (mj := 27) (av := [a1, a0]) rfl rfl rfl (Nat.le_of_ble_eq_true rfl)
theorem J_26_40 : m_jmp 26 40 (-38) = b_26_2 := rfl
theorem J_26_53 : m_jmp 26 53 (47) = b_26_100 := rfl
theorem F_26_104 {o : Nat} : m_ok xs L 26 ((pc, .getfield 104) :: r) ls (vR o :: st) h Q ↔ ∃ v, m_get h o 5 5 = some v ∧ m_ok xs L 26 r ls (v :: st) h Q := U_getf rfl
theorem J_26_66 : m_jmp 26 66 (28) = b_26_94 := rfl
theorem I_26_118 {o : Nat} {a0 a1 : MV} : m_ok xs L 26 ((pc, .invokevirtual 118) :: r) ls (a1 :: a0 :: vR o :: st) h Q ↔ (m_tag h o = some 2 ∧ (st.map m_cat).sum ≤ 8 ∧ [a1, a0].all (fun v => decide (m_cat v = 1)) = true) ∧ m_do xs L 29 [vR o, a0, a1] h (m_cont xs L 26 pc r ls st Q) := U_invv (mj := 29) (av := [a1, a0]) rfl rfl rfl (Nat.le_of_ble_eq_true rfl)
theorem J_26_80 : m_jmp 26 80 (14) = b_26_94 := rfl
theorem I_26_122 {o : Nat} {a0 a1 : MV} : m_ok xs L 26 ((pc, .invokevirtual 122) :: r) ls (a1 :: a0 :: vR o :: st) h Q ↔ (m_tag h o = some 2 ∧ (st.map m_cat).sum ≤ 8 ∧ [a1, a0].all (fun v => decide (m_cat v = 1)) = true) ∧ m_do xs L 30 [vR o, a0, a1] h (m_cont xs L 26 pc r ls st Q) := U_invv (mj := 30) (av := [a1, a0]) rfl rfl rfl (Nat.le_of_ble_eq_true rfl)
theorem J_26_97 : m_jmp 26 97 (-52) = b_26_45 := rfl
theorem D_27 {a0 a1 a2 : MV} : m_do xs L 27 [a0, a1, a2] h Q ↔ m_ok xs L 27 b_27_0 [a0, a1, a2, vU, vU, vU, vU] [] h Q := Iff.rfl
theorem R_27 : m_ok xs L 27 ((pc, .return_) :: r) ls [] h Q ↔ Q (.inl none) h := V_vret rfl
theorem X_27 {e : Nat} : m_cont xs L 27 pc r ls st Q (.inr e) h ↔ Q (.inr e) h := V_contx rfl
theorem I_27_83 {o : Nat} : m_ok xs L 27 ((pc, .invokevirtual 83) :: r) ls (vR o :: st) h Q ↔ (m_tag h o = some 5 ∧ (st.map m_cat).sum ≤ 8 ∧ [].all (fun v => decide (m_cat v = 1)) = true) ∧ m_do xs L 44 [vR o] h (m_cont xs L 27 pc r ls st Q) := U_invv (mj := 44) (av := []) rfl rfl rfl (Nat.le_of_ble_eq_true rfl)
theorem J_27_4 : m_jmp 27 4 (4) = b_27_8 := rfl
theorem I_27_125 {o : Nat} {a0 : MV} : m_ok xs L 27 ((pc, .invokevirtual 125) :: r) ls (a0 :: vR o :: st) h Q ↔ (m_tag h o = some 5 ∧ (st.map m_cat).sum ≤ 8 ∧ [a0].all (fun v => decide (m_cat v = 1)) = true) ∧ m_do xs L 50 [vR o, a0] h (m_cont xs L 27 pc r ls st Q) := U_invv (mj := 50) (av := [a0]) rfl rfl rfl (Nat.le_of_ble_eq_true rfl)
theorem F_27_128 {o : Nat} : m_ok xs L 27 ((pc, .getfield 128) :: r) ls (vR o :: st) h Q ↔ ∃ v, m_get h o 5 1 = some v ∧ m_ok xs L 27 r ls (v :: st) h Q := U_getf rfl
theorem F_27_132 {o : Nat} : m_ok xs L 27 ((pc, .getfield 132) :: r) ls (vR o :: st) h Q ↔ ∃ v, m_get h o 7 3 = some v ∧ m_ok xs L 27 r ls (v :: st) h Q := U_getf rfl
theorem F_27_137 {o : Nat} : m_ok xs L 27 ((pc, .getfield 137) :: r) ls (vR o :: st) h Q ↔ ∃ v, m_get h o 5 3 = some v ∧ m_ok xs L 27 r ls (v :: st) h Q := U_getf rfl
theorem F_27_140 {o : Nat} : m_ok xs L 27 ((pc, .getfield 140) :: r) ls (vR o :: st) h Q ↔ ∃ v, m_get h o 5 7 = some v ∧ m_ok xs L 27 r ls (v :: st) h Q := U_getf rfl
theorem J_27_38 : m_jmp 27 38 (46) = b_27_84 := rfl
theorem F_27_143 {o : Nat} : m_ok xs L 27 ((pc, .getfield 143) :: r) ls (vR o :: st) h Q ↔ ∃ v, m_get h o 5 6 = some v ∧ m_ok xs L 27 r ls (v :: st) h Q := U_getf rfl
theorem F_27_19 {o : Nat} : m_ok xs L 27 ((pc, .getfield 19) :: r) ls (vR o :: st) h Q ↔ ∃ v, m_get h o 2 2 = some v ∧ m_ok xs L 27 r ls (v :: st) h Q := U_getf rfl
theorem I_27_146 {a0 a1 a2 a3 : MV} : m_ok xs L 27 ((pc, .invokestatic 146) :: r) ls (a3 :: a2 :: a1 :: a0 :: st) h Q ↔ ((st.map m_cat).sum ≤ 8 ∧ [a3, a2, a1, a0].all (fun v => decide (m_cat v = 1)) = true) ∧ m_do xs L 28 [a0, a1, a2, a3] h (m_cont xs L 27 pc r ls st Q) := U_invs (mj := 28) (av := [a3, a2, a1, a0]) rfl rfl rfl (Nat.le_of_ble_eq_true rfl)
theorem J_27_63 : m_jmp 27 63 (15) = b_27_78 := rfl
theorem J_27_81 : m_jmp 27 81 (-49) = b_27_32 := rfl
theorem W_27_140 {o : Nat} {v : MV} : m_ok xs L 27 ((pc, .putfield 140) :: r) ls (v :: vR o :: st) h Q ↔ (m_fit 0 v = true ∧ (m_get h o 5 7).isSome = true) ∧ m_ok xs L 27 r ls st (m_set h o 7 v) Q := U_putf rfl
theorem J_27_94 : m_jmp 27 94 (13) = b_27_107 := rfl
theorem F_27_55 {o : Nat} : m_ok xs L 27 ((pc, .getfield 55) :: r) ls (vR o :: st) h Q ↔ ∃ v, m_get h o 2 4 = some v ∧ m_ok xs L 27 r ls (v :: st) h Q := U_getf rfl
theorem W_27_55 {o : Nat} {v : MV} : m_ok xs L 27 ((pc, .putfield 55) :: r) ls (v :: vR o :: st) h Q ↔ (m_fit 0 v = true ∧ (m_get h o 2 4).isSome = true) ∧ m_ok xs L 27 r ls st (m_set h o 4 v) Q := U_putf rfl
theorem D_28 {a0 a1 a2 a3 : MV} : m_do xs L 28 [a0, a1, a2, a3] h Q ↔ m_ok xs L 28 b_28_0 [a0, a1, a2, a3, vU] [] h Q := Iff.rfl
theorem R_28 {a : Int} : m_ok xs L 28 ((pc, .ireturn) :: r) ls [vI a] h Q ↔ (a = 0 ∨ a = 1) ∧ Q (.inl (some (vI a))) h := V_iretz rfl
theorem X_28 {e : Nat} : m_cont xs L 28 pc r ls st Q (.inr e) h ↔ Q (.inr e) h := V_contx rfl
theorem I_28_150 {o : Nat} : m_ok xs L 28 ((pc, .invokevirtual 150) :: r) ls (vR o :: st) h Q ↔ (m_tag h o = some 8 ∧ (st.map m_cat).sum ≤ 8 ∧ [].all (fun v => decide (m_cat v = 1)) = true) ∧ m_do xs L 57 [vR o] h (m_cont xs L 28 pc r ls st Q) := U_invv (mj := 57) (av := []) rfl rfl rfl (Nat.le_of_ble_eq_true rfl)
theorem J_28_4 : m_jmp 28 4 (23) = b_28_27 := rfl
theorem F_28_153 {o : Nat} : m_ok xs L 28 ((pc, .getfield 153) :: r) ls (vR o :: st) h Q ↔ ∃ v, m_get h o 8 0 = some v ∧ m_ok xs L 28 r ls (v :: st) h Q := U_getf rfl
theorem F_28_157 {o : Nat} : m_ok xs L 28 ((pc, .getfield 157) :: r) ls (vR o :: st) h Q ↔ ∃ v, m_get h o 1 12 = some v ∧ m_ok xs L 28 r ls (v :: st) h Q := U_getf rfl
theorem F_28_162 {o : Nat} : m_ok xs L 28 ((pc, .getfield 162) :: r) ls (vR o :: st) h Q ↔ ∃ v, m_get h o 8 3 = some v ∧ m_ok xs L 28 r ls (v :: st) h Q := U_getf rfl
theorem J_28_20 : m_jmp 28 20 (7) = b_28_27 := rfl
theorem J_28_24 : m_jmp 28 24 (4) = b_28_28 := rfl
theorem J_28_32 : m_jmp 28 32 (12) = b_28_44 := rfl
theorem I_28_83 {o : Nat} : m_ok xs L 28 ((pc, .invokevirtual 83) :: r) ls (vR o :: st) h Q ↔ (m_tag h o = some 5 ∧ (st.map m_cat).sum ≤ 8 ∧ [].all (fun v => decide (m_cat v = 1)) = true) ∧ m_do xs L 44 [vR o] h (m_cont xs L 28 pc r ls st Q) := U_invv (mj := 44) (av := []) rfl rfl rfl (Nat.le_of_ble_eq_true rfl)
theorem J_28_39 : m_jmp 28 39 (5) = b_28_44 := rfl
theorem I_28_165 {o : Nat} {a0 a1 : MV} : m_ok xs L 28 ((pc, .invokevirtual 165) :: r) ls (a1 :: a0 :: vR o :: st) h Q ↔ (m_tag h o = some 8 ∧ (st.map m_cat).sum ≤ 8 ∧ [a1, a0].all (fun v => decide (m_cat v = 1)) = true) ∧ m_do xs L 61 [vR o, a0, a1] h (m_cont xs L 28 pc r ls st Q) := U_invv (mj := 61) (av := [a1, a0]) rfl rfl rfl (Nat.le_of_ble_eq_true rfl)
theorem J_28_52 : m_jmp 28 52 (13) = b_28_65 := rfl
theorem W_28_162 {o : Nat} {v : MV} : m_ok xs L 28 ((pc, .putfield 162) :: r) ls (v :: vR o :: st) h Q ↔ (m_fit 0 v = true ∧ (m_get h o 8 3).isSome = true) ∧ m_ok xs L 28 r ls st (m_set h o 3 v) Q := U_putf rfl
theorem D_29 {a0 a1 a2 : MV} : m_do xs L 29 [a0, a1, a2] h Q ↔ m_ok xs L 29 b_29_0 [a0, a1, a2, vU, vU] [] h Q := Iff.rfl
theorem R_29 {a : Int} : m_ok xs L 29 ((pc, .ireturn) :: r) ls [vI a] h Q ↔ (a = 0 ∨ a = 1) ∧ Q (.inl (some (vI a))) h := V_iretz rfl
theorem X_29 {e : Nat} : m_cont xs L 29 pc r ls st Q (.inr e) h ↔ Q (.inr e) h := V_contx rfl
theorem I_29_108 {o : Nat} : m_ok xs L 29 ((pc, .invokevirtual 108) :: r) ls (vR o :: st) h Q ↔ (m_tag h o = some 5 ∧ (st.map m_cat).sum ≤ 8 ∧ [].all (fun v => decide (m_cat v = 1)) = true) ∧ m_do xs L 45 [vR o] h (m_cont xs L 29 pc r ls st Q) := U_invv (mj := 45) (av := []) rfl rfl rfl (Nat.le_of_ble_eq_true rfl)
theorem J_29_5 : m_jmp 29 5 (5) = b_29_10 := rfl
theorem F_29_128 {o : Nat} : m_ok xs L 29 ((pc, .getfield 128) :: r) ls (vR o :: st) h Q ↔ ∃ v, m_get h o 5 1 = some v ∧ m_ok xs L 29 r ls (v :: st) h Q := U_getf rfl
theorem F_29_132 {o : Nat} : m_ok xs L 29 ((pc, .getfield 132) :: r) ls (vR o :: st) h Q ↔ ∃ v, m_get h o 7 3 = some v ∧ m_ok xs L 29 r ls (v :: st) h Q := U_getf rfl
theorem F_29_137 {o : Nat} : m_ok xs L 29 ((pc, .getfield 137) :: r) ls (vR o :: st) h Q ↔ ∃ v, m_get h o 5 3 = some v ∧ m_ok xs L 29 r ls (v :: st) h Q := U_getf rfl
theorem F_29_31 {o : Nat} : m_ok xs L 29 ((pc, .getfield 31) :: r) ls (vR o :: st) h Q ↔ ∃ v, m_get h o 2 0 = some v ∧ m_ok xs L 29 r ls (v :: st) h Q := U_getf rfl
theorem F_29_72 {o : Nat} : m_ok xs L 29 ((pc, .getfield 72) :: r) ls (vR o :: st) h Q ↔ ∃ v, m_get h o 4 5 = some v ∧ m_ok xs L 29 r ls (v :: st) h Q := U_getf rfl
theorem J_29_35 : m_jmp 29 35 (30) = b_29_65 := rfl
theorem F_29_19 {o : Nat} : m_ok xs L 29 ((pc, .getfield 19) :: r) ls (vR o :: st) h Q ↔ ∃ v, m_get h o 2 2 = some v ∧ m_ok xs L 29 r ls (v :: st) h Q := U_getf rfl
theorem F_29_169 {o : Nat} : m_ok xs L 29 ((pc, .getfield 169) :: r) ls (vR o :: st) h Q ↔ ∃ v, m_get h o 5 0 = some v ∧ m_ok xs L 29 r ls (v :: st) h Q := U_getf rfl
theorem I_29_172 {o : Nat} {a0 a1 a2 : MV} : m_ok xs L 29 ((pc, .invokevirtual 172) :: r) ls (a2 :: a1 :: a0 :: vR o :: st) h Q ↔ (m_tag h o = some 8 ∧ (st.map m_cat).sum ≤ 8 ∧ [a2, a1, a0].all (fun v => decide (m_cat v = 1)) = true) ∧ m_do xs L 60 [vR o, a0, a1, a2] h (m_cont xs L 29 pc r ls st Q) := U_invv (mj := 60) (av := [a2, a1, a0]) rfl rfl rfl (Nat.le_of_ble_eq_true rfl)
theorem J_29_54 : m_jmp 29 54 (5) = b_29_59 := rfl
theorem J_29_62 : m_jmp 29 62 (-36) = b_29_26 := rfl
theorem D_30 {a0 a1 a2 : MV} : m_do xs L 30 [a0, a1, a2] h Q ↔ m_ok xs L 30 b_30_0 [a0, a1, a2, vU, vU, vU, vU, vU] [] h Q := Iff.rfl
theorem R_30 : m_ok xs L 30 ((pc, .return_) :: r) ls [] h Q ↔ Q (.inl none) h := V_vret rfl
theorem X_30 {e : Nat} : m_cont xs L 30 pc r ls st Q (.inr e) h ↔ Q (.inr e) h := V_contx rfl
theorem I_30_83 {o : Nat} : m_ok xs L 30 ((pc, .invokevirtual 83) :: r) ls (vR o :: st) h Q ↔ (m_tag h o = some 5 ∧ (st.map m_cat).sum ≤ 8 ∧ [].all (fun v => decide (m_cat v = 1)) = true) ∧ m_do xs L 44 [vR o] h (m_cont xs L 30 pc r ls st Q) := U_invv (mj := 44) (av := []) rfl rfl rfl (Nat.le_of_ble_eq_true rfl)
theorem J_30_4 : m_jmp 30 4 (4) = b_30_8 := rfl
theorem F_30_137 {o : Nat} : m_ok xs L 30 ((pc, .getfield 137) :: r) ls (vR o :: st) h Q ↔ ∃ v, m_get h o 5 3 = some v ∧ m_ok xs L 30 r ls (v :: st) h Q := U_getf rfl
theorem F_30_31 {o : Nat} : m_ok xs L 30 ((pc, .getfield 31) :: r) ls (vR o :: st) h Q ↔ ∃ v, m_get h o 2 0 = some v ∧ m_ok xs L 30 r ls (v :: st) h Q := U_getf rfl
theorem F_30_176 {o : Nat} : m_ok xs L 30 ((pc, .getfield 176) :: r) ls (vR o :: st) h Q ↔ ∃ v, m_get h o 4 0 = some v ∧ m_ok xs L 30 r ls (v :: st) h Q := U_getf rfl
theorem F_30_128 {o : Nat} : m_ok xs L 30 ((pc, .getfield 128) :: r) ls (vR o :: st) h Q ↔ ∃ v, m_get h o 5 1 = some v ∧ m_ok xs L 30 r ls (v :: st) h Q := U_getf rfl
theorem F_30_132 {o : Nat} : m_ok xs L 30 ((pc, .getfield 132) :: r) ls (vR o :: st) h Q ↔ ∃ v, m_get h o 7 3 = some v ∧ m_ok xs L 30 r ls (v :: st) h Q := U_getf rfl
theorem I_30_180 {o : Nat} {a0 a1 a2 a3 : MV} : m_ok xs L 30 ((pc, .invokevirtual 180) :: r) ls (a3 :: a2 :: a1 :: a0 :: vR o :: st) h Q ↔ (m_tag h o = some 2 ∧ (st.map m_cat).sum ≤ 8 ∧ [a3, a2, a1, a0].all (fun v => decide (m_cat v = 1)) = true) ∧ m_do xs L 31 [vR o, a0, a1, a2, a3] h (m_cont xs L 30 pc r ls st Q) := U_invv (mj := 31) (av := [a3, a2, a1, a0]) rfl rfl rfl (Nat.le_of_ble_eq_true rfl)
theorem F_30_140 {o : Nat} : m_ok xs L 30 ((pc, .getfield 140) :: r) ls (vR o :: st) h Q ↔ ∃ v, m_get h o 5 7 = some v ∧ m_ok xs L 30 r ls (v :: st) h Q := U_getf rfl
theorem I_30_184 {o : Nat} {a0 a1 a2 a3 : MV} : m_ok xs L 30 ((pc, .invokevirtual 184) :: r) ls (a3 :: a2 :: a1 :: a0 :: vR o :: st) h Q ↔ (m_tag h o = some 2 ∧ (st.map m_cat).sum ≤ 8 ∧ [a3, a2, a1, a0].all (fun v => decide (m_cat v = 1)) = true) ∧ m_do xs L 32 [vR o, a0, a1, a2, a3] h (m_cont xs L 30 pc r ls st Q) := U_invv (mj := 32) (av := [a3, a2, a1, a0]) rfl rfl rfl (Nat.le_of_ble_eq_true rfl)
theorem I_30_187 {o : Nat} {a0 a1 : MV} : m_ok xs L 30 ((pc, .invokevirtual 187) :: r) ls (a1 :: a0 :: vR o :: st) h Q ↔ (m_tag h o = some 2 ∧ (st.map m_cat).sum ≤ 8 ∧ [a1, a0].all (fun v => decide (m_cat v = 1)) = true) ∧ m_do xs L 34 [vR o, a0, a1] h (m_cont xs L 30 pc r ls st Q) := U_invv (mj := 34) (av := [a1, a0]) rfl rfl rfl (Nat.le_of_ble_eq_true rfl)
theorem I_30_190 {o : Nat} : m_ok xs L 30 ((pc, .invokevirtual 190) :: r) ls (vR o :: st) h Q ↔ (m_tag h o = some 5 ∧ (st.map m_cat).sum ≤ 8 ∧ [].all (fun v => decide (m_cat v = 1)) = true) ∧ m_do xs L 48 [vR o] h (m_cont xs L 30 pc r ls st Q) := U_invv (mj := 48) (av := []) rfl rfl rfl (Nat.le_of_ble_eq_true rfl)
theorem F_30_193 {o : Nat} : m_ok xs L 30 ((pc, .getfield 193) :: r) ls (vR o :: st) h Q ↔ ∃ v, m_get h o 6 0 = some v ∧ m_ok xs L 30 r ls (v :: st) h Q := U_getf rfl
theorem F_30_198 {o : Nat} : m_ok xs L 30 ((pc, .getfield 198) :: r) ls (vR o :: st) h Q ↔ ∃ v, m_get h o 7 7 = some v ∧ m_ok xs L 30 r ls (v :: st) h Q := U_getf rfl
theorem I_30_201 {o : Nat} {a0 a1 a2 a3 : MV} : m_ok xs L 30 ((pc, .invokevirtual 201) :: r) ls (a3 :: a2 :: a1 :: a0 :: vR o :: st) h Q ↔ (m_tag h o = some 2 ∧ (st.map m_cat).sum ≤ 8 ∧ [a3, a2, a1, a0].all (fun v => decide (m_cat v = 1)) = true) ∧ m_do xs L 36 [vR o, a0, a1, a2, a3] h (m_cont xs L 30 pc r ls st Q) := U_invv (mj := 36) (av := [a3, a2, a1, a0]) rfl rfl rfl (Nat.le_of_ble_eq_true rfl)
theorem F_30_205 {o : Nat} : m_ok xs L 30 ((pc, .getfield 205) :: r) ls (vR o :: st) h Q ↔ ∃ v, m_get h o 6 1 = some v ∧ m_ok xs L 30 r ls (v :: st) h Q := U_getf rfl
theorem J_30_123 : m_jmp 30 123 (7) = b_30_130 := rfl
theorem J_30_127 : m_jmp 30 127 (5) = b_30_132 := rfl
theorem F_30_208 {o : Nat} : m_ok xs L 30 ((pc, .getfield 208) :: r) ls (vR o :: st) h Q ↔ ∃ v, m_get h o 7 5 = some v ∧ m_ok xs L 30 r ls (v :: st) h Q := U_getf rfl
theorem F_30_211 {o : Nat} : m_ok xs L 30 ((pc, .getfield 211) :: r) ls (vR o :: st) h Q ↔ ∃ v, m_get h o 7 6 = some v ∧ m_ok xs L 30 r ls (v :: st) h Q := U_getf rfl
theorem I_30_214 {o : Nat} {a0 a1 : MV} : m_ok xs L 30 ((pc, .invokevirtual 214) :: r) ls (a1 :: a0 :: vR o :: st) h Q ↔ (m_tag h o = some 5 ∧ (st.map m_cat).sum ≤ 8 ∧ [a1, a0].all (fun v => decide (m_cat v = 1)) = true) ∧ m_do xs L 49 [vR o, a0, a1] h (m_cont xs L 30 pc r ls st Q) := U_invv (mj := 49) (av := [a1, a0]) rfl rfl rfl (Nat.le_of_ble_eq_true rfl)
theorem D_31 {a0 a1 a2 a3 a4 : MV} : m_do xs L 31 [a0, a1, a2, a3, a4] h Q ↔ m_ok xs L 31 b_31_0 [a0, a1, a2, a3, a4, vU, vU, vU] [] h Q := Iff.rfl
theorem R_31 : m_ok xs L 31 ((pc, .return_) :: r) ls [] h Q ↔ Q (.inl none) h := V_vret rfl
theorem X_31 {e : Nat} : m_cont xs L 31 pc r ls st Q (.inr e) h ↔ Q (.inr e) h := V_contx rfl
theorem F_31_140 {o : Nat} : m_ok xs L 31 ((pc, .getfield 140) :: r) ls (vR o :: st) h Q ↔ ∃ v, m_get h o 5 7 = some v ∧ m_ok xs L 31 r ls (v :: st) h Q := U_getf rfl
theorem J_31_12 : m_jmp 31 12 (75) = b_31_87 := rfl
theorem F_31_143 {o : Nat} : m_ok xs L 31 ((pc, .getfield 143) :: r) ls (vR o :: st) h Q ↔ ∃ v, m_get h o 5 6 = some v ∧ m_ok xs L 31 r ls (v :: st) h Q := U_getf rfl
theorem F_31_31 {o : Nat} : m_ok xs L 31 ((pc, .getfield 31) :: r) ls (vR o :: st) h Q ↔ ∃ v, m_get h o 2 0 = some v ∧ m_ok xs L 31 r ls (v :: st) h Q := U_getf rfl
theorem F_31_44 {o : Nat} : m_ok xs L 31 ((pc, .getfield 44) :: r) ls (vR o :: st) h Q ↔ ∃ v, m_get h o 4 4 = some v ∧ m_ok xs L 31 r ls (v :: st) h Q := U_getf rfl
theorem I_31_217 {o : Nat} {a0 a1 : MV} : m_ok xs L 31 ((pc, .invokevirtual 217) :: r) ls (a1 :: a0 :: vR o :: st) h Q ↔ (m_tag h o = some 1 ∧ (st.map m_cat).sum ≤ 8 ∧ [a1, a0].all (fun v => decide (m_cat v = 1)) = true) ∧ m_do xs L 15 [vR o, a0, a1] h (m_cont xs L 31 pc r ls st Q) := U_invv (mj := 15) (av := [a1, a0]) rfl rfl rfl (Nat.le_of_ble_eq_true rfl)
theorem J_31_39 : m_jmp 31 39 (18) = b_31_57 := rfl
theorem J_31_54 : m_jmp 31 54 (27) = b_31_81 := rfl
theorem F_31_19 {o : Nat} : m_ok xs L 31 ((pc, .getfield 19) :: r) ls (vR o :: st) h Q ↔ ∃ v, m_get h o 2 2 = some v ∧ m_ok xs L 31 r ls (v :: st) h Q := U_getf rfl
theorem F_31_128 {o : Nat} : m_ok xs L 31 ((pc, .getfield 128) :: r) ls (vR o :: st) h Q ↔ ∃ v, m_get h o 5 1 = some v ∧ m_ok xs L 31 r ls (v :: st) h Q := U_getf rfl
theorem F_31_132 {o : Nat} : m_ok xs L 31 ((pc, .getfield 132) :: r) ls (vR o :: st) h Q ↔ ∃ v, m_get h o 7 3 = some v ∧ m_ok xs L 31 r ls (v :: st) h Q := U_getf rfl
theorem F_31_137 {o : Nat} : m_ok xs L 31 ((pc, .getfield 137) :: r) ls (vR o :: st) h Q ↔ ∃ v, m_get h o 5 3 = some v ∧ m_ok xs L 31 r ls (v :: st) h Q := U_getf rfl
theorem I_31_165 {o : Nat} {a0 a1 : MV} : m_ok xs L 31 ((pc, .invokevirtual 165) :: r) ls (a1 :: a0 :: vR o :: st) h Q ↔ (m_tag h o = some 8 ∧ (st.map m_cat).sum ≤ 8 ∧ [a1, a0].all (fun v => decide (m_cat v = 1)) = true) ∧ m_do xs L 61 [vR o, a0, a1] h (m_cont xs L 31 pc r ls st Q) := U_invv (mj := 61) (av := [a1, a0]) rfl rfl rfl (Nat.le_of_ble_eq_true rfl)
theorem J_31_84 : m_jmp 31 84 (-78) = b_31_6 := rfl
theorem W_31_140 {o : Nat} {v : MV} : m_ok xs L 31 ((pc, .putfield 140) :: r) ls (v :: vR o :: st) h Q ↔ (m_fit 0 v = true ∧ (m_get h o 5 7).isSome = true) ∧ m_ok xs L 31 r ls st (m_set h o 7 v) Q := U_putf rfl
theorem D_32 {a0 a1 a2 a3 a4 : MV} : m_do xs L 32 [a0, a1, a2, a3, a4] h Q ↔ m_ok xs L 32 b_32_0 [a0, a1, a2, a3, a4, vU, vU, vU] [] h Q := Iff.rfl
theorem R_32 : m_ok xs L 32 ((pc, .return_) :: r) ls [] h Q ↔ Q (.inl none) h := V_vret rfl
theorem X_32 {e : Nat} : m_cont xs L 32 pc r ls st Q (.inr e) h ↔ Q (.inr e) h := V_contx rfl
theorem F_32_128 {o : Nat} : m_ok xs L 32 ((pc, .getfield 128) :: r) ls (vR o :: st) h Q ↔ ∃ v, m_get h o 5 1 = some v ∧ m_ok xs L 32 r ls (v :: st) h Q := U_getf rfl
theorem F_32_132 {o : Nat} : m_ok xs L 32 ((pc, .getfield 132) :: r) ls (vR o :: st) h Q ↔ ∃ v, m_get h o 7 3 = some v ∧ m_ok xs L 32 r ls (v :: st) h Q := U_getf rfl
theorem F_32_137 {o : Nat} : m_ok xs L 32 ((pc, .getfield 137) :: r) ls (vR o :: st) h Q ↔ ∃ v, m_get h o 5 3 = some v ∧ m_ok xs L 32 r ls (v :: st) h Q := U_getf rfl
theorem F_32_31 {o : Nat} : m_ok xs L 32 ((pc, .getfield 31) :: r) ls (vR o :: st) h Q ↔ ∃ v, m_get h o 2 0 = some v ∧ m_ok xs L 32 r ls (v :: st) h Q := U_getf rfl
theorem F_32_72 {o : Nat} : m_ok xs L 32 ((pc, .getfield 72) :: r) ls (vR o :: st) h Q ↔ ∃ v, m_get h o 4 5 = some v ∧ m_ok xs L 32 r ls (v :: st) h Q := U_getf rfl
theorem J_32_26 : m_jmp 32 26 (79) = b_32_105 := rfl
theorem F_32_19 {o : Nat} : m_ok xs L 32 ((pc, .getfield 19) :: r) ls (vR o :: st) h Q ↔ ∃ v, m_get h o 2 2 = some v ∧ m_ok xs L 32 r ls (v :: st) h Q := U_getf rfl
theorem I_32_221 {o : Nat} {a0 a1 : MV} : m_ok xs L 32 ((pc, .invokevirtual 221) :: r) ls (a1 :: a0 :: vR o :: st) h Q ↔ (m_tag h o = some 8 ∧ (st.map m_cat).sum ≤ 8 ∧ [a1, a0].all (fun v => decide (m_cat v = 1)) = true) ∧ m_do xs L 59 [vR o, a0, a1] h (m_cont xs L 32 pc r ls st Q) := U_invv (mj := 59) (av := [a1, a0]) rfl rfl rfl (Nat.le_of_ble_eq_true rfl)
theorem J_32_47 : m_jmp 32 47 (52) = b_32_99 := rfl
theorem I_32_150 {o : Nat} : m_ok xs L 32 ((pc, .invokevirtual 150) :: r) ls (vR o :: st) h Q ↔ (m_tag h o = some 8 ∧ (st.map m_cat).sum ≤ 8 ∧ [].all (fun v => decide (m_cat v = 1)) = true) ∧ m_do xs L 57 [vR o] h (m_cont xs L 32 pc r ls st Q) := U_invv (mj := 57) (av := []) rfl rfl rfl (Nat.le_of_ble_eq_true rfl)
theorem J_32_55 : m_jmp 32 55 (44) = b_32_99 := rfl
theorem F_32_44 {o : Nat} : m_ok xs L 32 ((pc, .getfield 44) :: r) ls (vR o :: st) h Q ↔ ∃ v, m_get h o 4 4 = some v ∧ m_ok xs L 32 r ls (v :: st) h Q := U_getf rfl
theorem I_32_217 {o : Nat} {a0 a1 : MV} : m_ok xs L 32 ((pc, .invokevirtual 217) :: r) ls (a1 :: a0 :: vR o :: st) h Q ↔ (m_tag h o = some 1 ∧ (st.map m_cat).sum ≤ 8 ∧ [a1, a0].all (fun v => decide (m_cat v = 1)) = true) ∧ m_do xs L 15 [vR o, a0, a1] h (m_cont xs L 32 pc r ls st Q) := U_invv (mj := 15) (av := [a1, a0]) rfl rfl rfl (Nat.le_of_ble_eq_true rfl)
theorem J_32_73 : m_jmp 32 73 (26) = b_32_99 := rfl
theorem I_32_225 {o : Nat} {a0 a1 a2 : MV} : m_ok xs L 32 ((pc, .invokevirtual 225) :: r) ls (a2 :: a1 :: a0 :: vR o :: st) h Q ↔ (m_tag h o = some 2 ∧ (st.map m_cat).sum ≤ 8 ∧ [a2, a1, a0].all (fun v => decide (m_cat v = 1)) = true) ∧ m_do xs L 33 [vR o, a0, a1, a2] h (m_cont xs L 32 pc r ls st Q) := U_invv (mj := 33) (av := [a2, a1, a0]) rfl rfl rfl (Nat.le_of_ble_eq_true rfl)
theorem J_32_85 : m_jmp 32 85 (14) = b_32_99 := rfl
theorem I_32_229 {o : Nat} {a0 : MV} : m_ok xs L 32 ((pc, .invokevirtual 229) :: r) ls (a0 :: vR o :: st) h Q ↔ (m_tag h o = some 5 ∧ (st.map m_cat).sum ≤ 8 ∧ [a0].all (fun v => decide (m_cat v = 1)) = true) ∧ m_do xs L 46 [vR o, a0] h (m_cont xs L 32 pc r ls st Q) := U_invv (mj := 46) (av := [a0]) rfl rfl rfl (Nat.le_of_ble_eq_true rfl)
theorem I_32_232 {o : Nat} : m_ok xs L 32 ((pc, .invokevirtual 232) :: r) ls (vR o :: st) h Q ↔ (m_tag h o = some 8 ∧ (st.map m_cat).sum ≤ 8 ∧ [].all (fun v => decide (m_cat v = 1)) = true) ∧ m_do xs L 62 [vR o] h (m_cont xs L 32 pc r ls st Q) := U_invv (mj := 62) (av := []) rfl rfl rfl (Nat.le_of_ble_eq_true rfl)
theorem J_32_102 : m_jmp 32 102 (-85) = b_32_17 := rfl
theorem D_33 {a0 a1 a2 a3 : MV} : m_do xs L 33 [a0, a1, a2, a3] h Q ↔ m_ok xs L 33 b_33_0 [a0, a1, a2, a3, vU, vU, vU] [] h Q := Iff.rfl
theorem R_33 {a : Int} : m_ok xs L 33 ((pc, .ireturn) :: r) ls [vI a] h Q ↔ (a = 0 ∨ a = 1) ∧ Q (.inl (some (vI a))) h := V_iretz rfl
theorem X_33 {e : Nat} : m_cont xs L 33 pc r ls st Q (.inr e) h ↔ Q (.inr e) h := V_contx rfl
theorem F_33_153 {o : Nat} : m_ok xs L 33 ((pc, .getfield 153) :: r) ls (vR o :: st) h Q ↔ ∃ v, m_get h o 8 0 = some v ∧ m_ok xs L 33 r ls (v :: st) h Q := U_getf rfl
theorem F_33_157 {o : Nat} : m_ok xs L 33 ((pc, .getfield 157) :: r) ls (vR o :: st) h Q ↔ ∃ v, m_get h o 1 12 = some v ∧ m_ok xs L 33 r ls (v :: st) h Q := U_getf rfl
theorem F_33_162 {o : Nat} : m_ok xs L 33 ((pc, .getfield 162) :: r) ls (vR o :: st) h Q ↔ ∃ v, m_get h o 8 3 = some v ∧ m_ok xs L 33 r ls (v :: st) h Q := U_getf rfl
theorem F_33_128 {o : Nat} : m_ok xs L 33 ((pc, .getfield 128) :: r) ls (vR o :: st) h Q ↔ ∃ v, m_get h o 5 1 = some v ∧ m_ok xs L 33 r ls (v :: st) h Q := U_getf rfl
theorem F_33_235 {o : Nat} : m_ok xs L 33 ((pc, .getfield 235) :: r) ls (vR o :: st) h Q ↔ ∃ v, m_get h o 7 9 = some v ∧ m_ok xs L 33 r ls (v :: st) h Q := U_getf rfl
theorem F_33_137 {o : Nat} : m_ok xs L 33 ((pc, .getfield 137) :: r) ls (vR o :: st) h Q ↔ ∃ v, m_get h o 5 3 = some v ∧ m_ok xs L 33 r ls (v :: st) h Q := U_getf rfl
theorem J_33_28 : m_jmp 33 28 (5) = b_33_33 := rfl
theorem F_33_11 {o : Nat} : m_ok xs L 33 ((pc, .getfield 11) :: r) ls (vR o :: st) h Q ↔ ∃ v, m_get h o 2 1 = some v ∧ m_ok xs L 33 r ls (v :: st) h Q := U_getf rfl
theorem F_33_238 {o : Nat} : m_ok xs L 33 ((pc, .getfield 238) :: r) ls (vR o :: st) h Q ↔ ∃ v, m_get h o 1 10 = some v ∧ m_ok xs L 33 r ls (v :: st) h Q := U_getf rfl
theorem F_33_169 {o : Nat} : m_ok xs L 33 ((pc, .getfield 169) :: r) ls (vR o :: st) h Q ↔ ∃ v, m_get h o 5 0 = some v ∧ m_ok xs L 33 r ls (v :: st) h Q := U_getf rfl
theorem J_33_61 : m_jmp 33 61 (5) = b_33_66 := rfl
theorem J_33_81 : m_jmp 33 81 (15) = b_33_96 := rfl
theorem F_33_241 {o : Nat} : m_ok xs L 33 ((pc, .getfield 241) :: r) ls (vR o :: st) h Q ↔ ∃ v, m_get h o 5 11 = some v ∧ m_ok xs L 33 r ls (v :: st) h Q := U_getf rfl
theorem J_33_93 : m_jmp 33 93 (7) = b_33_100 := rfl
theorem J_33_97 : m_jmp 33 97 (4) = b_33_101 := rfl
theorem D_34 {a0 a1 a2 : MV} : m_do xs L 34 [a0, a1, a2] h Q ↔ m_ok xs L 34 b_34_0 [a0, a1, a2, vU] [] h Q := Iff.rfl
theorem R_34 : m_ok xs L 34 ((pc, .return_) :: r) ls [] h Q ↔ Q (.inl none) h := V_vret rfl
theorem X_34 {e : Nat} : m_cont xs L 34 pc r ls st Q (.inr e) h ↔ Q (.inr e) h := V_contx rfl
theorem I_34_244 {o : Nat} {a0 : MV} : m_ok xs L 34 ((pc, .invokevirtual 244) :: r) ls (a0 :: vR o :: st) h Q ↔ (m_tag h o = some 2 ∧ (st.map m_cat).sum ≤ 8 ∧ [a0].all (fun v => decide (m_cat v = 1)) = true) ∧ m_do xs L 35 [vR o, a0] h (m_cont xs L 34 pc r ls st Q) := U_invv (mj := 35) (av := [a0]) rfl rfl rfl (Nat.le_of_ble_eq_true rfl)
theorem F_34_140 {o : Nat} : m_ok xs L 34 ((pc, .getfield 140) :: r) ls (vR o :: st) h Q ↔ ∃ v, m_get h o 5 7 = some v ∧ m_ok xs L 34 r ls (v :: st) h Q := U_getf rfl
theorem J_34_13 : m_jmp 34 13 (53) = b_34_66 := rfl
theorem I_34_248 {o : Nat} : m_ok xs L 34 ((pc, .invokevirtual 248) :: r) ls (vR o :: st) h Q ↔ (m_tag h o = some 5 ∧ (st.map m_cat).sum ≤ 8 ∧ [].all (fun v => decide (m_cat v = 1)) = true) ∧ m_do xs L 47 [vR o] h (m_cont xs L 34 pc r ls st Q) := U_invv (mj := 47) (av := []) rfl rfl rfl (Nat.le_of_ble_eq_true rfl)
theorem J_34_20 : m_jmp 34 20 (46) = b_34_66 := rfl
theorem F_34_19 {o : Nat} : m_ok xs L 34 ((pc, .getfield 19) :: r) ls (vR o :: st) h Q ↔ ∃ v, m_get h o 2 2 = some v ∧ m_ok xs L 34 r ls (v :: st) h Q := U_getf rfl
theorem F_34_143 {o : Nat} : m_ok xs L 34 ((pc, .getfield 143) :: r) ls (vR o :: st) h Q ↔ ∃ v, m_get h o 5 6 = some v ∧ m_ok xs L 34 r ls (v :: st) h Q := U_getf rfl
theorem F_34_128 {o : Nat} : m_ok xs L 34 ((pc, .getfield 128) :: r) ls (vR o :: st) h Q ↔ ∃ v, m_get h o 5 1 = some v ∧ m_ok xs L 34 r ls (v :: st) h Q := U_getf rfl
theorem F_34_132 {o : Nat} : m_ok xs L 34 ((pc, .getfield 132) :: r) ls (vR o :: st) h Q ↔ ∃ v, m_get h o 7 3 = some v ∧ m_ok xs L 34 r ls (v :: st) h Q := U_getf rfl
theorem F_34_137 {o : Nat} : m_ok xs L 34 ((pc, .getfield 137) :: r) ls (vR o :: st) h Q ↔ ∃ v, m_get h o 5 3 = some v ∧ m_ok xs L 34 r ls (v :: st) h Q := U_getf rfl
theorem I_34_165 {o : Nat} {a0 a1 : MV} : m_ok xs L 34 ((pc, .invokevirtual 165) :: r) ls (a1 :: a0 :: vR o :: st) h Q ↔ (m_tag h o = some 8 ∧ (st.map m_cat).sum ≤ 8 ∧ [a1, a0].all (fun v => decide (m_cat v = 1)) = true) ∧ m_do xs L 61 [vR o, a0, a1] h (m_cont xs L 34 pc r ls st Q) := U_invv (mj := 61) (av := [a1, a0]) rfl rfl rfl (Nat.le_of_ble_eq_true rfl)
theorem W_34_140 {o : Nat} {v : MV} : m_ok xs L 34 ((pc, .putfield 140) :: r) ls (v :: vR o :: st) h Q ↔ (m_fit 0 v = true ∧ (m_get h o 5 7).isSome = true) ∧ m_ok xs L 34 r ls st (m_set h o 7 v) Q := U_putf rfl
theorem J_34_63 : m_jmp 34 63 (-51) = b_34_12 := rfl
theorem D_35 {a0 a1 : MV} : m_do xs L 35 [a0, a1] h Q ↔ m_ok xs L 35 b_35_0 [a0, a1, vU, vU] [] h Q := Iff.rfl
theorem R_35 : m_ok xs L 35 ((pc, .return_) :: r) ls [] h Q ↔ Q (.inl none) h := V_vret rfl
theorem X_35 {e : Nat} : m_cont xs L 35 pc r ls st Q (.inr e) h ↔ Q (.inr e) h := V_contx rfl
theorem W_35_251 {o : Nat} {v : MV} : m_ok xs L 35 ((pc, .putfield 251) :: r) ls (v :: vR o :: st) h Q ↔ (m_fit 0 v = true ∧ (m_get h o 5 8).isSome = true) ∧ m_ok xs L 35 r ls st (m_set h o 8 v) Q := U_putf rfl
theorem W_35_254 {o : Nat} {v : MV} : m_ok xs L 35 ((pc, .putfield 254) :: r) ls (v :: vR o :: st) h Q ↔ (m_fit 0 v = true ∧ (m_get h o 5 9).isSome = true) ∧ m_ok xs L 35 r ls st (m_set h o 9 v) Q := U_putf rfl
theorem F_35_140 {o : Nat} : m_ok xs L 35 ((pc, .getfield 140) :: r) ls (vR o :: st) h Q ↔ ∃ v, m_get h o 5 7 = some v ∧ m_ok xs L 35 r ls (v :: st) h Q := U_getf rfl
theorem J_35_17 : m_jmp 35 17 (50) = b_35_67 := rfl
theorem F_35_31 {o : Nat} : m_ok xs L 35 ((pc, .getfield 31) :: r) ls (vR o :: st) h Q ↔ ∃ v, m_get h o 2 0 = some v ∧ m_ok xs L 35 r ls (v :: st) h Q := U_getf rfl
theorem F_35_44 {o : Nat} : m_ok xs L 35 ((pc, .getfield 44) :: r) ls (vR o :: st) h Q ↔ ∃ v, m_get h o 4 4 = some v ∧ m_ok xs L 35 r ls (v :: st) h Q := U_getf rfl
theorem F_35_143 {o : Nat} : m_ok xs L 35 ((pc, .getfield 143) :: r) ls (vR o :: st) h Q ↔ ∃ v, m_get h o 5 6 = some v ∧ m_ok xs L 35 r ls (v :: st) h Q := U_getf rfl
theorem F_35_251 {o : Nat} : m_ok xs L 35 ((pc, .getfield 251) :: r) ls (vR o :: st) h Q ↔ ∃ v, m_get h o 5 8 = some v ∧ m_ok xs L 35 r ls (v :: st) h Q := U_getf rfl
theorem F_35_257 {o : Nat} : m_ok xs L 35 ((pc, .getfield 257) :: r) ls (vR o :: st) h Q ↔ ∃ v, m_get h o 1 4 = some v ∧ m_ok xs L 35 r ls (v :: st) h Q := U_getf rfl
theorem F_35_254 {o : Nat} : m_ok xs L 35 ((pc, .getfield 254) :: r) ls (vR o :: st) h Q ↔ ∃ v, m_get h o 5 9 = some v ∧ m_ok xs L 35 r ls (v :: st) h Q := U_getf rfl
theorem F_35_258 {o : Nat} : m_ok xs L 35 ((pc, .getfield 258) :: r) ls (vR o :: st) h Q ↔ ∃ v, m_get h o 1 5 = some v ∧ m_ok xs L 35 r ls (v :: st) h Q := U_getf rfl
theorem J_35_64 : m_jmp 35 64 (-52) = b_35_12 := rfl
theorem D_36 {a0 a1 a2 a3 a4 : MV} : m_do xs L 36 [a0, a1, a2, a3, a4] h Q ↔ m_ok xs L 36 b_36_0 [a0, a1, a2, a3, a4, vU, vU] [] h Q := Iff.rfl
theorem R_36 : m_ok xs L 36 ((pc, .return_) :: r) ls [] h Q ↔ Q (.inl none) h := V_vret rfl
theorem X_36 {e : Nat} : m_cont xs L 36 pc r ls st Q (.inr e) h ↔ Q (.inr e) h := V_contx rfl
theorem F_36_140 {o : Nat} : m_ok xs L 36 ((pc, .getfield 140) :: r) ls (vR o :: st) h Q ↔ ∃ v, m_get h o 5 7 = some v ∧ m_ok xs L 36 r ls (v :: st) h Q := U_getf rfl
theorem J_36_9 : m_jmp 36 9 (77) = b_36_86 := rfl
theorem F_36_19 {o : Nat} : m_ok xs L 36 ((pc, .getfield 19) :: r) ls (vR o :: st) h Q ↔ ∃ v, m_get h o 2 2 = some v ∧ m_ok xs L 36 r ls (v :: st) h Q := U_getf rfl
theorem F_36_143 {o : Nat} : m_ok xs L 36 ((pc, .getfield 143) :: r) ls (vR o :: st) h Q ↔ ∃ v, m_get h o 5 6 = some v ∧ m_ok xs L 36 r ls (v :: st) h Q := U_getf rfl
theorem J_36_29 : m_jmp 36 29 (14) = b_36_43 := rfl
theorem F_36_259 {o : Nat} : m_ok xs L 36 ((pc, .getfield 259) :: r) ls (vR o :: st) h Q ↔ ∃ v, m_get h o 8 4 = some v ∧ m_ok xs L 36 r ls (v :: st) h Q := U_getf rfl
theorem W_36_259 {o : Nat} {v : MV} : m_ok xs L 36 ((pc, .putfield 259) :: r) ls (v :: vR o :: st) h Q ↔ (m_fit 0 v = true ∧ (m_get h o 8 4).isSome = true) ∧ m_ok xs L 36 r ls st (m_set h o 4 v) Q := U_putf rfl
theorem F_36_153 {o : Nat} : m_ok xs L 36 ((pc, .getfield 153) :: r) ls (vR o :: st) h Q ↔ ∃ v, m_get h o 8 0 = some v ∧ m_ok xs L 36 r ls (v :: st) h Q := U_getf rfl
theorem F_36_262 {o : Nat} : m_ok xs L 36 ((pc, .getfield 262) :: r) ls (vR o :: st) h Q ↔ ∃ v, m_get h o 1 2 = some v ∧ m_ok xs L 36 r ls (v :: st) h Q := U_getf rfl
theorem J_36_52 : m_jmp 36 52 (28) = b_36_80 := rfl
theorem F_36_23 {o : Nat} : m_ok xs L 36 ((pc, .getfield 23) :: r) ls (vR o :: st) h Q ↔ ∃ v, m_get h o 2 3 = some v ∧ m_ok xs L 36 r ls (v :: st) h Q := U_getf rfl
theorem J_36_83 : m_jmp 36 83 (-80) = b_36_3 := rfl
theorem D_39 {a0 a1 a2 : MV} : m_do xs L 39 [a0, a1, a2] h Q ↔ m_ok xs L 39 b_39_0 [a0, a1, a2, vU] [] h Q := Iff.rfl
theorem R_39 {a : Int} : m_ok xs L 39 ((pc, .ireturn) :: r) ls [vI a] h Q ↔ Q (.inl (some (vI a))) h := V_ireti rfl
theorem X_39 {e : Nat} : m_cont xs L 39 pc r ls st Q (.inr e) h ↔ Q (.inr e) h := V_contx rfl
theorem F_39_17 {o : Nat} : m_ok xs L 39 ((pc, .getfield 17) :: r) ls (vR o :: st) h Q ↔ ∃ v, m_get h o 4 1 = some v ∧ m_ok xs L 39 r ls (v :: st) h Q := U_getf rfl
theorem F_39_11 {o : Nat} : m_ok xs L 39 ((pc, .getfield 11) :: r) ls (vR o :: st) h Q ↔ ∃ v, m_get h o 4 0 = some v ∧ m_ok xs L 39 r ls (v :: st) h Q := U_getf rfl
theorem W_39_47 {o : Nat} {v : MV} : m_ok xs L 39 ((pc, .putfield 47) :: r) ls (v :: vR o :: st) h Q ↔ (m_fit 0 v = true ∧ (m_get h o 6 0).isSome = true) ∧ m_ok xs L 39 r ls st (m_set h o 0 v) Q := U_putf rfl
theorem W_39_50 {o : Nat} {v : MV} : m_ok xs L 39 ((pc, .putfield 50) :: r) ls (v :: vR o :: st) h Q ↔ (m_fit 0 v = true ∧ (m_get h o 6 1).isSome = true) ∧ m_ok xs L 39 r ls st (m_set h o 1 v) Q := U_putf rfl
theorem W_39_17 {o : Nat} {v : MV} : m_ok xs L 39 ((pc, .putfield 17) :: r) ls (v :: vR o :: st) h Q ↔ (m_fit 0 v = true ∧ (m_get h o 4 1).isSome = true) ∧ m_ok xs L 39 r ls st (m_set h o 1 v) Q := U_putf rfl
theorem F_39_39 {o : Nat} : m_ok xs L 39 ((pc, .getfield 39) :: r) ls (vR o :: st) h Q ↔ ∃ v, m_get h o 4 6 = some v ∧ m_ok xs L 39 r ls (v :: st) h Q := U_getf rfl
theorem W_39_39 {o : Nat} {v : MV} : m_ok xs L 39 ((pc, .putfield 39) :: r) ls (v :: vR o :: st) h Q ↔ (m_fit 0 v = true ∧ (m_get h o 4 6).isSome = true) ∧ m_ok xs L 39 r ls st (m_set h o 6 v) Q := U_putf rfl
theorem D_40 {a0 a1 a2 a3 : MV} : m_do xs L 40 [a0, a1, a2, a3] h Q ↔ m_ok xs L 40 b_40_0 [a0, a1, a2, a3, vU, vU] [] h Q := Iff.rfl
theorem R_40 {a : Int} : m_ok xs L 40 ((pc, .ireturn) :: r) ls [vI a] h Q ↔ Q (.inl (some (vI a))) h := V_ireti rfl
theorem X_40 {e : Nat} : m_cont xs L 40 pc r ls st Q (.inr e) h ↔ Q (.inr e) h := V_contx rfl
theorem F_40_27 {o : Nat} : m_ok xs L 40 ((pc, .getfield 27) :: r) ls (vR o :: st) h Q ↔ ∃ v, m_get h o 4 3 = some v ∧ m_ok xs L 40 r ls (v :: st) h Q := U_getf rfl
theorem F_40_23 {o : Nat} : m_ok xs L 40 ((pc, .getfield 23) :: r) ls (vR o :: st) h Q ↔ ∃ v, m_get h o 4 2 = some v ∧ m_ok xs L 40 r ls (v :: st) h Q := U_getf rfl
theorem W_40_53 {o : Nat} {v : MV} : m_ok xs L 40 ((pc, .putfield 53) :: r) ls (v :: vR o :: st) h Q ↔ (m_fit 0 v = true ∧ (m_get h o 7 1).isSome = true) ∧ m_ok xs L 40 r ls st (m_set h o 1 v) Q := U_putf rfl
theorem F_40_56 {o : Nat} : m_ok xs L 40 ((pc, .getfield 56) :: r) ls (vR o :: st) h Q ↔ ∃ v, m_get h o 7 3 = some v ∧ m_ok xs L 40 r ls (v :: st) h Q := U_getf rfl
theorem F_40_60 {o : Nat} : m_ok xs L 40 ((pc, .getfield 60) :: r) ls (vR o :: st) h Q ↔ ∃ v, m_get h o 7 4 = some v ∧ m_ok xs L 40 r ls (v :: st) h Q := U_getf rfl
theorem F_40_63 {o : Nat} : m_ok xs L 40 ((pc, .getfield 63) :: r) ls (vR o :: st) h Q ↔ ∃ v, m_get h o 7 9 = some v ∧ m_ok xs L 40 r ls (v :: st) h Q := U_getf rfl
theorem W_40_66 {o : Nat} {v : MV} : m_ok xs L 40 ((pc, .putfield 66) :: r) ls (v :: vR o :: st) h Q ↔ (m_fit 0 v = true ∧ (m_get h o 7 0).isSome = true) ∧ m_ok xs L 40 r ls st (m_set h o 0 v) Q := U_putf rfl
theorem W_40_27 {o : Nat} {v : MV} : m_ok xs L 40 ((pc, .putfield 27) :: r) ls (v :: vR o :: st) h Q ↔ (m_fit 0 v = true ∧ (m_get h o 4 3).isSome = true) ∧ m_ok xs L 40 r ls st (m_set h o 3 v) Q := U_putf rfl
theorem F_40_39 {o : Nat} : m_ok xs L 40 ((pc, .getfield 39) :: r) ls (vR o :: st) h Q ↔ ∃ v, m_get h o 4 6 = some v ∧ m_ok xs L 40 r ls (v :: st) h Q := U_getf rfl
theorem W_40_39 {o : Nat} {v : MV} : m_ok xs L 40 ((pc, .putfield 39) :: r) ls (v :: vR o :: st) h Q ↔ (m_fit 0 v = true ∧ (m_get h o 4 6).isSome = true) ∧ m_ok xs L 40 r ls st (m_set h o 6 v) Q := U_putf rfl
theorem D_41 {a0 : MV} : m_do xs L 41 [a0] h Q ↔ m_ok xs L 41 b_41_0 [a0, vU] [] h Q := Iff.rfl
theorem R_41 {o : Nat} : m_ok xs L 41 ((pc, .areturn) :: r) ls [vR o] h Q ↔ Q (.inl (some (vR o))) h := V_aret rfl
theorem X_41 {e : Nat} : m_cont xs L 41 pc r ls st Q (.inr e) h ↔ Q (.inr e) h := V_contx rfl
theorem F_41_32 {o : Nat} : m_ok xs L 41 ((pc, .getfield 32) :: r) ls (vR o :: st) h Q ↔ ∃ v, m_get h o 4 4 = some v ∧ m_ok xs L 41 r ls (v :: st) h Q := U_getf rfl
theorem F_41_36 {o : Nat} : m_ok xs L 41 ((pc, .getfield 36) :: r) ls (vR o :: st) h Q ↔ ∃ v, m_get h o 4 5 = some v ∧ m_ok xs L 41 r ls (v :: st) h Q := U_getf rfl
theorem W_41_36 {o : Nat} {v : MV} : m_ok xs L 41 ((pc, .putfield 36) :: r) ls (v :: vR o :: st) h Q ↔ (m_fit 0 v = true ∧ (m_get h o 4 5).isSome = true) ∧ m_ok xs L 41 r ls st (m_set h o 5 v) Q := U_putf rfl
theorem F_41_39 {o : Nat} : m_ok xs L 41 ((pc, .getfield 39) :: r) ls (vR o :: st) h Q ↔ ∃ v, m_get h o 4 6 = some v ∧ m_ok xs L 41 r ls (v :: st) h Q := U_getf rfl
theorem W_41_39 {o : Nat} {v : MV} : m_ok xs L 41 ((pc, .putfield 39) :: r) ls (v :: vR o :: st) h Q ↔ (m_fit 0 v = true ∧ (m_get h o 4 6).isSome = true) ∧ m_ok xs L 41 r ls st (m_set h o 6 v) Q := U_putf rfl
theorem D_43 {a0 : MV} : m_do xs L 43 [a0] h Q ↔ m_ok xs L 43 b_43_0 [a0] [] h Q := Iff.rfl
theorem R_43 : m_ok xs L 43 ((pc, .return_) :: r) ls [] h Q ↔ Q (.inl none) h := V_vret rfl
theorem X_43 {e : Nat} : m_cont xs L 43 pc r ls st Q (.inr e) h ↔ Q (.inr e) h := V_contx rfl
theorem F_43_32 {o : Nat} : m_ok xs L 43 ((pc, .getfield 32) :: r) ls (vR o :: st) h Q ↔ ∃ v, m_get h o 5 1 = some v ∧ m_ok xs L 43 r ls (v :: st) h Q := U_getf rfl
theorem F_43_36 {o : Nat} : m_ok xs L 43 ((pc, .getfield 36) :: r) ls (vR o :: st) h Q ↔ ∃ v, m_get h o 7 2 = some v ∧ m_ok xs L 43 r ls (v :: st) h Q := U_getf rfl
theorem W_43_41 {o : Nat} {v : MV} : m_ok xs L 43 ((pc, .putfield 41) :: r) ls (v :: vR o :: st) h Q ↔ (m_fit 0 v = true ∧ (m_get h o 5 2).isSome = true) ∧ m_ok xs L 43 r ls st (m_set h o 2 v) Q := U_putf rfl
theorem W_43_42 {o : Nat} {v : MV} : m_ok xs L 43 ((pc, .putfield 42) :: r) ls (v :: vR o :: st) h Q ↔ (m_fit 0 v = true ∧ (m_get h o 5 3).isSome = true) ∧ m_ok xs L 43 r ls st (m_set h o 3 v) Q := U_putf rfl
theorem C_43_45 : m_ok xs L 43 ((pc, .ldc 45) :: r) ls st h Q ↔ m_ok xs L 43 r ls (vI 1000000 :: st) h Q := V_ldc rfl
theorem W_43_46 {o : Nat} {v : MV} : m_ok xs L 43 ((pc, .putfield 46) :: r) ls (v :: vR o :: st) h Q ↔ (m_fit 0 v = true ∧ (m_get h o 5 4).isSome = true) ∧ m_ok xs L 43 r ls st (m_set h o 4 v) Q := U_putf rfl
theorem I_43_49 {o : Nat} : m_ok xs L 43 ((pc, .invokevirtual 49) :: r) ls (vR o :: st) h Q ↔ (m_tag h o = some 5 ∧ (st.map m_cat).sum ≤ 8 ∧ [].all (fun v => decide (m_cat v = 1)) = true) ∧ m_do xs L 44 [vR o] h (m_cont xs L 43 pc r ls st Q) := U_invv (mj := 44) (av := []) rfl rfl rfl (Nat.le_of_ble_eq_true rfl)
theorem J_43_27 : m_jmp 43 27 (8) = b_43_35 := rfl
theorem J_43_32 : m_jmp 43 32 (12) = b_43_44 := rfl
theorem F_43_53 {o : Nat} : m_ok xs L 43 ((pc, .getfield 53) :: r) ls (vR o :: st) h Q ↔ ∃ v, m_get h o 7 4 = some v ∧ m_ok xs L 43 r ls (v :: st) h Q := U_getf rfl
theorem W_43_56 {o : Nat} {v : MV} : m_ok xs L 43 ((pc, .putfield 56) :: r) ls (v :: vR o :: st) h Q ↔ (m_fit 0 v = true ∧ (m_get h o 5 5).isSome = true) ∧ m_ok xs L 43 r ls st (m_set h o 5 v) Q := U_putf rfl
theorem W_43_59 {o : Nat} {v : MV} : m_ok xs L 43 ((pc, .putfield 59) :: r) ls (v :: vR o :: st) h Q ↔ (m_fit 0 v = true ∧ (m_get h o 5 7).isSome = true) ∧ m_ok xs L 43 r ls st (m_set h o 7 v) Q := U_putf rfl
theorem F_43_15 {o : Nat} : m_ok xs L 43 ((pc, .getfield 15) :: r) ls (vR o :: st) h Q ↔ ∃ v, m_get h o 5 10 = some v ∧ m_ok xs L 43 r ls (v :: st) h Q := U_getf rfl
theorem I_43_62 {a0 a1 : MV} : m_ok xs L 43 ((pc, .invokestatic 62) :: r) ls (a1 :: a0 :: st) h Q ↔ ((st.map m_cat).sum ≤ 8 ∧ [a1, a0].all (fun v => decide (m_cat v = 1)) = true) ∧ m_do xs L 153 [a0, a1] h (m_cont xs L 43 pc r ls st Q) := U_invs (mj := 153) (av := [a1, a0]) rfl rfl rfl (Nat.le_of_ble_eq_true rfl)
theorem F_43_18 {o : Nat} : m_ok xs L 43 ((pc, .getfield 18) :: r) ls (vR o :: st) h Q ↔ ∃ v, m_get h o 5 11 = some v ∧ m_ok xs L 43 r ls (v :: st) h Q := U_getf rfl
theorem F_43_21 {o : Nat} : m_ok xs L 43 ((pc, .getfield 21) :: r) ls (vR o :: st) h Q ↔ ∃ v, m_get h o 5 12 = some v ∧ m_ok xs L 43 r ls (v :: st) h Q := U_getf rfl
theorem F_43_24 {o : Nat} : m_ok xs L 43 ((pc, .getfield 24) :: r) ls (vR o :: st) h Q ↔ ∃ v, m_get h o 5 13 = some v ∧ m_ok xs L 43 r ls (v :: st) h Q := U_getf rfl
theorem I_43_68 {a0 a1 : MV} : m_ok xs L 43 ((pc, .invokestatic 68) :: r) ls (a1 :: a0 :: st) h Q ↔ ((st.map m_cat).sum ≤ 8 ∧ [a1, a0].all (fun v => decide (m_cat v = 1)) = true) ∧ m_do xs L 154 [a0, a1] h (m_cont xs L 43 pc r ls st Q) := U_invs (mj := 154) (av := [a1, a0]) rfl rfl rfl (Nat.le_of_ble_eq_true rfl)
theorem D_44 {a0 : MV} : m_do xs L 44 [a0] h Q ↔ m_ok xs L 44 b_44_0 [a0] [] h Q := Iff.rfl
theorem R_44 {a : Int} : m_ok xs L 44 ((pc, .ireturn) :: r) ls [vI a] h Q ↔ (a = 0 ∨ a = 1) ∧ Q (.inl (some (vI a))) h := V_iretz rfl
theorem X_44 {e : Nat} : m_cont xs L 44 pc r ls st Q (.inr e) h ↔ Q (.inr e) h := V_contx rfl
theorem F_44_42 {o : Nat} : m_ok xs L 44 ((pc, .getfield 42) :: r) ls (vR o :: st) h Q ↔ ∃ v, m_get h o 5 3 = some v ∧ m_ok xs L 44 r ls (v :: st) h Q := U_getf rfl
theorem F_44_32 {o : Nat} : m_ok xs L 44 ((pc, .getfield 32) :: r) ls (vR o :: st) h Q ↔ ∃ v, m_get h o 5 1 = some v ∧ m_ok xs L 44 r ls (v :: st) h Q := U_getf rfl
theorem F_44_71 {o : Nat} : m_ok xs L 44 ((pc, .getfield 71) :: r) ls (vR o :: st) h Q ↔ ∃ v, m_get h o 7 0 = some v ∧ m_ok xs L 44 r ls (v :: st) h Q := U_getf rfl
theorem J_44_13 : m_jmp 44 13 (7) = b_44_20 := rfl
theorem J_44_17 : m_jmp 44 17 (4) = b_44_21 := rfl
theorem D_45 {a0 : MV} : m_do xs L 45 [a0] h Q ↔ m_ok xs L 45 b_45_0 [a0] [] h Q := Iff.rfl
theorem R_45 {a : Int} : m_ok xs L 45 ((pc, .ireturn) :: r) ls [vI a] h Q ↔ Q (.inl (some (vI a))) h := V_ireti rfl
theorem X_45 {e : Nat} : m_cont xs L 45 pc r ls st Q (.inr e) h ↔ Q (.inr e) h := V_contx rfl
theorem F_45_32 {o : Nat} : m_ok xs L 45 ((pc, .getfield 32) :: r) ls (vR o :: st) h Q ↔ ∃ v, m_get h o 5 1 = some v ∧ m_ok xs L 45 r ls (v :: st) h Q := U_getf rfl
theorem F_45_53 {o : Nat} : m_ok xs L 45 ((pc, .getfield 53) :: r) ls (vR o :: st) h Q ↔ ∃ v, m_get h o 7 4 = some v ∧ m_ok xs L 45 r ls (v :: st) h Q := U_getf rfl
theorem F_45_42 {o : Nat} : m_ok xs L 45 ((pc, .getfield 42) :: r) ls (vR o :: st) h Q ↔ ∃ v, m_get h o 5 3 = some v ∧ m_ok xs L 45 r ls (v :: st) h Q := U_getf rfl
theorem F_45_41 {o : Nat} : m_ok xs L 45 ((pc, .getfield 41) :: r) ls (vR o :: st) h Q ↔ ∃ v, m_get h o 5 2 = some v ∧ m_ok xs L 45 r ls (v :: st) h Q := U_getf rfl
theorem D_46 {a0 a1 : MV} : m_do xs L 46 [a0, a1] h Q ↔ m_ok xs L 46 b_46_0 [a0, a1] [] h Q := Iff.rfl
theorem R_46 : m_ok xs L 46 ((pc, .return_) :: r) ls [] h Q ↔ Q (.inl none) h := V_vret rfl
theorem X_46 {e : Nat} : m_cont xs L 46 pc r ls st Q (.inr e) h ↔ Q (.inr e) h := V_contx rfl
theorem F_46_59 {o : Nat} : m_ok xs L 46 ((pc, .getfield 59) :: r) ls (vR o :: st) h Q ↔ ∃ v, m_get h o 5 7 = some v ∧ m_ok xs L 46 r ls (v :: st) h Q := U_getf rfl
theorem J_46_6 : m_jmp 46 6 (23) = b_46_29 := rfl
theorem F_46_9 {o : Nat} : m_ok xs L 46 ((pc, .getfield 9) :: r) ls (vR o :: st) h Q ↔ ∃ v, m_get h o 5 6 = some v ∧ m_ok xs L 46 r ls (v :: st) h Q := U_getf rfl
theorem W_46_59 {o : Nat} {v : MV} : m_ok xs L 46 ((pc, .putfield 59) :: r) ls (v :: vR o :: st) h Q ↔ (m_fit 0 v = true ∧ (m_get h o 5 7).isSome = true) ∧ m_ok xs L 46 r ls st (m_set h o 7 v) Q := U_putf rfl
theorem D_47 {a0 : MV} : m_do xs L 47 [a0] h Q ↔ m_ok xs L 47 b_47_0 [a0] [] h Q := Iff.rfl
theorem R_47 {a : Int} : m_ok xs L 47 ((pc, .ireturn) :: r) ls [vI a] h Q ↔ (a = 0 ∨ a = 1) ∧ Q (.inl (some (vI a))) h := V_iretz rfl
theorem X_47 {e : Nat} : m_cont xs L 47 pc r ls st Q (.inr e) h ↔ Q (.inr e) h := V_contx rfl
theorem F_47_74 {o : Nat} : m_ok xs L 47 ((pc, .getfield 74) :: r) ls (vR o :: st) h Q ↔ ∃ v, m_get h o 5 8 = some v ∧ m_ok xs L 47 r ls (v :: st) h Q := U_getf rfl
theorem F_47_32 {o : Nat} : m_ok xs L 47 ((pc, .getfield 32) :: r) ls (vR o :: st) h Q ↔ ∃ v, m_get h o 5 1 = some v ∧ m_ok xs L 47 r ls (v :: st) h Q := U_getf rfl
theorem F_47_77 {o : Nat} : m_ok xs L 47 ((pc, .getfield 77) :: r) ls (vR o :: st) h Q ↔ ∃ v, m_get h o 7 1 = some v ∧ m_ok xs L 47 r ls (v :: st) h Q := U_getf rfl
theorem J_47_11 : m_jmp 47 11 (26) = b_47_37 := rfl
theorem F_47_80 {o : Nat} : m_ok xs L 47 ((pc, .getfield 80) :: r) ls (vR o :: st) h Q ↔ ∃ v, m_get h o 5 9 = some v ∧ m_ok xs L 47 r ls (v :: st) h Q := U_getf rfl
theorem J_47_34 : m_jmp 47 34 (7) = b_47_41 := rfl
theorem J_47_38 : m_jmp 47 38 (4) = b_47_42 := rfl
theorem D_48 {a0 : MV} : m_do xs L 48 [a0] h Q ↔ m_ok xs L 48 b_48_0 [a0, vU, vU, vU] [] h Q := Iff.rfl
theorem R_48 : m_ok xs L 48 ((pc, .return_) :: r) ls [] h Q ↔ Q (.inl none) h := V_vret rfl
theorem X_48 {e : Nat} : m_cont xs L 48 pc r ls st Q (.inr e) h ↔ Q (.inr e) h := V_contx rfl
theorem F_48_80 {o : Nat} : m_ok xs L 48 ((pc, .getfield 80) :: r) ls (vR o :: st) h Q ↔ ∃ v, m_get h o 5 9 = some v ∧ m_ok xs L 48 r ls (v :: st) h Q := U_getf rfl
theorem F_48_74 {o : Nat} : m_ok xs L 48 ((pc, .getfield 74) :: r) ls (vR o :: st) h Q ↔ ∃ v, m_get h o 5 8 = some v ∧ m_ok xs L 48 r ls (v :: st) h Q := U_getf rfl
theorem F_48_24 {o : Nat} : m_ok xs L 48 ((pc, .getfield 24) :: r) ls (vR o :: st) h Q ↔ ∃ v, m_get h o 5 13 = some v ∧ m_ok xs L 48 r ls (v :: st) h Q := U_getf rfl
theorem F_48_42 {o : Nat} : m_ok xs L 48 ((pc, .getfield 42) :: r) ls (vR o :: st) h Q ↔ ∃ v, m_get h o 5 3 = some v ∧ m_ok xs L 48 r ls (v :: st) h Q := U_getf rfl
theorem J_48_29 : m_jmp 48 29 (12) = b_48_41 := rfl
theorem C_48_83 : m_ok xs L 48 ((pc, .ldc 83) :: r) ls st h Q ↔ m_ok xs L 48 r ls (vF 1120403456 :: st) h Q := V_ldc rfl
theorem J_48_38 : m_jmp 48 38 (4) = b_48_42 := rfl
theorem F_48_59 {o : Nat} : m_ok xs L 48 ((pc, .getfield 59) :: r) ls (vR o :: st) h Q ↔ ∃ v, m_get h o 5 7 = some v ∧ m_ok xs L 48 r ls (v :: st) h Q := U_getf rfl
theorem J_48_50 : m_jmp 48 50 (29) = b_48_79 := rfl
theorem F_48_21 {o : Nat} : m_ok xs L 48 ((pc, .getfield 21) :: r) ls (vR o :: st) h Q ↔ ∃ v, m_get h o 5 12 = some v ∧ m_ok xs L 48 r ls (v :: st) h Q := U_getf rfl
theorem F_48_9 {o : Nat} : m_ok xs L 48 ((pc, .getfield 9) :: r) ls (vR o :: st) h Q ↔ ∃ v, m_get h o 5 6 = some v ∧ m_ok xs L 48 r ls (v :: st) h Q := U_getf rfl
theorem J_48_76 : m_jmp 48 76 (-31) = b_48_45 := rfl
theorem D_49 {a0 a1 a2 : MV} : m_do xs L 49 [a0, a1, a2] h Q ↔ m_ok xs L 49 b_49_0 [a0, a1, a2] [] h Q := Iff.rfl
theorem R_49 : m_ok xs L 49 ((pc, .return_) :: r) ls [] h Q ↔ Q (.inl none) h := V_vret rfl
theorem X_49 {e : Nat} : m_cont xs L 49 pc r ls st Q (.inr e) h ↔ Q (.inr e) h := V_contx rfl
theorem F_49_18 {o : Nat} : m_ok xs L 49 ((pc, .getfield 18) :: r) ls (vR o :: st) h Q ↔ ∃ v, m_get h o 5 11 = some v ∧ m_ok xs L 49 r ls (v :: st) h Q := U_getf rfl
theorem F_49_42 {o : Nat} : m_ok xs L 49 ((pc, .getfield 42) :: r) ls (vR o :: st) h Q ↔ ∃ v, m_get h o 5 3 = some v ∧ m_ok xs L 49 r ls (v :: st) h Q := U_getf rfl
theorem W_49_46 {o : Nat} {v : MV} : m_ok xs L 49 ((pc, .putfield 46) :: r) ls (v :: vR o :: st) h Q ↔ (m_fit 0 v = true ∧ (m_get h o 5 4).isSome = true) ∧ m_ok xs L 49 r ls st (m_set h o 4 v) Q := U_putf rfl
theorem C_49_45 : m_ok xs L 49 ((pc, .ldc 45) :: r) ls st h Q ↔ m_ok xs L 49 r ls (vI 1000000 :: st) h Q := V_ldc rfl
theorem W_49_56 {o : Nat} {v : MV} : m_ok xs L 49 ((pc, .putfield 56) :: r) ls (v :: vR o :: st) h Q ↔ (m_fit 0 v = true ∧ (m_get h o 5 5).isSome = true) ∧ m_ok xs L 49 r ls st (m_set h o 5 v) Q := U_putf rfl
theorem D_50 {a0 a1 : MV} : m_do xs L 50 [a0, a1] h Q ↔ m_ok xs L 50 b_50_0 [a0, a1] [] h Q := Iff.rfl
theorem R_50 : m_ok xs L 50 ((pc, .return_) :: r) ls [] h Q ↔ Q (.inl none) h := V_vret rfl
theorem X_50 {e : Nat} : m_cont xs L 50 pc r ls st Q (.inr e) h ↔ Q (.inr e) h := V_contx rfl
theorem F_50_42 {o : Nat} : m_ok xs L 50 ((pc, .getfield 42) :: r) ls (vR o :: st) h Q ↔ ∃ v, m_get h o 5 3 = some v ∧ m_ok xs L 50 r ls (v :: st) h Q := U_getf rfl
theorem W_50_42 {o : Nat} {v : MV} : m_ok xs L 50 ((pc, .putfield 42) :: r) ls (v :: vR o :: st) h Q ↔ (m_fit 0 v = true ∧ (m_get h o 5 3).isSome = true) ∧ m_ok xs L 50 r ls st (m_set h o 3 v) Q := U_putf rfl
theorem F_50_15 {o : Nat} : m_ok xs L 50 ((pc, .getfield 15) :: r) ls (vR o :: st) h Q ↔ ∃ v, m_get h o 5 10 = some v ∧ m_ok xs L 50 r ls (v :: st) h Q := U_getf rfl
theorem C_50_45 : m_ok xs L 50 ((pc, .ldc 45) :: r) ls st h Q ↔ m_ok xs L 50 r ls (vI 1000000 :: st) h Q := V_ldc rfl
theorem W_50_46 {o : Nat} {v : MV} : m_ok xs L 50 ((pc, .putfield 46) :: r) ls (v :: vR o :: st) h Q ↔ (m_fit 0 v = true ∧ (m_get h o 5 4).isSome = true) ∧ m_ok xs L 50 r ls st (m_set h o 4 v) Q := U_putf rfl
theorem I_50_49 {o : Nat} : m_ok xs L 50 ((pc, .invokevirtual 49) :: r) ls (vR o :: st) h Q ↔ (m_tag h o = some 5 ∧ (st.map m_cat).sum ≤ 8 ∧ [].all (fun v => decide (m_cat v = 1)) = true) ∧ m_do xs L 44 [vR o] h (m_cont xs L 50 pc r ls st Q) := U_invv (mj := 44) (av := []) rfl rfl rfl (Nat.le_of_ble_eq_true rfl)
theorem J_50_31 : m_jmp 50 31 (8) = b_50_39 := rfl
theorem J_50_36 : m_jmp 50 36 (32) = b_50_68 := rfl
theorem F_50_32 {o : Nat} : m_ok xs L 50 ((pc, .getfield 32) :: r) ls (vR o :: st) h Q ↔ ∃ v, m_get h o 5 1 = some v ∧ m_ok xs L 50 r ls (v :: st) h Q := U_getf rfl
theorem F_50_53 {o : Nat} : m_ok xs L 50 ((pc, .getfield 53) :: r) ls (vR o :: st) h Q ↔ ∃ v, m_get h o 7 4 = some v ∧ m_ok xs L 50 r ls (v :: st) h Q := U_getf rfl
theorem F_50_84 {o : Nat} : m_ok xs L 50 ((pc, .getfield 84) :: r) ls (vR o :: st) h Q ↔ ∃ v, m_get h o 7 8 = some v ∧ m_ok xs L 50 r ls (v :: st) h Q := U_getf rfl
theorem M_50_87 {a b : Int} : m_ok xs L 50 ((pc, .invokestatic 87) :: r) ls (vI b :: vI a :: st) h Q ↔ (st.map m_cat).sum ≤ 8 ∧ m_ok xs L 50 r ls (vI (if a < b then b else a) :: st) h Q := U_max rfl
theorem W_50_56 {o : Nat} {v : MV} : m_ok xs L 50 ((pc, .putfield 56) :: r) ls (v :: vR o :: st) h Q ↔ (m_fit 0 v = true ∧ (m_get h o 5 5).isSome = true) ∧ m_ok xs L 50 r ls st (m_set h o 5 v) Q := U_putf rfl
theorem D_53 {a0 a1 a2 a3 a4 : MV} : m_do xs L 53 [a0, a1, a2, a3, a4] h Q ↔ m_ok xs L 53 b_53_0 [a0, a1, a2, a3, a4, vU] [] h Q := Iff.rfl
theorem R_53 {a : Int} : m_ok xs L 53 ((pc, .ireturn) :: r) ls [vI a] h Q ↔ Q (.inl (some (vI a))) h := V_ireti rfl
theorem X_53 {e : Nat} : m_cont xs L 53 pc r ls st Q (.inr e) h ↔ Q (.inr e) h := V_contx rfl
theorem F_53_9 {o : Nat} : m_ok xs L 53 ((pc, .getfield 9) :: r) ls (vR o :: st) h Q ↔ ∃ v, m_get h o 7 0 = some v ∧ m_ok xs L 53 r ls (v :: st) h Q := U_getf rfl
theorem F_53_18 {o : Nat} : m_ok xs L 53 ((pc, .getfield 18) :: r) ls (vR o :: st) h Q ↔ ∃ v, m_get h o 7 3 = some v ∧ m_ok xs L 53 r ls (v :: st) h Q := U_getf rfl
theorem F_53_25 {o : Nat} : m_ok xs L 53 ((pc, .getfield 25) :: r) ls (vR o :: st) h Q ↔ ∃ v, m_get h o 7 5 = some v ∧ m_ok xs L 53 r ls (v :: st) h Q := U_getf rfl
theorem F_53_31 {o : Nat} : m_ok xs L 53 ((pc, .getfield 31) :: r) ls (vR o :: st) h Q ↔ ∃ v, m_get h o 7 7 = some v ∧ m_ok xs L 53 r ls (v :: st) h Q := U_getf rfl
theorem F_53_34 {o : Nat} : m_ok xs L 53 ((pc, .getfield 34) :: r) ls (vR o :: st) h Q ↔ ∃ v, m_get h o 7 8 = some v ∧ m_ok xs L 53 r ls (v :: st) h Q := U_getf rfl
theorem F_53_22 {o : Nat} : m_ok xs L 53 ((pc, .getfield 22) :: r) ls (vR o :: st) h Q ↔ ∃ v, m_get h o 7 4 = some v ∧ m_ok xs L 53 r ls (v :: st) h Q := U_getf rfl
theorem F_53_37 {o : Nat} : m_ok xs L 53 ((pc, .getfield 37) :: r) ls (vR o :: st) h Q ↔ ∃ v, m_get h o 7 9 = some v ∧ m_ok xs L 53 r ls (v :: st) h Q := U_getf rfl
theorem W_53_9 {o : Nat} {v : MV} : m_ok xs L 53 ((pc, .putfield 9) :: r) ls (v :: vR o :: st) h Q ↔ (m_fit 0 v = true ∧ (m_get h o 7 0).isSome = true) ∧ m_ok xs L 53 r ls st (m_set h o 0 v) Q := U_putf rfl
theorem D_54 {a0 a1 a2 : MV} : m_do xs L 54 [a0, a1, a2] h Q ↔ m_ok xs L 54 b_54_0 [a0, a1, a2] [] h Q := Iff.rfl
theorem R_54 {a : Int} : m_ok xs L 54 ((pc, .ireturn) :: r) ls [vI a] h Q ↔ (a = 0 ∨ a = 1) ∧ Q (.inl (some (vI a))) h := V_iretz rfl
theorem X_54 {e : Nat} : m_cont xs L 54 pc r ls st Q (.inr e) h ↔ Q (.inr e) h := V_contx rfl
theorem F_54_37 {o : Nat} : m_ok xs L 54 ((pc, .getfield 37) :: r) ls (vR o :: st) h Q ↔ ∃ v, m_get h o 7 9 = some v ∧ m_ok xs L 54 r ls (v :: st) h Q := U_getf rfl
theorem J_54_7 : m_jmp 54 7 (22) = b_54_29 := rfl
theorem J_54_22 : m_jmp 54 22 (7) = b_54_29 := rfl
theorem J_54_26 : m_jmp 54 26 (4) = b_54_30 := rfl
theorem D_56 {a0 : MV} : m_do xs L 56 [a0] h Q ↔ m_ok xs L 56 b_56_0 [a0] [] h Q := Iff.rfl
theorem R_56 : m_ok xs L 56 ((pc, .return_) :: r) ls [] h Q ↔ Q (.inl none) h := V_vret rfl
theorem X_56 {e : Nat} : m_cont xs L 56 pc r ls st Q (.inr e) h ↔ Q (.inr e) h := V_contx rfl
theorem F_56_9 {o : Nat} : m_ok xs L 56 ((pc, .getfield 9) :: r) ls (vR o :: st) h Q ↔ ∃ v, m_get h o 8 0 = some v ∧ m_ok xs L 56 r ls (v :: st) h Q := U_getf rfl
theorem F_56_15 {o : Nat} : m_ok xs L 56 ((pc, .getfield 15) :: r) ls (vR o :: st) h Q ↔ ∃ v, m_get h o 1 1 = some v ∧ m_ok xs L 56 r ls (v :: st) h Q := U_getf rfl
theorem W_56_21 {o : Nat} {v : MV} : m_ok xs L 56 ((pc, .putfield 21) :: r) ls (v :: vR o :: st) h Q ↔ (m_fit 0 v = true ∧ (m_get h o 8 1).isSome = true) ∧ m_ok xs L 56 r ls st (m_set h o 1 v) Q := U_putf rfl
theorem W_56_22 {o : Nat} {v : MV} : m_ok xs L 56 ((pc, .putfield 22) :: r) ls (v :: vR o :: st) h Q ↔ (m_fit 0 v = true ∧ (m_get h o 8 2).isSome = true) ∧ m_ok xs L 56 r ls st (m_set h o 2 v) Q := U_putf rfl
theorem W_56_25 {o : Nat} {v : MV} : m_ok xs L 56 ((pc, .putfield 25) :: r) ls (v :: vR o :: st) h Q ↔ (m_fit 0 v = true ∧ (m_get h o 8 3).isSome = true) ∧ m_ok xs L 56 r ls st (m_set h o 3 v) Q := U_putf rfl
theorem W_56_28 {o : Nat} {v : MV} : m_ok xs L 56 ((pc, .putfield 28) :: r) ls (v :: vR o :: st) h Q ↔ (m_fit 0 v = true ∧ (m_get h o 8 4).isSome = true) ∧ m_ok xs L 56 r ls st (m_set h o 4 v) Q := U_putf rfl
theorem D_57 {a0 : MV} : m_do xs L 57 [a0] h Q ↔ m_ok xs L 57 b_57_0 [a0] [] h Q := Iff.rfl
theorem R_57 {a : Int} : m_ok xs L 57 ((pc, .ireturn) :: r) ls [vI a] h Q ↔ (a = 0 ∨ a = 1) ∧ Q (.inl (some (vI a))) h := V_iretz rfl
theorem X_57 {e : Nat} : m_cont xs L 57 pc r ls st Q (.inr e) h ↔ Q (.inr e) h := V_contx rfl
theorem F_57_9 {o : Nat} : m_ok xs L 57 ((pc, .getfield 9) :: r) ls (vR o :: st) h Q ↔ ∃ v, m_get h o 8 0 = some v ∧ m_ok xs L 57 r ls (v :: st) h Q := U_getf rfl
theorem F_57_31 {o : Nat} : m_ok xs L 57 ((pc, .getfield 31) :: r) ls (vR o :: st) h Q ↔ ∃ v, m_get h o 1 8 = some v ∧ m_ok xs L 57 r ls (v :: st) h Q := U_getf rfl
theorem J_57_7 : m_jmp 57 7 (21) = b_57_28 := rfl
theorem F_57_25 {o : Nat} : m_ok xs L 57 ((pc, .getfield 25) :: r) ls (vR o :: st) h Q ↔ ∃ v, m_get h o 8 3 = some v ∧ m_ok xs L 57 r ls (v :: st) h Q := U_getf rfl
theorem F_57_35 {o : Nat} : m_ok xs L 57 ((pc, .getfield 35) :: r) ls (vR o :: st) h Q ↔ ∃ v, m_get h o 1 9 = some v ∧ m_ok xs L 57 r ls (v :: st) h Q := U_getf rfl
theorem J_57_21 : m_jmp 57 21 (7) = b_57_28 := rfl
theorem J_57_25 : m_jmp 57 25 (4) = b_57_29 := rfl
theorem D_58 {a0 : MV} : m_do xs L 58 [a0] h Q ↔ m_ok xs L 58 b_58_0 [a0] [] h Q := Iff.rfl
theorem R_58 {a : Int} : m_ok xs L 58 ((pc, .ireturn) :: r) ls [vI a] h Q ↔ (a = 0 ∨ a = 1) ∧ Q (.inl (some (vI a))) h := V_iretz rfl
theorem X_58 {e : Nat} : m_cont xs L 58 pc r ls st Q (.inr e) h ↔ Q (.inr e) h := V_contx rfl
theorem F_58_9 {o : Nat} : m_ok xs L 58 ((pc, .getfield 9) :: r) ls (vR o :: st) h Q ↔ ∃ v, m_get h o 8 0 = some v ∧ m_ok xs L 58 r ls (v :: st) h Q := U_getf rfl
theorem F_58_35 {o : Nat} : m_ok xs L 58 ((pc, .getfield 35) :: r) ls (vR o :: st) h Q ↔ ∃ v, m_get h o 1 9 = some v ∧ m_ok xs L 58 r ls (v :: st) h Q := U_getf rfl
theorem J_58_7 : m_jmp 58 7 (21) = b_58_28 := rfl
theorem F_58_25 {o : Nat} : m_ok xs L 58 ((pc, .getfield 25) :: r) ls (vR o :: st) h Q ↔ ∃ v, m_get h o 8 3 = some v ∧ m_ok xs L 58 r ls (v :: st) h Q := U_getf rfl
theorem J_58_21 : m_jmp 58 21 (7) = b_58_28 := rfl
theorem J_58_25 : m_jmp 58 25 (4) = b_58_29 := rfl
theorem D_59 {a0 a1 a2 : MV} : m_do xs L 59 [a0, a1, a2] h Q ↔ m_ok xs L 59 b_59_0 [a0, a1, a2] [] h Q := Iff.rfl
theorem R_59 {a : Int} : m_ok xs L 59 ((pc, .ireturn) :: r) ls [vI a] h Q ↔ (a = 0 ∨ a = 1) ∧ Q (.inl (some (vI a))) h := V_iretz rfl
theorem X_59 {e : Nat} : m_cont xs L 59 pc r ls st Q (.inr e) h ↔ Q (.inr e) h := V_contx rfl
theorem F_59_21 {o : Nat} : m_ok xs L 59 ((pc, .getfield 21) :: r) ls (vR o :: st) h Q ↔ ∃ v, m_get h o 8 1 = some v ∧ m_ok xs L 59 r ls (v :: st) h Q := U_getf rfl
theorem J_59_5 : m_jmp 59 5 (15) = b_59_20 := rfl
theorem F_59_22 {o : Nat} : m_ok xs L 59 ((pc, .getfield 22) :: r) ls (vR o :: st) h Q ↔ ∃ v, m_get h o 8 2 = some v ∧ m_ok xs L 59 r ls (v :: st) h Q := U_getf rfl
theorem J_59_13 : m_jmp 59 13 (7) = b_59_20 := rfl
theorem J_59_17 : m_jmp 59 17 (4) = b_59_21 := rfl
theorem D_60 {a0 a1 a2 a3 : MV} : m_do xs L 60 [a0, a1, a2, a3] h Q ↔ m_ok xs L 60 b_60_0 [a0, a1, a2, a3, vU] [] h Q := Iff.rfl
theorem R_60 {a : Int} : m_ok xs L 60 ((pc, .ireturn) :: r) ls [vI a] h Q ↔ (a = 0 ∨ a = 1) ∧ Q (.inl (some (vI a))) h := V_iretz rfl
theorem X_60 {e : Nat} : m_cont xs L 60 pc r ls st Q (.inr e) h ↔ Q (.inr e) h := V_contx rfl
theorem F_60_9 {o : Nat} : m_ok xs L 60 ((pc, .getfield 9) :: r) ls (vR o :: st) h Q ↔ ∃ v, m_get h o 8 0 = some v ∧ m_ok xs L 60 r ls (v :: st) h Q := U_getf rfl
theorem F_60_31 {o : Nat} : m_ok xs L 60 ((pc, .getfield 31) :: r) ls (vR o :: st) h Q ↔ ∃ v, m_get h o 1 8 = some v ∧ m_ok xs L 60 r ls (v :: st) h Q := U_getf rfl
theorem J_60_7 : m_jmp 60 7 (5) = b_60_12 := rfl
theorem F_60_25 {o : Nat} : m_ok xs L 60 ((pc, .getfield 25) :: r) ls (vR o :: st) h Q ↔ ∃ v, m_get h o 8 3 = some v ∧ m_ok xs L 60 r ls (v :: st) h Q := U_getf rfl
theorem F_60_35 {o : Nat} : m_ok xs L 60 ((pc, .getfield 35) :: r) ls (vR o :: st) h Q ↔ ∃ v, m_get h o 1 9 = some v ∧ m_ok xs L 60 r ls (v :: st) h Q := U_getf rfl
theorem J_60_27 : m_jmp 60 27 (57) = b_60_84 := rfl
theorem F_60_38 {o : Nat} : m_ok xs L 60 ((pc, .getfield 38) :: r) ls (vR o :: st) h Q ↔ ∃ v, m_get h o 1 10 = some v ∧ m_ok xs L 60 r ls (v :: st) h Q := U_getf rfl
theorem J_60_41 : m_jmp 60 41 (37) = b_60_78 := rfl
theorem F_60_42 {o : Nat} : m_ok xs L 60 ((pc, .getfield 42) :: r) ls (vR o :: st) h Q ↔ ∃ v, m_get h o 1 11 = some v ∧ m_ok xs L 60 r ls (v :: st) h Q := U_getf rfl
theorem J_60_55 : m_jmp 60 55 (23) = b_60_78 := rfl
theorem J_60_64 : m_jmp 60 64 (12) = b_60_76 := rfl
theorem I_60_45 {o : Nat} {a0 a1 : MV} : m_ok xs L 60 ((pc, .invokevirtual 45) :: r) ls (a1 :: a0 :: vR o :: st) h Q ↔ (m_tag h o = some 8 ∧ (st.map m_cat).sum ≤ 8 ∧ [a1, a0].all (fun v => decide (m_cat v = 1)) = true) ∧ m_do xs L 59 [vR o, a0, a1] h (m_cont xs L 60 pc r ls st Q) := U_invv (mj := 59) (av := [a1, a0]) rfl rfl rfl (Nat.le_of_ble_eq_true rfl)
theorem J_60_73 : m_jmp 60 73 (5) = b_60_78 := rfl
theorem J_60_81 : m_jmp 60 81 (-63) = b_60_18 := rfl
theorem D_61 {a0 a1 a2 : MV} : m_do xs L 61 [a0, a1, a2] h Q ↔ m_ok xs L 61 b_61_0 [a0, a1, a2] [] h Q := Iff.rfl
theorem R_61 : m_ok xs L 61 ((pc, .return_) :: r) ls [] h Q ↔ Q (.inl none) h := V_vret rfl
theorem X_61 {e : Nat} : m_cont xs L 61 pc r ls st Q (.inr e) h ↔ Q (.inr e) h := V_contx rfl
theorem W_61_21 {o : Nat} {v : MV} : m_ok xs L 61 ((pc, .putfield 21) :: r) ls (v :: vR o :: st) h Q ↔ (m_fit 0 v = true ∧ (m_get h o 8 1).isSome = true) ∧ m_ok xs L 61 r ls st (m_set h o 1 v) Q := U_putf rfl
theorem W_61_22 {o : Nat} {v : MV} : m_ok xs L 61 ((pc, .putfield 22) :: r) ls (v :: vR o :: st) h Q ↔ (m_fit 0 v = true ∧ (m_get h o 8 2).isSome = true) ∧ m_ok xs L 61 r ls st (m_set h o 2 v) Q := U_putf rfl
theorem D_62 {a0 : MV} : m_do xs L 62 [a0] h Q ↔ m_ok xs L 62 b_62_0 [a0] [] h Q := Iff.rfl
theorem R_62 : m_ok xs L 62 ((pc, .return_) :: r) ls [] h Q ↔ Q (.inl none) h := V_vret rfl
theorem X_62 {e : Nat} : m_cont xs L 62 pc r ls st Q (.inr e) h ↔ Q (.inr e) h := V_contx rfl
theorem W_62_21 {o : Nat} {v : MV} : m_ok xs L 62 ((pc, .putfield 21) :: r) ls (v :: vR o :: st) h Q ↔ (m_fit 0 v = true ∧ (m_get h o 8 1).isSome = true) ∧ m_ok xs L 62 r ls st (m_set h o 1 v) Q := U_putf rfl
theorem W_62_22 {o : Nat} {v : MV} : m_ok xs L 62 ((pc, .putfield 22) :: r) ls (v :: vR o :: st) h Q ↔ (m_fit 0 v = true ∧ (m_get h o 8 2).isSome = true) ∧ m_ok xs L 62 r ls st (m_set h o 2 v) Q := U_putf rfl
theorem D_64 {a0 a1 a2 : MV} : m_do xs L 64 [a0, a1, a2] h Q ↔ m_ok xs L 64 b_64_0 [a0, a1, a2] [] h Q := Iff.rfl
theorem R_64 {a : Int} : m_ok xs L 64 ((pc, .ireturn) :: r) ls [vI a] h Q ↔ Q (.inl (some (vI a))) h := V_ireti rfl
theorem X_64 {e : Nat} : m_cont xs L 64 pc r ls st Q (.inr e) h ↔ Q (.inr e) h := V_contx rfl
theorem I_64_38 {a0 a1 a2 : MV} : m_ok xs L 64 ((pc, .invokestatic 38) :: r) ls (a2 :: a1 :: a0 :: st) h Q ↔ ((st.map m_cat).sum ≤ 8 ∧ [a2, a1, a0].all (fun v => decide (m_cat v = 1)) = true) ∧ m_do xs L 93 [a0, a1, a2] h (m_cont xs L 64 pc r ls st Q) := U_invs (mj := 93) (av := [a2, a1, a0]) rfl rfl rfl (Nat.le_of_ble_eq_true rfl)
theorem F_64_10 {o : Nat} : m_ok xs L 64 ((pc, .getfield 10) :: r) ls (vR o :: st) h Q ↔ ∃ v, m_get h o 9 0 = some v ∧ m_ok xs L 64 r ls (v :: st) h Q := U_getf rfl
theorem F_64_42 {o : Nat} : m_ok xs L 64 ((pc, .getfield 42) :: r) ls (vR o :: st) h Q ↔ ∃ v, m_get h o 4 1 = some v ∧ m_ok xs L 64 r ls (v :: st) h Q := U_getf rfl
theorem J_64_21 : m_jmp 64 21 (13) = b_64_34 := rfl
theorem N_64_24 {p1 p2 p3 p4 : Nat} : m_ok xs L 64 ((pc, .new 46) :: (p1, .dup) :: (p2, .ldc 48) :: (p3, .invokespecial 50) :: (p4, .athrow) :: r) ls [] h Q ↔ Q (.inr 2) (h.1, h.2.1 + 1, h.2.2 + 6) := V_throw rfl rfl rfl (by decide)
theorem I_64_53 {o : Nat} {a0 a1 : MV} : m_ok xs L 64 ((pc, .invokevirtual 53) :: r) ls (a1 :: a0 :: vR o :: st) h Q ↔ (m_tag h o = some 4 ∧ (st.map m_cat).sum ≤ 8 ∧ [a1, a0].all (fun v => decide (m_cat v = 1)) = true) ∧ m_do xs L 39 [vR o, a0, a1] h (m_cont xs L 64 pc r ls st Q) := U_invv (mj := 39) (av := [a1, a0]) rfl rfl rfl (Nat.le_of_ble_eq_true rfl)
theorem D_65 {a0 a1 a2 a3 : MV} : m_do xs L 65 [a0, a1, a2, a3] h Q ↔ m_ok xs L 65 b_65_0 [a0, a1, a2, a3] [] h Q := Iff.rfl
theorem R_65 {a : Int} : m_ok xs L 65 ((pc, .ireturn) :: r) ls [vI a] h Q ↔ Q (.inl (some (vI a))) h := V_ireti rfl
theorem X_65 {e : Nat} : m_cont xs L 65 pc r ls st Q (.inr e) h ↔ Q (.inr e) h := V_contx rfl
theorem I_65_57 {o : Nat} {a0 : MV} : m_ok xs L 65 ((pc, .invokevirtual 57) :: r) ls (a0 :: vR o :: st) h Q ↔ (m_tag h o = some 9 ∧ (st.map m_cat).sum ≤ 8 ∧ [a0].all (fun v => decide (m_cat v = 1)) = true) ∧ m_do xs L 88 [vR o, a0] h (m_cont xs L 65 pc r ls st Q) := U_invv (mj := 88) (av := [a0]) rfl rfl rfl (Nat.le_of_ble_eq_true rfl)
theorem I_65_38 {a0 a1 a2 : MV} : m_ok xs L 65 ((pc, .invokestatic 38) :: r) ls (a2 :: a1 :: a0 :: st) h Q ↔ ((st.map m_cat).sum ≤ 8 ∧ [a2, a1, a0].all (fun v => decide (m_cat v = 1)) = true) ∧ m_do xs L 93 [a0, a1, a2] h (m_cont xs L 65 pc r ls st Q) := U_invs (mj := 93) (av := [a2, a1, a0]) rfl rfl rfl (Nat.le_of_ble_eq_true rfl)
theorem F_65_10 {o : Nat} : m_ok xs L 65 ((pc, .getfield 10) :: r) ls (vR o :: st) h Q ↔ ∃ v, m_get h o 9 0 = some v ∧ m_ok xs L 65 r ls (v :: st) h Q := U_getf rfl
theorem F_65_61 {o : Nat} : m_ok xs L 65 ((pc, .getfield 61) :: r) ls (vR o :: st) h Q ↔ ∃ v, m_get h o 4 3 = some v ∧ m_ok xs L 65 r ls (v :: st) h Q := U_getf rfl
theorem J_65_30 : m_jmp 65 30 (13) = b_65_43 := rfl
theorem N_65_33 {p1 p2 p3 p4 : Nat} : m_ok xs L 65 ((pc, .new 46) :: (p1, .dup) :: (p2, .ldc 64) :: (p3, .invokespecial 50) :: (p4, .athrow) :: r) ls [] h Q ↔ Q (.inr 2) (h.1, h.2.1 + 1, h.2.2 + 6) := V_throw rfl rfl rfl (by decide)
theorem I_65_66 {o : Nat} {a0 a1 a2 : MV} : m_ok xs L 65 ((pc, .invokevirtual 66) :: r) ls (a2 :: a1 :: a0 :: vR o :: st) h Q ↔ (m_tag h o = some 4 ∧ (st.map m_cat).sum ≤ 8 ∧ [a2, a1, a0].all (fun v => decide (m_cat v = 1)) = true) ∧ m_do xs L 40 [vR o, a0, a1, a2] h (m_cont xs L 65 pc r ls st Q) := U_invv (mj := 40) (av := [a2, a1, a0]) rfl rfl rfl (Nat.le_of_ble_eq_true rfl)
theorem D_66 {a0 a1 a2 a3 a4 a5 : MV} : m_do xs L 66 [a0, a1, a2, a3, a4, a5] h Q ↔ m_ok xs L 66 b_66_0 [a0, a1, a2, a3, a4, a5, vU] [] h Q := Iff.rfl
theorem R_66 {a : Int} : m_ok xs L 66 ((pc, .ireturn) :: r) ls [vI a] h Q ↔ Q (.inl (some (vI a))) h := V_ireti rfl
theorem X_66 {e : Nat} : m_cont xs L 66 pc r ls st Q (.inr e) h ↔ Q (.inr e) h := V_contx rfl
theorem I_66_70 {o : Nat} {a0 : MV} : m_ok xs L 66 ((pc, .invokevirtual 70) :: r) ls (a0 :: vR o :: st) h Q ↔ (m_tag h o = some 9 ∧ (st.map m_cat).sum ≤ 8 ∧ [a0].all (fun v => decide (m_cat v = 1)) = true) ∧ m_do xs L 89 [vR o, a0] h (m_cont xs L 66 pc r ls st Q) := U_invv (mj := 89) (av := [a0]) rfl rfl rfl (Nat.le_of_ble_eq_true rfl)
theorem I_66_57 {o : Nat} {a0 : MV} : m_ok xs L 66 ((pc, .invokevirtual 57) :: r) ls (a0 :: vR o :: st) h Q ↔ (m_tag h o = some 9 ∧ (st.map m_cat).sum ≤ 8 ∧ [a0].all (fun v => decide (m_cat v = 1)) = true) ∧ m_do xs L 88 [vR o, a0] h (m_cont xs L 66 pc r ls st Q) := U_invv (mj := 88) (av := [a0]) rfl rfl rfl (Nat.le_of_ble_eq_true rfl)
theorem I_66_38 {a0 a1 a2 : MV} : m_ok xs L 66 ((pc, .invokestatic 38) :: r) ls (a2 :: a1 :: a0 :: st) h Q ↔ ((st.map m_cat).sum ≤ 8 ∧ [a2, a1, a0].all (fun v => decide (m_cat v = 1)) = true) ∧ m_do xs L 93 [a0, a1, a2] h (m_cont xs L 66 pc r ls st Q) := U_invs (mj := 93) (av := [a2, a1, a0]) rfl rfl rfl (Nat.le_of_ble_eq_true rfl)
theorem F_66_10 {o : Nat} : m_ok xs L 66 ((pc, .getfield 10) :: r) ls (vR o :: st) h Q ↔ ∃ v, m_get h o 9 0 = some v ∧ m_ok xs L 66 r ls (v :: st) h Q := U_getf rfl
theorem F_66_73 {o : Nat} : m_ok xs L 66 ((pc, .getfield 73) :: r) ls (vR o :: st) h Q ↔ ∃ v, m_get h o 4 2 = some v ∧ m_ok xs L 66 r ls (v :: st) h Q := U_getf rfl
theorem F_66_77 {o : Nat} : m_ok xs L 66 ((pc, .getfield 77) :: r) ls (vR o :: st) h Q ↔ ∃ v, m_get h o 7 9 = some v ∧ m_ok xs L 66 r ls (v :: st) h Q := U_getf rfl
theorem J_66_54 : m_jmp 66 54 (22) = b_66_76 := rfl
theorem F_66_83 {o : Nat} : m_ok xs L 66 ((pc, .getfield 83) :: r) ls (vR o :: st) h Q ↔ ∃ v, m_get h o 7 0 = some v ∧ m_ok xs L 66 r ls (v :: st) h Q := U_getf rfl
theorem J_66_63 : m_jmp 66 63 (13) = b_66_76 := rfl
theorem J_66_73 : m_jmp 66 73 (13) = b_66_86 := rfl
theorem N_66_76 {p1 p2 p3 p4 : Nat} : m_ok xs L 66 ((pc, .new 46) :: (p1, .dup) :: (p2, .ldc 86) :: (p3, .invokespecial 50) :: (p4, .athrow) :: r) ls [] h Q ↔ Q (.inr 2) (h.1, h.2.1 + 1, h.2.2 + 6) := V_throw rfl rfl rfl (by decide)
theorem F_66_88 {o : Nat} : m_ok xs L 66 ((pc, .getfield 88) :: r) ls (vR o :: st) h Q ↔ ∃ v, m_get h o 4 6 = some v ∧ m_ok xs L 66 r ls (v :: st) h Q := U_getf rfl
theorem W_66_88 {o : Nat} {v : MV} : m_ok xs L 66 ((pc, .putfield 88) :: r) ls (v :: vR o :: st) h Q ↔ (m_fit 0 v = true ∧ (m_get h o 4 6).isSome = true) ∧ m_ok xs L 66 r ls st (m_set h o 6 v) Q := U_putf rfl
theorem I_66_91 {o : Nat} {a0 a1 a2 a3 : MV} : m_ok xs L 66 ((pc, .invokevirtual 91) :: r) ls (a3 :: a2 :: a1 :: a0 :: vR o :: st) h Q ↔ (m_tag h o = some 7 ∧ (st.map m_cat).sum ≤ 8 ∧ [a3, a2, a1, a0].all (fun v => decide (m_cat v = 1)) = true) ∧ m_do xs L 53 [vR o, a0, a1, a2, a3] h (m_cont xs L 66 pc r ls st Q) := U_invv (mj := 53) (av := [a3, a2, a1, a0]) rfl rfl rfl (Nat.le_of_ble_eq_true rfl)
theorem D_67 {a0 a1 a2 : MV} : m_do xs L 67 [a0, a1, a2] h Q ↔ m_ok xs L 67 b_67_0 [a0, a1, a2, vU, vU] [] h Q := Iff.rfl
theorem R_67 {a : Int} : m_ok xs L 67 ((pc, .ireturn) :: r) ls [vI a] h Q ↔ Q (.inl (some (vI a))) h := V_ireti rfl
theorem X_67 {e : Nat} : m_cont xs L 67 pc r ls st Q (.inr e) h ↔ Q (.inr e) h := V_contx rfl
theorem I_67_70 {o : Nat} {a0 : MV} : m_ok xs L 67 ((pc, .invokevirtual 70) :: r) ls (a0 :: vR o :: st) h Q ↔ (m_tag h o = some 9 ∧ (st.map m_cat).sum ≤ 8 ∧ [a0].all (fun v => decide (m_cat v = 1)) = true) ∧ m_do xs L 89 [vR o, a0] h (m_cont xs L 67 pc r ls st Q) := U_invv (mj := 89) (av := [a0]) rfl rfl rfl (Nat.le_of_ble_eq_true rfl)
theorem I_67_38 {a0 a1 a2 : MV} : m_ok xs L 67 ((pc, .invokestatic 38) :: r) ls (a2 :: a1 :: a0 :: st) h Q ↔ ((st.map m_cat).sum ≤ 8 ∧ [a2, a1, a0].all (fun v => decide (m_cat v = 1)) = true) ∧ m_do xs L 93 [a0, a1, a2] h (m_cont xs L 67 pc r ls st Q) := U_invs (mj := 93) (av := [a2, a1, a0]) rfl rfl rfl (Nat.le_of_ble_eq_true rfl)
theorem F_67_10 {o : Nat} : m_ok xs L 67 ((pc, .getfield 10) :: r) ls (vR o :: st) h Q ↔ ∃ v, m_get h o 9 0 = some v ∧ m_ok xs L 67 r ls (v :: st) h Q := U_getf rfl
theorem F_67_73 {o : Nat} : m_ok xs L 67 ((pc, .getfield 73) :: r) ls (vR o :: st) h Q ↔ ∃ v, m_get h o 4 2 = some v ∧ m_ok xs L 67 r ls (v :: st) h Q := U_getf rfl
theorem F_67_95 {o : Nat} : m_ok xs L 67 ((pc, .getfield 95) :: r) ls (vR o :: st) h Q ↔ ∃ v, m_get h o 7 2 = some v ∧ m_ok xs L 67 r ls (v :: st) h Q := U_getf rfl
theorem W_67_95 {o : Nat} {v : MV} : m_ok xs L 67 ((pc, .putfield 95) :: r) ls (v :: vR o :: st) h Q ↔ (m_fit 0 v = true ∧ (m_get h o 7 2).isSome = true) ∧ m_ok xs L 67 r ls st (m_set h o 2 v) Q := U_putf rfl
theorem F_67_88 {o : Nat} : m_ok xs L 67 ((pc, .getfield 88) :: r) ls (vR o :: st) h Q ↔ ∃ v, m_get h o 4 6 = some v ∧ m_ok xs L 67 r ls (v :: st) h Q := U_getf rfl
theorem W_67_88 {o : Nat} {v : MV} : m_ok xs L 67 ((pc, .putfield 88) :: r) ls (v :: vR o :: st) h Q ↔ (m_fit 0 v = true ∧ (m_get h o 4 6).isSome = true) ∧ m_ok xs L 67 r ls st (m_set h o 6 v) Q := U_putf rfl
theorem D_68 {a0 a1 a2 a3 : MV} : m_do xs L 68 [a0, a1, a2, a3] h Q ↔ m_ok xs L 68 b_68_0 [a0, a1, a2, a3, vU, vU] [] h Q := Iff.rfl
theorem R_68 {a : Int} : m_ok xs L 68 ((pc, .ireturn) :: r) ls [vI a] h Q ↔ Q (.inl (some (vI a))) h := V_ireti rfl
theorem X_68 {e : Nat} : m_cont xs L 68 pc r ls st Q (.inr e) h ↔ Q (.inr e) h := V_contx rfl
theorem I_68_98 {o : Nat} {a0 a1 : MV} : m_ok xs L 68 ((pc, .invokevirtual 98) :: r) ls (a1 :: a0 :: vR o :: st) h Q ↔ (m_tag h o = some 9 ∧ (st.map m_cat).sum ≤ 8 ∧ [a1, a0].all (fun v => decide (m_cat v = 1)) = true) ∧ m_do xs L 90 [vR o, a0, a1] h (m_cont xs L 68 pc r ls st Q) := U_invv (mj := 90) (av := [a1, a0]) rfl rfl rfl (Nat.le_of_ble_eq_true rfl)
theorem J_68_7 : m_jmp 68 7 (13) = b_68_20 := rfl
theorem N_68_10 {p1 p2 p3 p4 : Nat} : m_ok xs L 68 ((pc, .new 102) :: (p1, .dup) :: (p2, .ldc 104) :: (p3, .invokespecial 106) :: (p4, .athrow) :: r) ls [] h Q ↔ Q (.inr 0) (h.1, h.2.1 + 1, h.2.2 + 6) := V_throw rfl rfl rfl (by decide)
theorem I_68_38 {a0 a1 a2 : MV} : m_ok xs L 68 ((pc, .invokestatic 38) :: r) ls (a2 :: a1 :: a0 :: st) h Q ↔ ((st.map m_cat).sum ≤ 8 ∧ [a2, a1, a0].all (fun v => decide (m_cat v = 1)) = true) ∧ m_do xs L 93 [a0, a1, a2] h (m_cont xs L 68 pc r ls st Q) := U_invs (mj := 93) (av := [a2, a1, a0]) rfl rfl rfl (Nat.le_of_ble_eq_true rfl)
theorem F_68_10 {o : Nat} : m_ok xs L 68 ((pc, .getfield 10) :: r) ls (vR o :: st) h Q ↔ ∃ v, m_get h o 9 0 = some v ∧ m_ok xs L 68 r ls (v :: st) h Q := U_getf rfl
theorem F_68_73 {o : Nat} : m_ok xs L 68 ((pc, .getfield 73) :: r) ls (vR o :: st) h Q ↔ ∃ v, m_get h o 4 2 = some v ∧ m_ok xs L 68 r ls (v :: st) h Q := U_getf rfl
theorem F_68_107 {o : Nat} : m_ok xs L 68 ((pc, .getfield 107) :: r) ls (vR o :: st) h Q ↔ ∃ v, m_get h o 7 6 = some v ∧ m_ok xs L 68 r ls (v :: st) h Q := U_getf rfl
theorem F_68_88 {o : Nat} : m_ok xs L 68 ((pc, .getfield 88) :: r) ls (vR o :: st) h Q ↔ ∃ v, m_get h o 4 6 = some v ∧ m_ok xs L 68 r ls (v :: st) h Q := U_getf rfl
theorem W_68_88 {o : Nat} {v : MV} : m_ok xs L 68 ((pc, .putfield 88) :: r) ls (v :: vR o :: st) h Q ↔ (m_fit 0 v = true ∧ (m_get h o 4 6).isSome = true) ∧ m_ok xs L 68 r ls st (m_set h o 6 v) Q := U_putf rfl
theorem D_69 {a0 a1 a2 a3 a4 a5 a6 a7 : MV} : m_do xs L 69 [a0, a1, a2, a3, a4, a5, a6, a7] h Q ↔ m_ok xs L 69 b_69_0 [a0, a1, a2, a3, a4, a5, a6, a7, vU] [] h Q := Iff.rfl
theorem R_69 {a : Int} : m_ok xs L 69 ((pc, .ireturn) :: r) ls [vI a] h Q ↔ Q (.inl (some (vI a))) h := V_ireti rfl
theorem X_69 {e : Nat} : m_cont xs L 69 pc r ls st Q (.inr e) h ↔ Q (.inr e) h := V_contx rfl
theorem I_69_57 {o : Nat} {a0 : MV} : m_ok xs L 69 ((pc, .invokevirtual 57) :: r) ls (a0 :: vR o :: st) h Q ↔ (m_tag h o = some 9 ∧ (st.map m_cat).sum ≤ 8 ∧ [a0].all (fun v => decide (m_cat v = 1)) = true) ∧ m_do xs L 88 [vR o, a0] h (m_cont xs L 69 pc r ls st Q) := U_invv (mj := 88) (av := [a0]) rfl rfl rfl (Nat.le_of_ble_eq_true rfl)
theorem I_69_38 {a0 a1 a2 : MV} : m_ok xs L 69 ((pc, .invokestatic 38) :: r) ls (a2 :: a1 :: a0 :: st) h Q ↔ ((st.map m_cat).sum ≤ 8 ∧ [a2, a1, a0].all (fun v => decide (m_cat v = 1)) = true) ∧ m_do xs L 93 [a0, a1, a2] h (m_cont xs L 69 pc r ls st Q) := U_invs (mj := 93) (av := [a2, a1, a0]) rfl rfl rfl (Nat.le_of_ble_eq_true rfl)
theorem F_69_10 {o : Nat} : m_ok xs L 69 ((pc, .getfield 10) :: r) ls (vR o :: st) h Q ↔ ∃ v, m_get h o 9 0 = some v ∧ m_ok xs L 69 r ls (v :: st) h Q := U_getf rfl
theorem F_69_110 {o : Nat} : m_ok xs L 69 ((pc, .getfield 110) :: r) ls (vR o :: st) h Q ↔ ∃ v, m_get h o 4 5 = some v ∧ m_ok xs L 69 r ls (v :: st) h Q := U_getf rfl
theorem J_69_51 : m_jmp 69 51 (13) = b_69_64 := rfl
theorem N_69_54 {p1 p2 p3 p4 : Nat} : m_ok xs L 69 ((pc, .new 46) :: (p1, .dup) :: (p2, .ldc 113) :: (p3, .invokespecial 50) :: (p4, .athrow) :: r) ls [] h Q ↔ Q (.inr 2) (h.1, h.2.1 + 1, h.2.2 + 6) := V_throw rfl rfl rfl (by decide)
theorem I_69_115 {o : Nat} : m_ok xs L 69 ((pc, .invokevirtual 115) :: r) ls (vR o :: st) h Q ↔ (m_tag h o = some 4 ∧ (st.map m_cat).sum ≤ 8 ∧ [].all (fun v => decide (m_cat v = 1)) = true) ∧ m_do xs L 41 [vR o] h (m_cont xs L 69 pc r ls st Q) := U_invv (mj := 41) (av := []) rfl rfl rfl (Nat.le_of_ble_eq_true rfl)
theorem W_69_119 {o : Nat} {v : MV} : m_ok xs L 69 ((pc, .putfield 119) :: r) ls (v :: vR o :: st) h Q ↔ (m_fit 0 v = true ∧ (m_get h o 1 1).isSome = true) ∧ m_ok xs L 69 r ls st (m_set h o 1 v) Q := U_putf rfl
theorem W_69_124 {o : Nat} {v : MV} : m_ok xs L 69 ((pc, .putfield 124) :: r) ls (v :: vR o :: st) h Q ↔ (m_fit 0 v = true ∧ (m_get h o 1 2).isSome = true) ∧ m_ok xs L 69 r ls st (m_set h o 2 v) Q := U_putf rfl
theorem W_69_127 {o : Nat} {v : MV} : m_ok xs L 69 ((pc, .putfield 127) :: r) ls (v :: vR o :: st) h Q ↔ (m_fit 0 v = true ∧ (m_get h o 1 3).isSome = true) ∧ m_ok xs L 69 r ls st (m_set h o 3 v) Q := U_putf rfl
theorem W_69_130 {o : Nat} {v : MV} : m_ok xs L 69 ((pc, .putfield 130) :: r) ls (v :: vR o :: st) h Q ↔ (m_fit 0 v = true ∧ (m_get h o 1 4).isSome = true) ∧ m_ok xs L 69 r ls st (m_set h o 4 v) Q := U_putf rfl
theorem W_69_133 {o : Nat} {v : MV} : m_ok xs L 69 ((pc, .putfield 133) :: r) ls (v :: vR o :: st) h Q ↔ (m_fit 0 v = true ∧ (m_get h o 1 5).isSome = true) ∧ m_ok xs L 69 r ls st (m_set h o 5 v) Q := U_putf rfl
theorem W_69_136 {o : Nat} {v : MV} : m_ok xs L 69 ((pc, .putfield 136) :: r) ls (v :: vR o :: st) h Q ↔ (m_fit 0 v = true ∧ (m_get h o 1 6).isSome = true) ∧ m_ok xs L 69 r ls st (m_set h o 6 v) Q := U_putf rfl
theorem W_69_139 {o : Nat} {v : MV} : m_ok xs L 69 ((pc, .putfield 139) :: r) ls (v :: vR o :: st) h Q ↔ (m_fit 1 v = true ∧ (m_get h o 1 7).isSome = true) ∧ m_ok xs L 69 r ls st (m_set h o 7 v) Q := U_putf rfl
theorem F_69_143 {o : Nat} : m_ok xs L 69 ((pc, .getfield 143) :: r) ls (vR o :: st) h Q ↔ ∃ v, m_get h o 1 0 = some v ∧ m_ok xs L 69 r ls (v :: st) h Q := U_getf rfl
theorem D_70 {a0 a1 a2 a3 : MV} : m_do xs L 70 [a0, a1, a2, a3] h Q ↔ m_ok xs L 70 b_70_0 [a0, a1, a2, a3, vU, vU] [] h Q := Iff.rfl
theorem R_70 {a : Int} : m_ok xs L 70 ((pc, .ireturn) :: r) ls [vI a] h Q ↔ Q (.inl (some (vI a))) h := V_ireti rfl
theorem X_70 {e : Nat} : m_cont xs L 70 pc r ls st Q (.inr e) h ↔ Q (.inr e) h := V_contx rfl
theorem I_70_146 {o : Nat} {a0 : MV} : m_ok xs L 70 ((pc, .invokevirtual 146) :: r) ls (a0 :: vR o :: st) h Q ↔ (m_tag h o = some 9 ∧ (st.map m_cat).sum ≤ 8 ∧ [a0].all (fun v => decide (m_cat v = 1)) = true) ∧ m_do xs L 91 [vR o, a0] h (m_cont xs L 70 pc r ls st Q) := U_invv (mj := 91) (av := [a0]) rfl rfl rfl (Nat.le_of_ble_eq_true rfl)
theorem I_70_70 {o : Nat} {a0 : MV} : m_ok xs L 70 ((pc, .invokevirtual 70) :: r) ls (a0 :: vR o :: st) h Q ↔ (m_tag h o = some 9 ∧ (st.map m_cat).sum ≤ 8 ∧ [a0].all (fun v => decide (m_cat v = 1)) = true) ∧ m_do xs L 89 [vR o, a0] h (m_cont xs L 70 pc r ls st Q) := U_invv (mj := 89) (av := [a0]) rfl rfl rfl (Nat.le_of_ble_eq_true rfl)
theorem I_70_57 {o : Nat} {a0 : MV} : m_ok xs L 70 ((pc, .invokevirtual 57) :: r) ls (a0 :: vR o :: st) h Q ↔ (m_tag h o = some 9 ∧ (st.map m_cat).sum ≤ 8 ∧ [a0].all (fun v => decide (m_cat v = 1)) = true) ∧ m_do xs L 88 [vR o, a0] h (m_cont xs L 70 pc r ls st Q) := U_invv (mj := 88) (av := [a0]) rfl rfl rfl (Nat.le_of_ble_eq_true rfl)
theorem F_70_10 {o : Nat} : m_ok xs L 70 ((pc, .getfield 10) :: r) ls (vR o :: st) h Q ↔ ∃ v, m_get h o 9 0 = some v ∧ m_ok xs L 70 r ls (v :: st) h Q := U_getf rfl
theorem F_70_149 {o : Nat} : m_ok xs L 70 ((pc, .getfield 149) :: r) ls (vR o :: st) h Q ↔ ∃ v, m_get h o 4 4 = some v ∧ m_ok xs L 70 r ls (v :: st) h Q := U_getf rfl
theorem F_70_153 {o : Nat} : m_ok xs L 70 ((pc, .getfield 153) :: r) ls (vR o :: st) h Q ↔ ∃ v, m_get h o 1 9 = some v ∧ m_ok xs L 70 r ls (v :: st) h Q := U_getf rfl
theorem J_70_32 : m_jmp 70 32 (11) = b_70_43 := rfl
theorem F_70_156 {o : Nat} : m_ok xs L 70 ((pc, .getfield 156) :: r) ls (vR o :: st) h Q ↔ ∃ v, m_get h o 1 8 = some v ∧ m_ok xs L 70 r ls (v :: st) h Q := U_getf rfl
theorem J_70_40 : m_jmp 70 40 (13) = b_70_53 := rfl
theorem N_70_43 {p1 p2 p3 p4 : Nat} : m_ok xs L 70 ((pc, .new 46) :: (p1, .dup) :: (p2, .ldc 159) :: (p3, .invokespecial 50) :: (p4, .athrow) :: r) ls [] h Q ↔ Q (.inr 2) (h.1, h.2.1 + 1, h.2.2 + 6) := V_throw rfl rfl rfl (by decide)
theorem I_70_161 {o : Nat} : m_ok xs L 70 ((pc, .invokevirtual 161) :: r) ls (vR o :: st) h Q ↔ (m_tag h o = some 1 ∧ (st.map m_cat).sum ≤ 8 ∧ [].all (fun v => decide (m_cat v = 1)) = true) ∧ m_do xs L 13 [vR o] h (m_cont xs L 70 pc r ls st Q) := U_invv (mj := 13) (av := []) rfl rfl rfl (Nat.le_of_ble_eq_true rfl)
theorem F_70_73 {o : Nat} : m_ok xs L 70 ((pc, .getfield 73) :: r) ls (vR o :: st) h Q ↔ ∃ v, m_get h o 4 2 = some v ∧ m_ok xs L 70 r ls (v :: st) h Q := U_getf rfl
theorem I_70_165 {o : Nat} {a0 a1 : MV} : m_ok xs L 70 ((pc, .invokevirtual 165) :: r) ls (a1 :: a0 :: vR o :: st) h Q ↔ (m_tag h o = some 7 ∧ (st.map m_cat).sum ≤ 8 ∧ [a1, a0].all (fun v => decide (m_cat v = 1)) = true) ∧ m_do xs L 54 [vR o, a0, a1] h (m_cont xs L 70 pc r ls st Q) := U_invv (mj := 54) (av := [a1, a0]) rfl rfl rfl (Nat.le_of_ble_eq_true rfl)
theorem J_70_75 : m_jmp 70 75 (13) = b_70_88 := rfl
theorem N_70_78 {p1 p2 p3 p4 : Nat} : m_ok xs L 70 ((pc, .new 46) :: (p1, .dup) :: (p2, .ldc 169) :: (p3, .invokespecial 50) :: (p4, .athrow) :: r) ls [] h Q ↔ Q (.inr 2) (h.1, h.2.1 + 1, h.2.2 + 6) := V_throw rfl rfl rfl (by decide)
theorem F_70_88 {o : Nat} : m_ok xs L 70 ((pc, .getfield 88) :: r) ls (vR o :: st) h Q ↔ ∃ v, m_get h o 4 6 = some v ∧ m_ok xs L 70 r ls (v :: st) h Q := U_getf rfl
theorem W_70_88 {o : Nat} {v : MV} : m_ok xs L 70 ((pc, .putfield 88) :: r) ls (v :: vR o :: st) h Q ↔ (m_fit 0 v = true ∧ (m_get h o 4 6).isSome = true) ∧ m_ok xs L 70 r ls st (m_set h o 6 v) Q := U_putf rfl
theorem I_70_171 {o : Nat} {a0 a1 a2 : MV} : m_ok xs L 70 ((pc, .invokevirtual 171) :: r) ls (a2 :: a1 :: a0 :: vR o :: st) h Q ↔ (m_tag h o = some 1 ∧ (st.map m_cat).sum ≤ 8 ∧ [a2, a1, a0].all (fun v => decide (m_cat v = 1)) = true) ∧ m_do xs L 14 [vR o, a0, a1, a2] h (m_cont xs L 70 pc r ls st Q) := U_invv (mj := 14) (av := [a2, a1, a0]) rfl rfl rfl (Nat.le_of_ble_eq_true rfl)
theorem D_71 {a0 a1 : MV} : m_do xs L 71 [a0, a1] h Q ↔ m_ok xs L 71 b_71_0 [a0, a1, vU] [] h Q := Iff.rfl
theorem R_71 {a : Int} : m_ok xs L 71 ((pc, .ireturn) :: r) ls [vI a] h Q ↔ Q (.inl (some (vI a))) h := V_ireti rfl
theorem X_71 {e : Nat} : m_cont xs L 71 pc r ls st Q (.inr e) h ↔ Q (.inr e) h := V_contx rfl
theorem I_71_146 {o : Nat} {a0 : MV} : m_ok xs L 71 ((pc, .invokevirtual 146) :: r) ls (a0 :: vR o :: st) h Q ↔ (m_tag h o = some 9 ∧ (st.map m_cat).sum ≤ 8 ∧ [a0].all (fun v => decide (m_cat v = 1)) = true) ∧ m_do xs L 91 [vR o, a0] h (m_cont xs L 71 pc r ls st Q) := U_invv (mj := 91) (av := [a0]) rfl rfl rfl (Nat.le_of_ble_eq_true rfl)
theorem F_71_10 {o : Nat} : m_ok xs L 71 ((pc, .getfield 10) :: r) ls (vR o :: st) h Q ↔ ∃ v, m_get h o 9 0 = some v ∧ m_ok xs L 71 r ls (v :: st) h Q := U_getf rfl
theorem F_71_149 {o : Nat} : m_ok xs L 71 ((pc, .getfield 149) :: r) ls (vR o :: st) h Q ↔ ∃ v, m_get h o 4 4 = some v ∧ m_ok xs L 71 r ls (v :: st) h Q := U_getf rfl
theorem F_71_156 {o : Nat} : m_ok xs L 71 ((pc, .getfield 156) :: r) ls (vR o :: st) h Q ↔ ∃ v, m_get h o 1 8 = some v ∧ m_ok xs L 71 r ls (v :: st) h Q := U_getf rfl
theorem J_71_19 : m_jmp 71 19 (13) = b_71_32 := rfl
theorem N_71_22 {p1 p2 p3 p4 : Nat} : m_ok xs L 71 ((pc, .new 46) :: (p1, .dup) :: (p2, .ldc 174) :: (p3, .invokespecial 50) :: (p4, .athrow) :: r) ls [] h Q ↔ Q (.inr 2) (h.1, h.2.1 + 1, h.2.2 + 6) := V_throw rfl rfl rfl (by decide)
theorem W_71_156 {o : Nat} {v : MV} : m_ok xs L 71 ((pc, .putfield 156) :: r) ls (v :: vR o :: st) h Q ↔ (m_fit 1 v = true ∧ (m_get h o 1 8).isSome = true) ∧ m_ok xs L 71 r ls st (m_set h o 8 v) Q := U_putf rfl
theorem F_71_88 {o : Nat} : m_ok xs L 71 ((pc, .getfield 88) :: r) ls (vR o :: st) h Q ↔ ∃ v, m_get h o 4 6 = some v ∧ m_ok xs L 71 r ls (v :: st) h Q := U_getf rfl
theorem W_71_88 {o : Nat} {v : MV} : m_ok xs L 71 ((pc, .putfield 88) :: r) ls (v :: vR o :: st) h Q ↔ (m_fit 0 v = true ∧ (m_get h o 4 6).isSome = true) ∧ m_ok xs L 71 r ls st (m_set h o 6 v) Q := U_putf rfl
theorem I_71_176 {o : Nat} {a0 : MV} : m_ok xs L 71 ((pc, .invokevirtual 176) :: r) ls (a0 :: vR o :: st) h Q ↔ (m_tag h o = some 9 ∧ (st.map m_cat).sum ≤ 8 ∧ [a0].all (fun v => decide (m_cat v = 1)) = true) ∧ m_do xs L 94 [vR o, a0] h (m_cont xs L 71 pc r ls st Q) := U_invv (mj := 94) (av := [a0]) rfl rfl rfl (Nat.le_of_ble_eq_true rfl)
theorem D_72 {a0 a1 a2 a3 a4 : MV} : m_do xs L 72 [a0, a1, a2, a3, a4] h Q ↔ m_ok xs L 72 b_72_0 [a0, a1, a2, a3, a4, vU, vU] [] h Q := Iff.rfl
theorem R_72 {a : Int} : m_ok xs L 72 ((pc, .ireturn) :: r) ls [vI a] h Q ↔ Q (.inl (some (vI a))) h := V_ireti rfl
theorem X_72 {e : Nat} : m_cont xs L 72 pc r ls st Q (.inr e) h ↔ Q (.inr e) h := V_contx rfl
theorem I_72_146 {o : Nat} {a0 : MV} : m_ok xs L 72 ((pc, .invokevirtual 146) :: r) ls (a0 :: vR o :: st) h Q ↔ (m_tag h o = some 9 ∧ (st.map m_cat).sum ≤ 8 ∧ [a0].all (fun v => decide (m_cat v = 1)) = true) ∧ m_do xs L 91 [vR o, a0] h (m_cont xs L 72 pc r ls st Q) := U_invv (mj := 91) (av := [a0]) rfl rfl rfl (Nat.le_of_ble_eq_true rfl)
theorem I_72_38 {a0 a1 a2 : MV} : m_ok xs L 72 ((pc, .invokestatic 38) :: r) ls (a2 :: a1 :: a0 :: st) h Q ↔ ((st.map m_cat).sum ≤ 8 ∧ [a2, a1, a0].all (fun v => decide (m_cat v = 1)) = true) ∧ m_do xs L 93 [a0, a1, a2] h (m_cont xs L 72 pc r ls st Q) := U_invs (mj := 93) (av := [a2, a1, a0]) rfl rfl rfl (Nat.le_of_ble_eq_true rfl)
theorem F_72_10 {o : Nat} : m_ok xs L 72 ((pc, .getfield 10) :: r) ls (vR o :: st) h Q ↔ ∃ v, m_get h o 9 0 = some v ∧ m_ok xs L 72 r ls (v :: st) h Q := U_getf rfl
theorem F_72_149 {o : Nat} : m_ok xs L 72 ((pc, .getfield 149) :: r) ls (vR o :: st) h Q ↔ ∃ v, m_get h o 4 4 = some v ∧ m_ok xs L 72 r ls (v :: st) h Q := U_getf rfl
theorem F_72_156 {o : Nat} : m_ok xs L 72 ((pc, .getfield 156) :: r) ls (vR o :: st) h Q ↔ ∃ v, m_get h o 1 8 = some v ∧ m_ok xs L 72 r ls (v :: st) h Q := U_getf rfl
theorem J_72_32 : m_jmp 72 32 (15) = b_72_47 := rfl
theorem F_72_34 {o : Nat} : m_ok xs L 72 ((pc, .getfield 34) :: r) ls (vR o :: st) h Q ↔ ∃ v, m_get h o 9 4 = some v ∧ m_ok xs L 72 r ls (v :: st) h Q := U_getf rfl
theorem F_72_180 {o : Nat} : m_ok xs L 72 ((pc, .getfield 180) :: r) ls (vR o :: st) h Q ↔ ∃ v, m_get h o 0 1 = some v ∧ m_ok xs L 72 r ls (v :: st) h Q := U_getf rfl
theorem J_72_44 : m_jmp 72 44 (13) = b_72_57 := rfl
theorem N_72_47 {p1 p2 p3 p4 : Nat} : m_ok xs L 72 ((pc, .new 46) :: (p1, .dup) :: (p2, .ldc 183) :: (p3, .invokespecial 50) :: (p4, .athrow) :: r) ls [] h Q ↔ Q (.inr 2) (h.1, h.2.1 + 1, h.2.2 + 6) := V_throw rfl rfl rfl (by decide)
theorem I_72_185 {o : Nat} {a0 a1 a2 : MV} : m_ok xs L 72 ((pc, .invokevirtual 185) :: r) ls (a2 :: a1 :: a0 :: vR o :: st) h Q ↔ (m_tag h o = some 0 ∧ (st.map m_cat).sum ≤ 8 ∧ [a2, a1, a0].all (fun v => decide (m_cat v = 1)) = true) ∧ m_do xs L 3 [vR o, a0, a1, a2] h (m_cont xs L 72 pc r ls st Q) := U_invv (mj := 3) (av := [a2, a1, a0]) rfl rfl rfl (Nat.le_of_ble_eq_true rfl)
theorem J_72_73 : m_jmp 72 73 (13) = b_72_86 := rfl
theorem N_72_76 {p1 p2 p3 p4 : Nat} : m_ok xs L 72 ((pc, .new 46) :: (p1, .dup) :: (p2, .ldc 189) :: (p3, .invokespecial 50) :: (p4, .athrow) :: r) ls [] h Q ↔ Q (.inr 2) (h.1, h.2.1 + 1, h.2.2 + 6) := V_throw rfl rfl rfl (by decide)
theorem I_72_191 {o : Nat} : m_ok xs L 72 ((pc, .invokevirtual 191) :: r) ls (vR o :: st) h Q ↔ (m_tag h o = some 0 ∧ (st.map m_cat).sum ≤ 8 ∧ [].all (fun v => decide (m_cat v = 1)) = true) ∧ m_do xs L 2 [vR o] h (m_cont xs L 72 pc r ls st Q) := U_invv (mj := 2) (av := []) rfl rfl rfl (Nat.le_of_ble_eq_true rfl)
theorem W_72_195 {o : Nat} {v : MV} : m_ok xs L 72 ((pc, .putfield 195) :: r) ls (v :: vR o :: st) h Q ↔ (m_fit 1 v = true ∧ (m_get h o 3 1).isSome = true) ∧ m_ok xs L 72 r ls st (m_set h o 1 v) Q := U_putf rfl
theorem W_72_200 {o : Nat} {v : MV} : m_ok xs L 72 ((pc, .putfield 200) :: r) ls (v :: vR o :: st) h Q ↔ (m_fit 0 v = true ∧ (m_get h o 3 2).isSome = true) ∧ m_ok xs L 72 r ls st (m_set h o 2 v) Q := U_putf rfl
theorem W_72_203 {o : Nat} {v : MV} : m_ok xs L 72 ((pc, .putfield 203) :: r) ls (v :: vR o :: st) h Q ↔ (m_fit 0 v = true ∧ (m_get h o 3 3).isSome = true) ∧ m_ok xs L 72 r ls st (m_set h o 3 v) Q := U_putf rfl
theorem I_72_206 {o : Nat} {a0 a1 a2 : MV} : m_ok xs L 72 ((pc, .invokevirtual 206) :: r) ls (a2 :: a1 :: a0 :: vR o :: st) h Q ↔ (m_tag h o = some 0 ∧ (st.map m_cat).sum ≤ 8 ∧ [a2, a1, a0].all (fun v => decide (m_cat v = 1)) = true) ∧ m_do xs L 6 [vR o, a0, a1, a2] h (m_cont xs L 72 pc r ls st Q) := U_invv (mj := 6) (av := [a2, a1, a0]) rfl rfl rfl (Nat.le_of_ble_eq_true rfl)
theorem F_72_210 {o : Nat} : m_ok xs L 72 ((pc, .getfield 210) :: r) ls (vR o :: st) h Q ↔ ∃ v, m_get h o 3 0 = some v ∧ m_ok xs L 72 r ls (v :: st) h Q := U_getf rfl
theorem D_73 {a0 a1 : MV} : m_do xs L 73 [a0, a1] h Q ↔ m_ok xs L 73 b_73_0 [a0, a1, vU, vU] [] h Q := Iff.rfl
theorem R_73 {a : Int} : m_ok xs L 73 ((pc, .ireturn) :: r) ls [vI a] h Q ↔ Q (.inl (some (vI a))) h := V_ireti rfl
theorem X_73 {e : Nat} : m_cont xs L 73 pc r ls st Q (.inr e) h ↔ Q (.inr e) h := V_contx rfl
theorem I_73_211 {o : Nat} {a0 : MV} : m_ok xs L 73 ((pc, .invokevirtual 211) :: r) ls (a0 :: vR o :: st) h Q ↔ (m_tag h o = some 9 ∧ (st.map m_cat).sum ≤ 8 ∧ [a0].all (fun v => decide (m_cat v = 1)) = true) ∧ m_do xs L 92 [vR o, a0] h (m_cont xs L 73 pc r ls st Q) := U_invv (mj := 92) (av := [a0]) rfl rfl rfl (Nat.le_of_ble_eq_true rfl)
theorem F_73_34 {o : Nat} : m_ok xs L 73 ((pc, .getfield 34) :: r) ls (vR o :: st) h Q ↔ ∃ v, m_get h o 9 4 = some v ∧ m_ok xs L 73 r ls (v :: st) h Q := U_getf rfl
theorem F_73_214 {o : Nat} : m_ok xs L 73 ((pc, .getfield 214) :: r) ls (vR o :: st) h Q ↔ ∃ v, m_get h o 0 0 = some v ∧ m_ok xs L 73 r ls (v :: st) h Q := U_getf rfl
theorem F_73_218 {o : Nat} : m_ok xs L 73 ((pc, .getfield 218) :: r) ls (vR o :: st) h Q ↔ ∃ v, m_get h o 3 4 = some v ∧ m_ok xs L 73 r ls (v :: st) h Q := U_getf rfl
theorem J_73_20 : m_jmp 73 20 (13) = b_73_33 := rfl
theorem N_73_23 {p1 p2 p3 p4 : Nat} : m_ok xs L 73 ((pc, .new 46) :: (p1, .dup) :: (p2, .ldc 221) :: (p3, .invokespecial 50) :: (p4, .athrow) :: r) ls [] h Q ↔ Q (.inr 2) (h.1, h.2.1 + 1, h.2.2 + 6) := V_throw rfl rfl rfl (by decide)
theorem F_73_223 {o : Nat} : m_ok xs L 73 ((pc, .getfield 223) :: r) ls (vR o :: st) h Q ↔ ∃ v, m_get h o 3 5 = some v ∧ m_ok xs L 73 r ls (v :: st) h Q := U_getf rfl
theorem F_73_226 {o : Nat} : m_ok xs L 73 ((pc, .getfield 226) :: r) ls (vR o :: st) h Q ↔ ∃ v, m_get h o 3 6 = some v ∧ m_ok xs L 73 r ls (v :: st) h Q := U_getf rfl
theorem I_73_229 {o : Nat} {a0 : MV} : m_ok xs L 73 ((pc, .invokevirtual 229) :: r) ls (a0 :: vR o :: st) h Q ↔ (m_tag h o = some 0 ∧ (st.map m_cat).sum ≤ 8 ∧ [a0].all (fun v => decide (m_cat v = 1)) = true) ∧ m_do xs L 8 [vR o, a0] h (m_cont xs L 73 pc r ls st Q) := U_invv (mj := 8) (av := [a0]) rfl rfl rfl (Nat.le_of_ble_eq_true rfl)
theorem D_74 {a0 a1 a2 : MV} : m_do xs L 74 [a0, a1, a2] h Q ↔ m_ok xs L 74 b_74_0 [a0, a1, a2] [] h Q := Iff.rfl
theorem R_74 : m_ok xs L 74 ((pc, .return_) :: r) ls [] h Q ↔ Q (.inl none) h := V_vret rfl
theorem X_74 {e : Nat} : m_cont xs L 74 pc r ls st Q (.inr e) h ↔ Q (.inr e) h := V_contx rfl
theorem I_74_211 {o : Nat} {a0 : MV} : m_ok xs L 74 ((pc, .invokevirtual 211) :: r) ls (a0 :: vR o :: st) h Q ↔ (m_tag h o = some 9 ∧ (st.map m_cat).sum ≤ 8 ∧ [a0].all (fun v => decide (m_cat v = 1)) = true) ∧ m_do xs L 92 [vR o, a0] h (m_cont xs L 74 pc r ls st Q) := U_invv (mj := 92) (av := [a0]) rfl rfl rfl (Nat.le_of_ble_eq_true rfl)
theorem J_74_12 : m_jmp 74 12 (13) = b_74_25 := rfl
theorem N_74_15 {p1 p2 p3 p4 : Nat} : m_ok xs L 74 ((pc, .new 233) :: (p1, .dup) :: (p2, .ldc 235) :: (p3, .invokespecial 237) :: (p4, .athrow) :: r) ls [] h Q ↔ Q (.inr 1) (h.1, h.2.1 + 1, h.2.2 + 6) := V_throw rfl rfl rfl (by decide)
theorem F_74_34 {o : Nat} : m_ok xs L 74 ((pc, .getfield 34) :: r) ls (vR o :: st) h Q ↔ ∃ v, m_get h o 9 4 = some v ∧ m_ok xs L 74 r ls (v :: st) h Q := U_getf rfl
theorem F_74_214 {o : Nat} : m_ok xs L 74 ((pc, .getfield 214) :: r) ls (vR o :: st) h Q ↔ ∃ v, m_get h o 0 0 = some v ∧ m_ok xs L 74 r ls (v :: st) h Q := U_getf rfl
theorem I_74_238 {o : Nat} {a0 a1 : MV} : m_ok xs L 74 ((pc, .invokevirtual 238) :: r) ls (a1 :: a0 :: vR o :: st) h Q ↔ (m_tag h o = some 0 ∧ (st.map m_cat).sum ≤ 8 ∧ [a1, a0].all (fun v => decide (m_cat v = 1)) = true) ∧ m_do xs L 10 [vR o, a0, a1] h (m_cont xs L 74 pc r ls st Q) := U_invv (mj := 10) (av := [a1, a0]) rfl rfl rfl (Nat.le_of_ble_eq_true rfl)
theorem J_74_50 : m_jmp 74 50 (13) = b_74_63 := rfl
theorem N_74_53 {p1 p2 p3 p4 : Nat} : m_ok xs L 74 ((pc, .new 46) :: (p1, .dup) :: (p2, .ldc 242) :: (p3, .invokespecial 50) :: (p4, .athrow) :: r) ls [] h Q ↔ Q (.inr 2) (h.1, h.2.1 + 1, h.2.2 + 6) := V_throw rfl rfl rfl (by decide)
theorem I_74_244 {o : Nat} {a0 a1 : MV} : m_ok xs L 74 ((pc, .invokevirtual 244) :: r) ls (a1 :: a0 :: vR o :: st) h Q ↔ (m_tag h o = some 0 ∧ (st.map m_cat).sum ≤ 8 ∧ [a1, a0].all (fun v => decide (m_cat v = 1)) = true) ∧ m_do xs L 11 [vR o, a0, a1] h (m_cont xs L 74 pc r ls st Q) := U_invv (mj := 11) (av := [a1, a0]) rfl rfl rfl (Nat.le_of_ble_eq_true rfl)
theorem D_75 {a0 a1 a2 : MV} : m_do xs L 75 [a0, a1, a2] h Q ↔ m_ok xs L 75 b_75_0 [a0, a1, a2] [] h Q := Iff.rfl
theorem R_75 {a : Int} : m_ok xs L 75 ((pc, .ireturn) :: r) ls [vI a] h Q ↔ Q (.inl (some (vI a))) h := V_ireti rfl
theorem X_75 {e : Nat} : m_cont xs L 75 pc r ls st Q (.inr e) h ↔ Q (.inr e) h := V_contx rfl
theorem I_75_98 {o : Nat} {a0 a1 : MV} : m_ok xs L 75 ((pc, .invokevirtual 98) :: r) ls (a1 :: a0 :: vR o :: st) h Q ↔ (m_tag h o = some 9 ∧ (st.map m_cat).sum ≤ 8 ∧ [a1, a0].all (fun v => decide (m_cat v = 1)) = true) ∧ m_do xs L 90 [vR o, a0, a1] h (m_cont xs L 75 pc r ls st Q) := U_invv (mj := 90) (av := [a1, a0]) rfl rfl rfl (Nat.le_of_ble_eq_true rfl)
theorem F_75_21 {o : Nat} : m_ok xs L 75 ((pc, .getfield 21) :: r) ls (vR o :: st) h Q ↔ ∃ v, m_get h o 9 1 = some v ∧ m_ok xs L 75 r ls (v :: st) h Q := U_getf rfl
theorem I_75_248 {o : Nat} : m_ok xs L 75 ((pc, .invokevirtual 248) :: r) ls (vR o :: st) h Q ↔ (m_tag h o = some 2 ∧ (st.map m_cat).sum ≤ 8 ∧ [].all (fun v => decide (m_cat v = 1)) = true) ∧ m_do xs L 18 [vR o] h (m_cont xs L 75 pc r ls st Q) := U_invv (mj := 18) (av := []) rfl rfl rfl (Nat.le_of_ble_eq_true rfl)
theorem F_75_251 {o : Nat} : m_ok xs L 75 ((pc, .getfield 251) :: r) ls (vR o :: st) h Q ↔ ∃ v, m_get h o 2 1 = some v ∧ m_ok xs L 75 r ls (v :: st) h Q := U_getf rfl
theorem F_75_255 {o : Nat} : m_ok xs L 75 ((pc, .getfield 255) :: r) ls (vR o :: st) h Q ↔ ∃ v, m_get h o 5 10 = some v ∧ m_ok xs L 75 r ls (v :: st) h Q := U_getf rfl
theorem D_76 {a0 a1 a2 : MV} : m_do xs L 76 [a0, a1, a2] h Q ↔ m_ok xs L 76 b_76_0 [a0, a1, a2] [] h Q := Iff.rfl
theorem R_76 {a : Int} : m_ok xs L 76 ((pc, .ireturn) :: r) ls [vI a] h Q ↔ Q (.inl (some (vI a))) h := V_ireti rfl
theorem X_76 {e : Nat} : m_cont xs L 76 pc r ls st Q (.inr e) h ↔ Q (.inr e) h := V_contx rfl
theorem I_76_98 {o : Nat} {a0 a1 : MV} : m_ok xs L 76 ((pc, .invokevirtual 98) :: r) ls (a1 :: a0 :: vR o :: st) h Q ↔ (m_tag h o = some 9 ∧ (st.map m_cat).sum ≤ 8 ∧ [a1, a0].all (fun v => decide (m_cat v = 1)) = true) ∧ m_do xs L 90 [vR o, a0, a1] h (m_cont xs L 76 pc r ls st Q) := U_invv (mj := 90) (av := [a1, a0]) rfl rfl rfl (Nat.le_of_ble_eq_true rfl)
theorem F_76_21 {o : Nat} : m_ok xs L 76 ((pc, .getfield 21) :: r) ls (vR o :: st) h Q ↔ ∃ v, m_get h o 9 1 = some v ∧ m_ok xs L 76 r ls (v :: st) h Q := U_getf rfl
theorem I_76_248 {o : Nat} : m_ok xs L 76 ((pc, .invokevirtual 248) :: r) ls (vR o :: st) h Q ↔ (m_tag h o = some 2 ∧ (st.map m_cat).sum ≤ 8 ∧ [].all (fun v => decide (m_cat v = 1)) = true) ∧ m_do xs L 18 [vR o] h (m_cont xs L 76 pc r ls st Q) := U_invv (mj := 18) (av := []) rfl rfl rfl (Nat.le_of_ble_eq_true rfl)
theorem F_76_251 {o : Nat} : m_ok xs L 76 ((pc, .getfield 251) :: r) ls (vR o :: st) h Q ↔ ∃ v, m_get h o 2 1 = some v ∧ m_ok xs L 76 r ls (v :: st) h Q := U_getf rfl
theorem F_76_260 {o : Nat} : m_ok xs L 76 ((pc, .getfield 260) :: r) ls (vR o :: st) h Q ↔ ∃ v, m_get h o 5 11 = some v ∧ m_ok xs L 76 r ls (v :: st) h Q := U_getf rfl
theorem D_77 {a0 a1 a2 : MV} : m_do xs L 77 [a0, a1, a2] h Q ↔ m_ok xs L 77 b_77_0 [a0, a1, a2] [] h Q := Iff.rfl
theorem R_77 {a : Int} : m_ok xs L 77 ((pc, .ireturn) :: r) ls [vI a] h Q ↔ Q (.inl (some (vI a))) h := V_ireti rfl
theorem X_77 {e : Nat} : m_cont xs L 77 pc r ls st Q (.inr e) h ↔ Q (.inr e) h := V_contx rfl
theorem I_77_98 {o : Nat} {a0 a1 : MV} : m_ok xs L 77 ((pc, .invokevirtual 98) :: r) ls (a1 :: a0 :: vR o :: st) h Q ↔ (m_tag h o = some 9 ∧ (st.map m_cat).sum ≤ 8 ∧ [a1, a0].all (fun v => decide (m_cat v = 1)) = true) ∧ m_do xs L 90 [vR o, a0, a1] h (m_cont xs L 77 pc r ls st Q) := U_invv (mj := 90) (av := [a1, a0]) rfl rfl rfl (Nat.le_of_ble_eq_true rfl)
theorem F_77_25 {o : Nat} : m_ok xs L 77 ((pc, .getfield 25) :: r) ls (vR o :: st) h Q ↔ ∃ v, m_get h o 9 2 = some v ∧ m_ok xs L 77 r ls (v :: st) h Q := U_getf rfl
theorem I_77_263 {o : Nat} : m_ok xs L 77 ((pc, .invokevirtual 263) :: r) ls (vR o :: st) h Q ↔ (m_tag h o = some 2 ∧ (st.map m_cat).sum ≤ 8 ∧ [].all (fun v => decide (m_cat v = 1)) = true) ∧ m_do xs L 19 [vR o] h (m_cont xs L 77 pc r ls st Q) := U_invv (mj := 19) (av := []) rfl rfl rfl (Nat.le_of_ble_eq_true rfl)
theorem F_77_251 {o : Nat} : m_ok xs L 77 ((pc, .getfield 251) :: r) ls (vR o :: st) h Q ↔ ∃ v, m_get h o 2 1 = some v ∧ m_ok xs L 77 r ls (v :: st) h Q := U_getf rfl
theorem F_77_260 {o : Nat} : m_ok xs L 77 ((pc, .getfield 260) :: r) ls (vR o :: st) h Q ↔ ∃ v, m_get h o 5 11 = some v ∧ m_ok xs L 77 r ls (v :: st) h Q := U_getf rfl
theorem D_78 {a0 a1 a2 a3 : MV} : m_do xs L 78 [a0, a1, a2, a3] h Q ↔ m_ok xs L 78 b_78_0 [a0, a1, a2, a3] [] h Q := Iff.rfl
theorem R_78 {a : Int} : m_ok xs L 78 ((pc, .ireturn) :: r) ls [vI a] h Q ↔ Q (.inl (some (vI a))) h := V_ireti rfl
theorem X_78 {e : Nat} : m_cont xs L 78 pc r ls st Q (.inr e) h ↔ Q (.inr e) h := V_contx rfl
theorem I_78_98 {o : Nat} {a0 a1 : MV} : m_ok xs L 78 ((pc, .invokevirtual 98) :: r) ls (a1 :: a0 :: vR o :: st) h Q ↔ (m_tag h o = some 9 ∧ (st.map m_cat).sum ≤ 8 ∧ [a1, a0].all (fun v => decide (m_cat v = 1)) = true) ∧ m_do xs L 90 [vR o, a0, a1] h (m_cont xs L 78 pc r ls st Q) := U_invv (mj := 90) (av := [a1, a0]) rfl rfl rfl (Nat.le_of_ble_eq_true rfl)
theorem I_78_38 {a0 a1 a2 : MV} : m_ok xs L 78 ((pc, .invokestatic 38) :: r) ls (a2 :: a1 :: a0 :: st) h Q ↔ ((st.map m_cat).sum ≤ 8 ∧ [a2, a1, a0].all (fun v => decide (m_cat v = 1)) = true) ∧ m_do xs L 93 [a0, a1, a2] h (m_cont xs L 78 pc r ls st Q) := U_invs (mj := 93) (av := [a2, a1, a0]) rfl rfl rfl (Nat.le_of_ble_eq_true rfl)
theorem F_78_21 {o : Nat} : m_ok xs L 78 ((pc, .getfield 21) :: r) ls (vR o :: st) h Q ↔ ∃ v, m_get h o 9 1 = some v ∧ m_ok xs L 78 r ls (v :: st) h Q := U_getf rfl
theorem I_78_248 {o : Nat} : m_ok xs L 78 ((pc, .invokevirtual 248) :: r) ls (vR o :: st) h Q ↔ (m_tag h o = some 2 ∧ (st.map m_cat).sum ≤ 8 ∧ [].all (fun v => decide (m_cat v = 1)) = true) ∧ m_do xs L 18 [vR o] h (m_cont xs L 78 pc r ls st Q) := U_invv (mj := 18) (av := []) rfl rfl rfl (Nat.le_of_ble_eq_true rfl)
theorem F_78_251 {o : Nat} : m_ok xs L 78 ((pc, .getfield 251) :: r) ls (vR o :: st) h Q ↔ ∃ v, m_get h o 2 1 = some v ∧ m_ok xs L 78 r ls (v :: st) h Q := U_getf rfl
theorem F_78_266 {o : Nat} : m_ok xs L 78 ((pc, .getfield 266) :: r) ls (vR o :: st) h Q ↔ ∃ v, m_get h o 5 12 = some v ∧ m_ok xs L 78 r ls (v :: st) h Q := U_getf rfl
theorem D_79 {a0 a1 a2 : MV} : m_do xs L 79 [a0, a1, a2] h Q ↔ m_ok xs L 79 b_79_0 [a0, a1, a2] [] h Q := Iff.rfl
theorem R_79 {a : UInt32} : m_ok xs L 79 ((pc, .freturn) :: r) ls [vF a] h Q ↔ Q (.inl (some (vF a))) h := V_fret rfl
theorem X_79 {e : Nat} : m_cont xs L 79 pc r ls st Q (.inr e) h ↔ Q (.inr e) h := V_contx rfl
theorem I_79_98 {o : Nat} {a0 a1 : MV} : m_ok xs L 79 ((pc, .invokevirtual 98) :: r) ls (a1 :: a0 :: vR o :: st) h Q ↔ (m_tag h o = some 9 ∧ (st.map m_cat).sum ≤ 8 ∧ [a1, a0].all (fun v => decide (m_cat v = 1)) = true) ∧ m_do xs L 90 [vR o, a0, a1] h (m_cont xs L 79 pc r ls st Q) := U_invv (mj := 90) (av := [a1, a0]) rfl rfl rfl (Nat.le_of_ble_eq_true rfl)
theorem F_79_21 {o : Nat} : m_ok xs L 79 ((pc, .getfield 21) :: r) ls (vR o :: st) h Q ↔ ∃ v, m_get h o 9 1 = some v ∧ m_ok xs L 79 r ls (v :: st) h Q := U_getf rfl
theorem I_79_248 {o : Nat} : m_ok xs L 79 ((pc, .invokevirtual 248) :: r) ls (vR o :: st) h Q ↔ (m_tag h o = some 2 ∧ (st.map m_cat).sum ≤ 8 ∧ [].all (fun v => decide (m_cat v = 1)) = true) ∧ m_do xs L 18 [vR o] h (m_cont xs L 79 pc r ls st Q) := U_invv (mj := 18) (av := []) rfl rfl rfl (Nat.le_of_ble_eq_true rfl)
theorem F_79_251 {o : Nat} : m_ok xs L 79 ((pc, .getfield 251) :: r) ls (vR o :: st) h Q ↔ ∃ v, m_get h o 2 1 = some v ∧ m_ok xs L 79 r ls (v :: st) h Q := U_getf rfl
theorem F_79_269 {o : Nat} : m_ok xs L 79 ((pc, .getfield 269) :: r) ls (vR o :: st) h Q ↔ ∃ v, m_get h o 5 13 = some v ∧ m_ok xs L 79 r ls (v :: st) h Q := U_getf rfl
theorem D_80 {a0 a1 a2 : MV} : m_do xs L 80 [a0, a1, a2] h Q ↔ m_ok xs L 80 b_80_0 [a0, a1, a2, vU] [] h Q := Iff.rfl
theorem R_80 {a : Int} : m_ok xs L 80 ((pc, .ireturn) :: r) ls [vI a] h Q ↔ Q (.inl (some (vI a))) h := V_ireti rfl
theorem X_80 {e : Nat} : m_cont xs L 80 pc r ls st Q (.inr e) h ↔ Q (.inr e) h := V_contx rfl
theorem I_80_146 {o : Nat} {a0 : MV} : m_ok xs L 80 ((pc, .invokevirtual 146) :: r) ls (a0 :: vR o :: st) h Q ↔ (m_tag h o = some 9 ∧ (st.map m_cat).sum ≤ 8 ∧ [a0].all (fun v => decide (m_cat v = 1)) = true) ∧ m_do xs L 91 [vR o, a0] h (m_cont xs L 80 pc r ls st Q) := U_invv (mj := 91) (av := [a0]) rfl rfl rfl (Nat.le_of_ble_eq_true rfl)
theorem I_80_38 {a0 a1 a2 : MV} : m_ok xs L 80 ((pc, .invokestatic 38) :: r) ls (a2 :: a1 :: a0 :: st) h Q ↔ ((st.map m_cat).sum ≤ 8 ∧ [a2, a1, a0].all (fun v => decide (m_cat v = 1)) = true) ∧ m_do xs L 93 [a0, a1, a2] h (m_cont xs L 80 pc r ls st Q) := U_invs (mj := 93) (av := [a2, a1, a0]) rfl rfl rfl (Nat.le_of_ble_eq_true rfl)
theorem F_80_21 {o : Nat} : m_ok xs L 80 ((pc, .getfield 21) :: r) ls (vR o :: st) h Q ↔ ∃ v, m_get h o 9 1 = some v ∧ m_ok xs L 80 r ls (v :: st) h Q := U_getf rfl
theorem I_80_248 {o : Nat} : m_ok xs L 80 ((pc, .invokevirtual 248) :: r) ls (vR o :: st) h Q ↔ (m_tag h o = some 2 ∧ (st.map m_cat).sum ≤ 8 ∧ [].all (fun v => decide (m_cat v = 1)) = true) ∧ m_do xs L 18 [vR o] h (m_cont xs L 80 pc r ls st Q) := U_invv (mj := 18) (av := []) rfl rfl rfl (Nat.le_of_ble_eq_true rfl)
theorem F_80_273 {o : Nat} : m_ok xs L 80 ((pc, .getfield 273) :: r) ls (vR o :: st) h Q ↔ ∃ v, m_get h o 2 2 = some v ∧ m_ok xs L 80 r ls (v :: st) h Q := U_getf rfl
theorem J_80_29_64 : m_jmp 80 29 (35) = b_80_64 := rfl
theorem J_80_29_69 : m_jmp 80 29 (40) = b_80_69 := rfl
theorem J_80_29_74 : m_jmp 80 29 (45) = b_80_74 := rfl
theorem J_80_29_79 : m_jmp 80 29 (50) = b_80_79 := rfl
theorem J_80_29_92 : m_jmp 80 29 (63) = b_80_92 := rfl
theorem J_80_29_97 : m_jmp 80 29 (68) = b_80_97 := rfl
theorem F_80_277 {o : Nat} : m_ok xs L 80 ((pc, .getfield 277) :: r) ls (vR o :: st) h Q ↔ ∃ v, m_get h o 8 1 = some v ∧ m_ok xs L 80 r ls (v :: st) h Q := U_getf rfl
theorem F_80_280 {o : Nat} : m_ok xs L 80 ((pc, .getfield 280) :: r) ls (vR o :: st) h Q ↔ ∃ v, m_get h o 8 2 = some v ∧ m_ok xs L 80 r ls (v :: st) h Q := U_getf rfl
theorem F_80_283 {o : Nat} : m_ok xs L 80 ((pc, .getfield 283) :: r) ls (vR o :: st) h Q ↔ ∃ v, m_get h o 8 3 = some v ∧ m_ok xs L 80 r ls (v :: st) h Q := U_getf rfl
theorem I_80_286 {o : Nat} : m_ok xs L 80 ((pc, .invokevirtual 286) :: r) ls (vR o :: st) h Q ↔ (m_tag h o = some 8 ∧ (st.map m_cat).sum ≤ 8 ∧ [].all (fun v => decide (m_cat v = 1)) = true) ∧ m_do xs L 58 [vR o] h (m_cont xs L 80 pc r ls st Q) := U_invv (mj := 58) (av := []) rfl rfl rfl (Nat.le_of_ble_eq_true rfl)
theorem J_80_83 : m_jmp 80 83 (7) = b_80_90 := rfl
theorem J_80_87 : m_jmp 80 87 (4) = b_80_91 := rfl
theorem F_80_290 {o : Nat} : m_ok xs L 80 ((pc, .getfield 290) :: r) ls (vR o :: st) h Q ↔ ∃ v, m_get h o 8 4 = some v ∧ m_ok xs L 80 r ls (v :: st) h Q := U_getf rfl
theorem F_80_10 {o : Nat} : m_ok xs L 80 ((pc, .getfield 10) :: r) ls (vR o :: st) h Q ↔ ∃ v, m_get h o 9 0 = some v ∧ m_ok xs L 80 r ls (v :: st) h Q := U_getf rfl
theorem F_80_149 {o : Nat} : m_ok xs L 80 ((pc, .getfield 149) :: r) ls (vR o :: st) h Q ↔ ∃ v, m_get h o 4 4 = some v ∧ m_ok xs L 80 r ls (v :: st) h Q := U_getf rfl
theorem F_80_156 {o : Nat} : m_ok xs L 80 ((pc, .getfield 156) :: r) ls (vR o :: st) h Q ↔ ∃ v, m_get h o 1 8 = some v ∧ m_ok xs L 80 r ls (v :: st) h Q := U_getf rfl
theorem J_80_109 : m_jmp 80 109 (7) = b_80_116 := rfl
theorem J_80_113 : m_jmp 80 113 (4) = b_80_117 := rfl
theorem D_81 {a0 a1 a2 : MV} : m_do xs L 81 [a0, a1, a2] h Q ↔ m_ok xs L 81 b_81_0 [a0, a1, a2] [] h Q := Iff.rfl
theorem R_81 {a : Int} : m_ok xs L 81 ((pc, .ireturn) :: r) ls [vI a] h Q ↔ Q (.inl (some (vI a))) h := V_ireti rfl
theorem X_81 {e : Nat} : m_cont xs L 81 pc r ls st Q (.inr e) h ↔ Q (.inr e) h := V_contx rfl
theorem I_81_38 {a0 a1 a2 : MV} : m_ok xs L 81 ((pc, .invokestatic 38) :: r) ls (a2 :: a1 :: a0 :: st) h Q ↔ ((st.map m_cat).sum ≤ 8 ∧ [a2, a1, a0].all (fun v => decide (m_cat v = 1)) = true) ∧ m_do xs L 93 [a0, a1, a2] h (m_cont xs L 81 pc r ls st Q) := U_invs (mj := 93) (av := [a2, a1, a0]) rfl rfl rfl (Nat.le_of_ble_eq_true rfl)
theorem F_81_21 {o : Nat} : m_ok xs L 81 ((pc, .getfield 21) :: r) ls (vR o :: st) h Q ↔ ∃ v, m_get h o 9 1 = some v ∧ m_ok xs L 81 r ls (v :: st) h Q := U_getf rfl
theorem I_81_248 {o : Nat} : m_ok xs L 81 ((pc, .invokevirtual 248) :: r) ls (vR o :: st) h Q ↔ (m_tag h o = some 2 ∧ (st.map m_cat).sum ≤ 8 ∧ [].all (fun v => decide (m_cat v = 1)) = true) ∧ m_do xs L 18 [vR o] h (m_cont xs L 81 pc r ls st Q) := U_invv (mj := 18) (av := []) rfl rfl rfl (Nat.le_of_ble_eq_true rfl)
theorem F_81_293 {o : Nat} : m_ok xs L 81 ((pc, .getfield 293) :: r) ls (vR o :: st) h Q ↔ ∃ v, m_get h o 2 3 = some v ∧ m_ok xs L 81 r ls (v :: st) h Q := U_getf rfl
theorem D_82 {a0 : MV} : m_do xs L 82 [a0] h Q ↔ m_ok xs L 82 b_82_0 [a0] [] h Q := Iff.rfl
theorem R_82 {a : Int} : m_ok xs L 82 ((pc, .ireturn) :: r) ls [vI a] h Q ↔ Q (.inl (some (vI a))) h := V_ireti rfl
theorem X_82 {e : Nat} : m_cont xs L 82 pc r ls st Q (.inr e) h ↔ Q (.inr e) h := V_contx rfl
theorem F_82_21 {o : Nat} : m_ok xs L 82 ((pc, .getfield 21) :: r) ls (vR o :: st) h Q ↔ ∃ v, m_get h o 9 1 = some v ∧ m_ok xs L 82 r ls (v :: st) h Q := U_getf rfl
theorem I_82_248 {o : Nat} : m_ok xs L 82 ((pc, .invokevirtual 248) :: r) ls (vR o :: st) h Q ↔ (m_tag h o = some 2 ∧ (st.map m_cat).sum ≤ 8 ∧ [].all (fun v => decide (m_cat v = 1)) = true) ∧ m_do xs L 18 [vR o] h (m_cont xs L 82 pc r ls st Q) := U_invv (mj := 18) (av := []) rfl rfl rfl (Nat.le_of_ble_eq_true rfl)
theorem I_82_296 {o : Nat} : m_ok xs L 82 ((pc, .invokevirtual 296) :: r) ls (vR o :: st) h Q ↔ (m_tag h o = some 2 ∧ (st.map m_cat).sum ≤ 8 ∧ [].all (fun v => decide (m_cat v = 1)) = true) ∧ m_do xs L 21 [vR o] h (m_cont xs L 82 pc r ls st Q) := U_invv (mj := 21) (av := []) rfl rfl rfl (Nat.le_of_ble_eq_true rfl)
theorem D_83 {a0 a1 : MV} : m_do xs L 83 [a0, a1] h Q ↔ m_ok xs L 83 b_83_0 [a0, a1, vU, vU, vU, vU] [] h Q := Iff.rfl
theorem R_83 {a : Int} : m_ok xs L 83 ((pc, .ireturn) :: r) ls [vI a] h Q ↔ Q (.inl (some (vI a))) h := V_ireti rfl
theorem X_83 {e : Nat} : m_cont xs L 83 pc r ls st Q (.inr e) h ↔ Q (.inr e) h := V_contx rfl
theorem I_83_70 {o : Nat} {a0 : MV} : m_ok xs L 83 ((pc, .invokevirtual 70) :: r) ls (a0 :: vR o :: st) h Q ↔ (m_tag h o = some 9 ∧ (st.map m_cat).sum ≤ 8 ∧ [a0].all (fun v => decide (m_cat v = 1)) = true) ∧ m_do xs L 89 [vR o, a0] h (m_cont xs L 83 pc r ls st Q) := U_invv (mj := 89) (av := [a0]) rfl rfl rfl (Nat.le_of_ble_eq_true rfl)
theorem J_83_17 : m_jmp 83 17 (33) = b_83_50 := rfl
theorem F_83_28 {o : Nat} : m_ok xs L 83 ((pc, .getfield 28) :: r) ls (vR o :: st) h Q ↔ ∃ v, m_get h o 9 3 = some v ∧ m_ok xs L 83 r ls (v :: st) h Q := U_getf rfl
theorem I_83_299 {o : Nat} {a0 a1 : MV} : m_ok xs L 83 ((pc, .invokevirtual 299) :: r) ls (a1 :: a0 :: vR o :: st) h Q ↔ (m_tag h o = some 2 ∧ (st.map m_cat).sum ≤ 8 ∧ [a1, a0].all (fun v => decide (m_cat v = 1)) = true) ∧ m_do xs L 20 [vR o, a0, a1] h (m_cont xs L 83 pc r ls st Q) := U_invv (mj := 20) (av := [a1, a0]) rfl rfl rfl (Nat.le_of_ble_eq_true rfl)
theorem J_83_35 : m_jmp 83 35 (9) = b_83_44 := rfl
theorem J_83_47 : m_jmp 83 47 (-35) = b_83_12 := rfl
theorem D_84 {a0 a1 a2 : MV} : m_do xs L 84 [a0, a1, a2] h Q ↔ m_ok xs L 84 b_84_0 [a0, a1, a2, vU] [] h Q := Iff.rfl
theorem R_84 {a : Int} : m_ok xs L 84 ((pc, .ireturn) :: r) ls [vI a] h Q ↔ Q (.inl (some (vI a))) h := V_ireti rfl
theorem X_84 {e : Nat} : m_cont xs L 84 pc r ls st Q (.inr e) h ↔ Q (.inr e) h := V_contx rfl
theorem I_84_211 {o : Nat} {a0 : MV} : m_ok xs L 84 ((pc, .invokevirtual 211) :: r) ls (a0 :: vR o :: st) h Q ↔ (m_tag h o = some 9 ∧ (st.map m_cat).sum ≤ 8 ∧ [a0].all (fun v => decide (m_cat v = 1)) = true) ∧ m_do xs L 92 [vR o, a0] h (m_cont xs L 84 pc r ls st Q) := U_invv (mj := 92) (av := [a0]) rfl rfl rfl (Nat.le_of_ble_eq_true rfl)
theorem I_84_38 {a0 a1 a2 : MV} : m_ok xs L 84 ((pc, .invokestatic 38) :: r) ls (a2 :: a1 :: a0 :: st) h Q ↔ ((st.map m_cat).sum ≤ 8 ∧ [a2, a1, a0].all (fun v => decide (m_cat v = 1)) = true) ∧ m_do xs L 93 [a0, a1, a2] h (m_cont xs L 84 pc r ls st Q) := U_invs (mj := 93) (av := [a2, a1, a0]) rfl rfl rfl (Nat.le_of_ble_eq_true rfl)
theorem F_84_34 {o : Nat} : m_ok xs L 84 ((pc, .getfield 34) :: r) ls (vR o :: st) h Q ↔ ∃ v, m_get h o 9 4 = some v ∧ m_ok xs L 84 r ls (v :: st) h Q := U_getf rfl
theorem F_84_214 {o : Nat} : m_ok xs L 84 ((pc, .getfield 214) :: r) ls (vR o :: st) h Q ↔ ∃ v, m_get h o 0 0 = some v ∧ m_ok xs L 84 r ls (v :: st) h Q := U_getf rfl
theorem J_84_22_48 : m_jmp 84 22 (26) = b_84_48 := rfl
theorem J_84_22_53 : m_jmp 84 22 (31) = b_84_53 := rfl
theorem J_84_22_58 : m_jmp 84 22 (36) = b_84_58 := rfl
theorem J_84_22_63 : m_jmp 84 22 (41) = b_84_63 := rfl
theorem F_84_218 {o : Nat} : m_ok xs L 84 ((pc, .getfield 218) :: r) ls (vR o :: st) h Q ↔ ∃ v, m_get h o 3 4 = some v ∧ m_ok xs L 84 r ls (v :: st) h Q := U_getf rfl
theorem F_84_223 {o : Nat} : m_ok xs L 84 ((pc, .getfield 223) :: r) ls (vR o :: st) h Q ↔ ∃ v, m_get h o 3 5 = some v ∧ m_ok xs L 84 r ls (v :: st) h Q := U_getf rfl
theorem F_84_226 {o : Nat} : m_ok xs L 84 ((pc, .getfield 226) :: r) ls (vR o :: st) h Q ↔ ∃ v, m_get h o 3 6 = some v ∧ m_ok xs L 84 r ls (v :: st) h Q := U_getf rfl
theorem F_84_302 {o : Nat} : m_ok xs L 84 ((pc, .getfield 302) :: r) ls (vR o :: st) h Q ↔ ∃ v, m_get h o 3 7 = some v ∧ m_ok xs L 84 r ls (v :: st) h Q := U_getf rfl
theorem D_85 {a0 a1 a2 a3 : MV} : m_do xs L 85 [a0, a1, a2, a3] h Q ↔ m_ok xs L 85 b_85_0 [a0, a1, a2, a3] [] h Q := Iff.rfl
theorem R_85 {a : Int} : m_ok xs L 85 ((pc, .ireturn) :: r) ls [vI a] h Q ↔ Q (.inl (some (vI a))) h := V_ireti rfl
theorem X_85 {e : Nat} : m_cont xs L 85 pc r ls st Q (.inr e) h ↔ Q (.inr e) h := V_contx rfl
theorem I_85_146 {o : Nat} {a0 : MV} : m_ok xs L 85 ((pc, .invokevirtual 146) :: r) ls (a0 :: vR o :: st) h Q ↔ (m_tag h o = some 9 ∧ (st.map m_cat).sum ≤ 8 ∧ [a0].all (fun v => decide (m_cat v = 1)) = true) ∧ m_do xs L 91 [vR o, a0] h (m_cont xs L 85 pc r ls st Q) := U_invv (mj := 91) (av := [a0]) rfl rfl rfl (Nat.le_of_ble_eq_true rfl)
theorem I_85_38 {a0 a1 a2 : MV} : m_ok xs L 85 ((pc, .invokestatic 38) :: r) ls (a2 :: a1 :: a0 :: st) h Q ↔ ((st.map m_cat).sum ≤ 8 ∧ [a2, a1, a0].all (fun v => decide (m_cat v = 1)) = true) ∧ m_do xs L 93 [a0, a1, a2] h (m_cont xs L 85 pc r ls st Q) := U_invs (mj := 93) (av := [a2, a1, a0]) rfl rfl rfl (Nat.le_of_ble_eq_true rfl)
theorem F_85_34 {o : Nat} : m_ok xs L 85 ((pc, .getfield 34) :: r) ls (vR o :: st) h Q ↔ ∃ v, m_get h o 9 4 = some v ∧ m_ok xs L 85 r ls (v :: st) h Q := U_getf rfl
theorem F_85_305 {o : Nat} : m_ok xs L 85 ((pc, .getfield 305) :: r) ls (vR o :: st) h Q ↔ ∃ v, m_get h o 0 2 = some v ∧ m_ok xs L 85 r ls (v :: st) h Q := U_getf rfl
theorem I_85_308 {a0 a1 a2 : MV} : m_ok xs L 85 ((pc, .invokestatic 308) :: r) ls (a2 :: a1 :: a0 :: st) h Q ↔ ((st.map m_cat).sum ≤ 8 ∧ [a2, a1, a0].all (fun v => decide (m_cat v = 1)) = true) ∧ m_do xs L 1 [a0, a1, a2] h (m_cont xs L 85 pc r ls st Q) := U_invs (mj := 1) (av := [a2, a1, a0]) rfl rfl rfl (Nat.le_of_ble_eq_true rfl)
theorem D_86 {a0 a1 a2 a3 : MV} : m_do xs L 86 [a0, a1, a2, a3] h Q ↔ m_ok xs L 86 b_86_0 [a0, a1, a2, a3] [] h Q := Iff.rfl
theorem R_86 {a : Int} : m_ok xs L 86 ((pc, .ireturn) :: r) ls [vI a] h Q ↔ (a = 0 ∨ a = 1) ∧ Q (.inl (some (vI a))) h := V_iretz rfl
theorem X_86 {e : Nat} : m_cont xs L 86 pc r ls st Q (.inr e) h ↔ Q (.inr e) h := V_contx rfl
theorem I_86_146 {o : Nat} {a0 : MV} : m_ok xs L 86 ((pc, .invokevirtual 146) :: r) ls (a0 :: vR o :: st) h Q ↔ (m_tag h o = some 9 ∧ (st.map m_cat).sum ≤ 8 ∧ [a0].all (fun v => decide (m_cat v = 1)) = true) ∧ m_do xs L 91 [vR o, a0] h (m_cont xs L 86 pc r ls st Q) := U_invv (mj := 91) (av := [a0]) rfl rfl rfl (Nat.le_of_ble_eq_true rfl)
theorem I_86_38 {a0 a1 a2 : MV} : m_ok xs L 86 ((pc, .invokestatic 38) :: r) ls (a2 :: a1 :: a0 :: st) h Q ↔ ((st.map m_cat).sum ≤ 8 ∧ [a2, a1, a0].all (fun v => decide (m_cat v = 1)) = true) ∧ m_do xs L 93 [a0, a1, a2] h (m_cont xs L 86 pc r ls st Q) := U_invs (mj := 93) (av := [a2, a1, a0]) rfl rfl rfl (Nat.le_of_ble_eq_true rfl)
theorem F_86_34 {o : Nat} : m_ok xs L 86 ((pc, .getfield 34) :: r) ls (vR o :: st) h Q ↔ ∃ v, m_get h o 9 4 = some v ∧ m_ok xs L 86 r ls (v :: st) h Q := U_getf rfl
theorem I_86_185 {o : Nat} {a0 a1 a2 : MV} : m_ok xs L 86 ((pc, .invokevirtual 185) :: r) ls (a2 :: a1 :: a0 :: vR o :: st) h Q ↔ (m_tag h o = some 0 ∧ (st.map m_cat).sum ≤ 8 ∧ [a2, a1, a0].all (fun v => decide (m_cat v = 1)) = true) ∧ m_do xs L 3 [vR o, a0, a1, a2] h (m_cont xs L 86 pc r ls st Q) := U_invv (mj := 3) (av := [a2, a1, a0]) rfl rfl rfl (Nat.le_of_ble_eq_true rfl)
theorem J_86_23 : m_jmp 86 23 (7) = b_86_30 := rfl
theorem J_86_27 : m_jmp 86 27 (4) = b_86_31 := rfl
theorem D_87 {a0 : MV} : m_do xs L 87 [a0] h Q ↔ m_ok xs L 87 b_87_0 [a0] [] h Q := Iff.rfl
theorem R_87 {a : Int} : m_ok xs L 87 ((pc, .ireturn) :: r) ls [vI a] h Q ↔ Q (.inl (some (vI a))) h := V_ireti rfl
theorem X_87 {e : Nat} : m_cont xs L 87 pc r ls st Q (.inr e) h ↔ Q (.inr e) h := V_contx rfl
theorem F_87_34 {o : Nat} : m_ok xs L 87 ((pc, .getfield 34) :: r) ls (vR o :: st) h Q ↔ ∃ v, m_get h o 9 4 = some v ∧ m_ok xs L 87 r ls (v :: st) h Q := U_getf rfl
theorem F_87_311 {o : Nat} : m_ok xs L 87 ((pc, .getfield 311) :: r) ls (vR o :: st) h Q ↔ ∃ v, m_get h o 0 3 = some v ∧ m_ok xs L 87 r ls (v :: st) h Q := U_getf rfl
theorem D_88 {a0 a1 : MV} : m_do xs L 88 [a0, a1] h Q ↔ m_ok xs L 88 b_88_0 [a0, a1] [] h Q := Iff.rfl
theorem R_88 : m_ok xs L 88 ((pc, .return_) :: r) ls [] h Q ↔ Q (.inl none) h := V_vret rfl
theorem X_88 {e : Nat} : m_cont xs L 88 pc r ls st Q (.inr e) h ↔ Q (.inr e) h := V_contx rfl
theorem J_88_1 : m_jmp 88 1 (14) = b_88_15 := rfl
theorem F_88_10 {o : Nat} : m_ok xs L 88 ((pc, .getfield 10) :: r) ls (vR o :: st) h Q ↔ ∃ v, m_get h o 9 0 = some v ∧ m_ok xs L 88 r ls (v :: st) h Q := U_getf rfl
theorem F_88_42 {o : Nat} : m_ok xs L 88 ((pc, .getfield 42) :: r) ls (vR o :: st) h Q ↔ ∃ v, m_get h o 4 1 = some v ∧ m_ok xs L 88 r ls (v :: st) h Q := U_getf rfl
theorem J_88_12 : m_jmp 88 12 (14) = b_88_26 := rfl
theorem N_88_15 {p1 p2 p3 p4 : Nat} : m_ok xs L 88 ((pc, .new 102) :: (p1, .dup) :: (p2, .ldc_w 312) :: (p3, .invokespecial 106) :: (p4, .athrow) :: r) ls [] h Q ↔ Q (.inr 0) (h.1, h.2.1 + 1, h.2.2 + 6) := V_throww rfl rfl rfl (by decide)
theorem D_89 {a0 a1 : MV} : m_do xs L 89 [a0, a1] h Q ↔ m_ok xs L 89 b_89_0 [a0, a1] [] h Q := Iff.rfl
theorem R_89 : m_ok xs L 89 ((pc, .return_) :: r) ls [] h Q ↔ Q (.inl none) h := V_vret rfl
theorem X_89 {e : Nat} : m_cont xs L 89 pc r ls st Q (.inr e) h ↔ Q (.inr e) h := V_contx rfl
theorem J_89_1 : m_jmp 89 1 (14) = b_89_15 := rfl
theorem F_89_10 {o : Nat} : m_ok xs L 89 ((pc, .getfield 10) :: r) ls (vR o :: st) h Q ↔ ∃ v, m_get h o 9 0 = some v ∧ m_ok xs L 89 r ls (v :: st) h Q := U_getf rfl
theorem F_89_61 {o : Nat} : m_ok xs L 89 ((pc, .getfield 61) :: r) ls (vR o :: st) h Q ↔ ∃ v, m_get h o 4 3 = some v ∧ m_ok xs L 89 r ls (v :: st) h Q := U_getf rfl
theorem J_89_12 : m_jmp 89 12 (14) = b_89_26 := rfl
theorem N_89_15 {p1 p2 p3 p4 : Nat} : m_ok xs L 89 ((pc, .new 102) :: (p1, .dup) :: (p2, .ldc_w 314) :: (p3, .invokespecial 106) :: (p4, .athrow) :: r) ls [] h Q ↔ Q (.inr 0) (h.1, h.2.1 + 1, h.2.2 + 6) := V_throww rfl rfl rfl (by decide)
theorem D_90 {a0 a1 a2 : MV} : m_do xs L 90 [a0, a1, a2] h Q ↔ m_ok xs L 90 b_90_0 [a0, a1, a2] [] h Q := Iff.rfl
theorem R_90 : m_ok xs L 90 ((pc, .return_) :: r) ls [] h Q ↔ Q (.inl none) h := V_vret rfl
theorem X_90 {e : Nat} : m_cont xs L 90 pc r ls st Q (.inr e) h ↔ Q (.inr e) h := V_contx rfl
theorem I_90_70 {o : Nat} {a0 : MV} : m_ok xs L 90 ((pc, .invokevirtual 70) :: r) ls (a0 :: vR o :: st) h Q ↔ (m_tag h o = some 9 ∧ (st.map m_cat).sum ≤ 8 ∧ [a0].all (fun v => decide (m_cat v = 1)) = true) ∧ m_do xs L 89 [vR o, a0] h (m_cont xs L 90 pc r ls st Q) := U_invv (mj := 89) (av := [a0]) rfl rfl rfl (Nat.le_of_ble_eq_true rfl)
theorem J_90_6 : m_jmp 90 6 (19) = b_90_25 := rfl
theorem F_90_10 {o : Nat} : m_ok xs L 90 ((pc, .getfield 10) :: r) ls (vR o :: st) h Q ↔ ∃ v, m_get h o 9 0 = some v ∧ m_ok xs L 90 r ls (v :: st) h Q := U_getf rfl
theorem F_90_73 {o : Nat} : m_ok xs L 90 ((pc, .getfield 73) :: r) ls (vR o :: st) h Q ↔ ∃ v, m_get h o 4 2 = some v ∧ m_ok xs L 90 r ls (v :: st) h Q := U_getf rfl
theorem F_90_83 {o : Nat} : m_ok xs L 90 ((pc, .getfield 83) :: r) ls (vR o :: st) h Q ↔ ∃ v, m_get h o 7 0 = some v ∧ m_ok xs L 90 r ls (v :: st) h Q := U_getf rfl
theorem J_90_22 : m_jmp 90 22 (14) = b_90_36 := rfl
theorem N_90_25 {p1 p2 p3 p4 : Nat} : m_ok xs L 90 ((pc, .new 102) :: (p1, .dup) :: (p2, .ldc_w 316) :: (p3, .invokespecial 106) :: (p4, .athrow) :: r) ls [] h Q ↔ Q (.inr 0) (h.1, h.2.1 + 1, h.2.2 + 6) := V_throww rfl rfl rfl (by decide)
theorem D_91 {a0 a1 : MV} : m_do xs L 91 [a0, a1] h Q ↔ m_ok xs L 91 b_91_0 [a0, a1] [] h Q := Iff.rfl
theorem R_91 : m_ok xs L 91 ((pc, .return_) :: r) ls [] h Q ↔ Q (.inl none) h := V_vret rfl
theorem X_91 {e : Nat} : m_cont xs L 91 pc r ls st Q (.inr e) h ↔ Q (.inr e) h := V_contx rfl
theorem J_91_1 : m_jmp 91 1 (14) = b_91_15 := rfl
theorem F_91_10 {o : Nat} : m_ok xs L 91 ((pc, .getfield 10) :: r) ls (vR o :: st) h Q ↔ ∃ v, m_get h o 9 0 = some v ∧ m_ok xs L 91 r ls (v :: st) h Q := U_getf rfl
theorem F_91_110 {o : Nat} : m_ok xs L 91 ((pc, .getfield 110) :: r) ls (vR o :: st) h Q ↔ ∃ v, m_get h o 4 5 = some v ∧ m_ok xs L 91 r ls (v :: st) h Q := U_getf rfl
theorem J_91_12 : m_jmp 91 12 (14) = b_91_26 := rfl
theorem N_91_15 {p1 p2 p3 p4 : Nat} : m_ok xs L 91 ((pc, .new 102) :: (p1, .dup) :: (p2, .ldc_w 318) :: (p3, .invokespecial 106) :: (p4, .athrow) :: r) ls [] h Q ↔ Q (.inr 0) (h.1, h.2.1 + 1, h.2.2 + 6) := V_throww rfl rfl rfl (by decide)
theorem D_92 {a0 a1 : MV} : m_do xs L 92 [a0, a1] h Q ↔ m_ok xs L 92 b_92_0 [a0, a1] [] h Q := Iff.rfl
theorem R_92 : m_ok xs L 92 ((pc, .return_) :: r) ls [] h Q ↔ Q (.inl none) h := V_vret rfl
theorem X_92 {e : Nat} : m_cont xs L 92 pc r ls st Q (.inr e) h ↔ Q (.inr e) h := V_contx rfl
theorem J_92_1 : m_jmp 92 1 (14) = b_92_15 := rfl
theorem F_92_34 {o : Nat} : m_ok xs L 92 ((pc, .getfield 34) :: r) ls (vR o :: st) h Q ↔ ∃ v, m_get h o 9 4 = some v ∧ m_ok xs L 92 r ls (v :: st) h Q := U_getf rfl
theorem F_92_180 {o : Nat} : m_ok xs L 92 ((pc, .getfield 180) :: r) ls (vR o :: st) h Q ↔ ∃ v, m_get h o 0 1 = some v ∧ m_ok xs L 92 r ls (v :: st) h Q := U_getf rfl
theorem J_92_12 : m_jmp 92 12 (14) = b_92_26 := rfl
theorem N_92_15 {p1 p2 p3 p4 : Nat} : m_ok xs L 92 ((pc, .new 102) :: (p1, .dup) :: (p2, .ldc_w 320) :: (p3, .invokespecial 106) :: (p4, .athrow) :: r) ls [] h Q ↔ Q (.inr 0) (h.1, h.2.1 + 1, h.2.2 + 6) := V_throww rfl rfl rfl (by decide)
theorem D_93 {a0 a1 a2 : MV} : m_do xs L 93 [a0, a1, a2] h Q ↔ m_ok xs L 93 b_93_0 [a0, a1, a2] [] h Q := Iff.rfl
theorem R_93 : m_ok xs L 93 ((pc, .return_) :: r) ls [] h Q ↔ Q (.inl none) h := V_vret rfl
theorem X_93 {e : Nat} : m_cont xs L 93 pc r ls st Q (.inr e) h ↔ Q (.inr e) h := V_contx rfl
theorem J_93_2 : m_jmp 93 2 (8) = b_93_10 := rfl
theorem J_93_7 : m_jmp 93 7 (14) = b_93_21 := rfl
theorem N_93_10 {p1 p2 p3 p4 : Nat} : m_ok xs L 93 ((pc, .new 233) :: (p1, .dup) :: (p2, .ldc_w 322) :: (p3, .invokespecial 237) :: (p4, .athrow) :: r) ls [] h Q ↔ Q (.inr 1) (h.1, h.2.1 + 1, h.2.2 + 6) := V_throww rfl rfl rfl (by decide)
theorem D_94 {a0 a1 : MV} : m_do xs L 94 [a0, a1] h Q ↔ m_ok xs L 94 b_94_0 [a0, a1, vU, vU, vU] [] h Q := Iff.rfl
theorem R_94 {a : Int} : m_ok xs L 94 ((pc, .ireturn) :: r) ls [vI a] h Q ↔ Q (.inl (some (vI a))) h := V_ireti rfl
theorem X_94 {e : Nat} : m_cont xs L 94 pc r ls st Q (.inr e) h ↔ Q (.inr e) h := V_contx rfl
theorem F_94_34 {o : Nat} : m_ok xs L 94 ((pc, .getfield 34) :: r) ls (vR o :: st) h Q ↔ ∃ v, m_get h o 9 4 = some v ∧ m_ok xs L 94 r ls (v :: st) h Q := U_getf rfl
theorem F_94_180 {o : Nat} : m_ok xs L 94 ((pc, .getfield 180) :: r) ls (vR o :: st) h Q ↔ ∃ v, m_get h o 0 1 = some v ∧ m_ok xs L 94 r ls (v :: st) h Q := U_getf rfl
theorem J_94_12 : m_jmp 94 12 (70) = b_94_82 := rfl
theorem F_94_214 {o : Nat} : m_ok xs L 94 ((pc, .getfield 214) :: r) ls (vR o :: st) h Q ↔ ∃ v, m_get h o 0 0 = some v ∧ m_ok xs L 94 r ls (v :: st) h Q := U_getf rfl
theorem F_94_218 {o : Nat} : m_ok xs L 94 ((pc, .getfield 218) :: r) ls (vR o :: st) h Q ↔ ∃ v, m_get h o 3 4 = some v ∧ m_ok xs L 94 r ls (v :: st) h Q := U_getf rfl
theorem F_94_143 {o : Nat} : m_ok xs L 94 ((pc, .getfield 143) :: r) ls (vR o :: st) h Q ↔ ∃ v, m_get h o 1 0 = some v ∧ m_ok xs L 94 r ls (v :: st) h Q := U_getf rfl
theorem J_94_35 : m_jmp 94 35 (41) = b_94_76 := rfl
theorem I_94_229 {o : Nat} {a0 : MV} : m_ok xs L 94 ((pc, .invokevirtual 229) :: r) ls (a0 :: vR o :: st) h Q ↔ (m_tag h o = some 0 ∧ (st.map m_cat).sum ≤ 8 ∧ [a0].all (fun v => decide (m_cat v = 1)) = true) ∧ m_do xs L 8 [vR o, a0] h (m_cont xs L 94 pc r ls st Q) := U_invv (mj := 8) (av := [a0]) rfl rfl rfl (Nat.le_of_ble_eq_true rfl)
theorem I_94_324 {o : Nat} {a0 a1 : MV} : m_ok xs L 94 ((pc, .invokevirtual 324) :: r) ls (a1 :: a0 :: vR o :: st) h Q ↔ (m_tag h o = some 9 ∧ (st.map m_cat).sum ≤ 8 ∧ [a1, a0].all (fun v => decide (m_cat v = 1)) = true) ∧ m_do xs L 95 [vR o, a0, a1] h (m_cont xs L 94 pc r ls st Q) := U_invv (mj := 95) (av := [a1, a0]) rfl rfl rfl (Nat.le_of_ble_eq_true rfl)
theorem J_94_54 : m_jmp 94 54 (22) = b_94_76 := rfl
theorem F_94_153 {o : Nat} : m_ok xs L 94 ((pc, .getfield 153) :: r) ls (vR o :: st) h Q ↔ ∃ v, m_get h o 1 9 = some v ∧ m_ok xs L 94 r ls (v :: st) h Q := U_getf rfl
theorem I_94_328 {o : Nat} {a0 a1 : MV} : m_ok xs L 94 ((pc, .invokevirtual 328) :: r) ls (a1 :: a0 :: vR o :: st) h Q ↔ (m_tag h o = some 0 ∧ (st.map m_cat).sum ≤ 8 ∧ [a1, a0].all (fun v => decide (m_cat v = 1)) = true) ∧ m_do xs L 9 [vR o, a0, a1] h (m_cont xs L 94 pc r ls st Q) := U_invv (mj := 9) (av := [a1, a0]) rfl rfl rfl (Nat.le_of_ble_eq_true rfl)
theorem J_94_79 : m_jmp 94 79 (-75) = b_94_4 := rfl
theorem D_95 {a0 a1 a2 : MV} : m_do xs L 95 [a0, a1, a2] h Q ↔ m_ok xs L 95 b_95_0 [a0, a1, a2, vU, vU] [] h Q := Iff.rfl
theorem R_95 {a : Int} : m_ok xs L 95 ((pc, .ireturn) :: r) ls [vI a] h Q ↔ (a = 0 ∨ a = 1) ∧ Q (.inl (some (vI a))) h := V_iretz rfl
theorem X_95 {e : Nat} : m_cont xs L 95 pc r ls st Q (.inr e) h ↔ Q (.inr e) h := V_contx rfl
theorem F_95_10 {o : Nat} : m_ok xs L 95 ((pc, .getfield 10) :: r) ls (vR o :: st) h Q ↔ ∃ v, m_get h o 9 0 = some v ∧ m_ok xs L 95 r ls (v :: st) h Q := U_getf rfl
theorem F_95_110 {o : Nat} : m_ok xs L 95 ((pc, .getfield 110) :: r) ls (vR o :: st) h Q ↔ ∃ v, m_get h o 4 5 = some v ∧ m_ok xs L 95 r ls (v :: st) h Q := U_getf rfl
theorem J_95_10 : m_jmp 95 10 (62) = b_95_72 := rfl
theorem F_95_149 {o : Nat} : m_ok xs L 95 ((pc, .getfield 149) :: r) ls (vR o :: st) h Q ↔ ∃ v, m_get h o 4 4 = some v ∧ m_ok xs L 95 r ls (v :: st) h Q := U_getf rfl
theorem I_95_332 {o : Nat} {a0 : MV} : m_ok xs L 95 ((pc, .invokevirtual 332) :: r) ls (a0 :: vR o :: st) h Q ↔ (m_tag h o = some 1 ∧ (st.map m_cat).sum ≤ 8 ∧ [a0].all (fun v => decide (m_cat v = 1)) = true) ∧ m_do xs L 16 [vR o, a0] h (m_cont xs L 95 pc r ls st Q) := U_invv (mj := 16) (av := [a0]) rfl rfl rfl (Nat.le_of_ble_eq_true rfl)
theorem J_95_26 : m_jmp 95 26 (40) = b_95_66 := rfl
theorem F_95_34 {o : Nat} : m_ok xs L 95 ((pc, .getfield 34) :: r) ls (vR o :: st) h Q ↔ ∃ v, m_get h o 9 4 = some v ∧ m_ok xs L 95 r ls (v :: st) h Q := U_getf rfl
theorem F_95_195 {o : Nat} : m_ok xs L 95 ((pc, .getfield 195) :: r) ls (vR o :: st) h Q ↔ ∃ v, m_get h o 3 1 = some v ∧ m_ok xs L 95 r ls (v :: st) h Q := U_getf rfl
theorem F_95_203 {o : Nat} : m_ok xs L 95 ((pc, .getfield 203) :: r) ls (vR o :: st) h Q ↔ ∃ v, m_get h o 3 3 = some v ∧ m_ok xs L 95 r ls (v :: st) h Q := U_getf rfl
theorem I_95_185 {o : Nat} {a0 a1 a2 : MV} : m_ok xs L 95 ((pc, .invokevirtual 185) :: r) ls (a2 :: a1 :: a0 :: vR o :: st) h Q ↔ (m_tag h o = some 0 ∧ (st.map m_cat).sum ≤ 8 ∧ [a2, a1, a0].all (fun v => decide (m_cat v = 1)) = true) ∧ m_do xs L 3 [vR o, a0, a1, a2] h (m_cont xs L 95 pc r ls st Q) := U_invv (mj := 3) (av := [a2, a1, a0]) rfl rfl rfl (Nat.le_of_ble_eq_true rfl)
theorem J_95_50 : m_jmp 95 50 (16) = b_95_66 := rfl
theorem I_95_206 {o : Nat} {a0 a1 a2 : MV} : m_ok xs L 95 ((pc, .invokevirtual 206) :: r) ls (a2 :: a1 :: a0 :: vR o :: st) h Q ↔ (m_tag h o = some 0 ∧ (st.map m_cat).sum ≤ 8 ∧ [a2, a1, a0].all (fun v => decide (m_cat v = 1)) = true) ∧ m_do xs L 6 [vR o, a0, a1, a2] h (m_cont xs L 95 pc r ls st Q) := U_invv (mj := 6) (av := [a2, a1, a0]) rfl rfl rfl (Nat.le_of_ble_eq_true rfl)
theorem J_95_69 : m_jmp 95 69 (-67) = b_95_2 := rfl
theorem D_97 {a0 : MV} : m_do xs L 97 [a0] h Q ↔ m_ok xs L 97 b_97_0 [a0] [] h Q := Iff.rfl
theorem R_97 {a : Int} : m_ok xs L 97 ((pc, .ireturn) :: r) ls [vI a] h Q ↔ Q (.inl (some (vI a))) h := V_ireti rfl
theorem X_97 {e : Nat} : m_cont xs L 97 pc r ls st Q (.inr e) h ↔ Q (.inr e) h := V_contx rfl
theorem F_97_143 {o : Nat} : m_ok xs L 97 ((pc, .getfield 143) :: r) ls (vR o :: st) h Q ↔ ∃ v, m_get h o 10 0 = some v ∧ m_ok xs L 97 r ls (v :: st) h Q := U_getf rfl
theorem D_98 {a0 a1 a2 : MV} : m_do xs L 98 [a0, a1, a2] h Q ↔ m_ok xs L 98 b_98_0 [a0, a1, a2] [] h Q := Iff.rfl
theorem R_98 {a : Int} : m_ok xs L 98 ((pc, .ireturn) :: r) ls [vI a] h Q ↔ (a = 0 ∨ a = 1) ∧ Q (.inl (some (vI a))) h := V_iretz rfl
theorem X_98 {e : Nat} : m_cont xs L 98 pc r ls st Q (.inr e) h ↔ Q (.inr e) h := V_contx rfl
theorem J_98_2 : m_jmp 98 2 (12) = b_98_14 := rfl
theorem J_98_7 : m_jmp 98 7 (7) = b_98_14 := rfl
theorem J_98_11 : m_jmp 98 11 (4) = b_98_15 := rfl
theorem D_99 {a0 a1 : MV} : m_do xs L 99 [a0, a1] h Q ↔ m_ok xs L 99 b_99_0 [a0, a1] [] h Q := Iff.rfl
theorem R_99 {a : Int} : m_ok xs L 99 ((pc, .ireturn) :: r) ls [vI a] h Q ↔ (a = 0 ∨ a = 1) ∧ Q (.inl (some (vI a))) h := V_iretz rfl
theorem X_99 {e : Nat} : m_cont xs L 99 pc r ls st Q (.inr e) h ↔ Q (.inr e) h := V_contx rfl
theorem W_99_143 {o : Nat} {v : MV} : m_ok xs L 99 ((pc, .putfield 143) :: r) ls (v :: vR o :: st) h Q ↔ (m_fit 0 v = true ∧ (m_get h o 10 0).isSome = true) ∧ m_ok xs L 99 r ls st (m_set h o 0 v) Q := U_putf rfl
theorem J_99_6 : m_jmp 99 6 (7) = b_99_13 := rfl
theorem J_99_10 : m_jmp 99 10 (4) = b_99_14 := rfl
theorem D_100 {a0 a1 : MV} : m_do xs L 100 [a0, a1] h Q ↔ m_ok xs L 100 b_100_0 [a0, a1] [] h Q := Iff.rfl
theorem R_100 {a : Int} : m_ok xs L 100 ((pc, .ireturn) :: r) ls [vI a] h Q ↔ (a = 0 ∨ a = 1) ∧ Q (.inl (some (vI a))) h := V_iretz rfl
theorem X_100 {e : Nat} : m_cont xs L 100 pc r ls st Q (.inr e) h ↔ Q (.inr e) h := V_contx rfl
theorem F_100_147 {o : Nat} : m_ok xs L 100 ((pc, .getfield 147) :: r) ls (vR o :: st) h Q ↔ ∃ v, m_get h o 10 1 = some v ∧ m_ok xs L 100 r ls (v :: st) h Q := U_getf rfl
theorem I_100_150 {a0 a1 a2 : MV} : m_ok xs L 100 ((pc, .invokestatic 150) :: r) ls (a2 :: a1 :: a0 :: st) h Q ↔ ((st.map m_cat).sum ≤ 8 ∧ [a2, a1, a0].all (fun v => decide (m_cat v = 1)) = true) ∧ m_do xs L 98 [a0, a1, a2] h (m_cont xs L 100 pc r ls st Q) := U_invs (mj := 98) (av := [a2, a1, a0]) rfl rfl rfl (Nat.le_of_ble_eq_true rfl)
theorem D_101 {a0 a1 : MV} : m_do xs L 101 [a0, a1] h Q ↔ m_ok xs L 101 b_101_0 [a0, a1] [] h Q := Iff.rfl
theorem R_101 {a : Int} : m_ok xs L 101 ((pc, .ireturn) :: r) ls [vI a] h Q ↔ (a = 0 ∨ a = 1) ∧ Q (.inl (some (vI a))) h := V_iretz rfl
theorem X_101 {e : Nat} : m_cont xs L 101 pc r ls st Q (.inr e) h ↔ Q (.inr e) h := V_contx rfl
theorem F_101_154 {o : Nat} : m_ok xs L 101 ((pc, .getfield 154) :: r) ls (vR o :: st) h Q ↔ ∃ v, m_get h o 10 4 = some v ∧ m_ok xs L 101 r ls (v :: st) h Q := U_getf rfl
theorem I_101_150 {a0 a1 a2 : MV} : m_ok xs L 101 ((pc, .invokestatic 150) :: r) ls (a2 :: a1 :: a0 :: st) h Q ↔ ((st.map m_cat).sum ≤ 8 ∧ [a2, a1, a0].all (fun v => decide (m_cat v = 1)) = true) ∧ m_do xs L 98 [a0, a1, a2] h (m_cont xs L 101 pc r ls st Q) := U_invs (mj := 98) (av := [a2, a1, a0]) rfl rfl rfl (Nat.le_of_ble_eq_true rfl)
theorem D_102 {a0 a1 a2 : MV} : m_do xs L 102 [a0, a1, a2] h Q ↔ m_ok xs L 102 b_102_0 [a0, a1, a2] [] h Q := Iff.rfl
theorem R_102 {a : Int} : m_ok xs L 102 ((pc, .ireturn) :: r) ls [vI a] h Q ↔ (a = 0 ∨ a = 1) ∧ Q (.inl (some (vI a))) h := V_iretz rfl
theorem X_102 {e : Nat} : m_cont xs L 102 pc r ls st Q (.inr e) h ↔ Q (.inr e) h := V_contx rfl
theorem I_102_157 {o : Nat} {a0 : MV} : m_ok xs L 102 ((pc, .invokevirtual 157) :: r) ls (a0 :: vR o :: st) h Q ↔ (m_tag h o = some 10 ∧ (st.map m_cat).sum ≤ 8 ∧ [a0].all (fun v => decide (m_cat v = 1)) = true) ∧ m_do xs L 101 [vR o, a0] h (m_cont xs L 102 pc r ls st Q) := U_invv (mj := 101) (av := [a0]) rfl rfl rfl (Nat.le_of_ble_eq_true rfl)
theorem J_102_5 : m_jmp 102 5 (23) = b_102_28 := rfl
theorem F_102_22 {o : Nat} : m_ok xs L 102 ((pc, .getfield 22) :: r) ls (vR o :: st) h Q ↔ ∃ v, m_get h o 10 7 = some v ∧ m_ok xs L 102 r ls (v :: st) h Q := U_getf rfl
theorem I_102_150 {a0 a1 a2 : MV} : m_ok xs L 102 ((pc, .invokestatic 150) :: r) ls (a2 :: a1 :: a0 :: st) h Q ↔ ((st.map m_cat).sum ≤ 8 ∧ [a2, a1, a0].all (fun v => decide (m_cat v = 1)) = true) ∧ m_do xs L 98 [a0, a1, a2] h (m_cont xs L 102 pc r ls st Q) := U_invs (mj := 98) (av := [a2, a1, a0]) rfl rfl rfl (Nat.le_of_ble_eq_true rfl)
theorem J_102_21 : m_jmp 102 21 (7) = b_102_28 := rfl
theorem J_102_25 : m_jmp 102 25 (4) = b_102_29 := rfl
theorem D_103 {a0 a1 : MV} : m_do xs L 103 [a0, a1] h Q ↔ m_ok xs L 103 b_103_0 [a0, a1] [] h Q := Iff.rfl
theorem R_103 {a : Int} : m_ok xs L 103 ((pc, .ireturn) :: r) ls [vI a] h Q ↔ (a = 0 ∨ a = 1) ∧ Q (.inl (some (vI a))) h := V_iretz rfl
theorem X_103 {e : Nat} : m_cont xs L 103 pc r ls st Q (.inr e) h ↔ Q (.inr e) h := V_contx rfl
theorem F_103_161 {o : Nat} : m_ok xs L 103 ((pc, .getfield 161) :: r) ls (vR o :: st) h Q ↔ ∃ v, m_get h o 10 14 = some v ∧ m_ok xs L 103 r ls (v :: st) h Q := U_getf rfl
theorem I_103_150 {a0 a1 a2 : MV} : m_ok xs L 103 ((pc, .invokestatic 150) :: r) ls (a2 :: a1 :: a0 :: st) h Q ↔ ((st.map m_cat).sum ≤ 8 ∧ [a2, a1, a0].all (fun v => decide (m_cat v = 1)) = true) ∧ m_do xs L 98 [a0, a1, a2] h (m_cont xs L 103 pc r ls st Q) := U_invs (mj := 98) (av := [a2, a1, a0]) rfl rfl rfl (Nat.le_of_ble_eq_true rfl)
theorem D_104 {a0 a1 : MV} : m_do xs L 104 [a0, a1] h Q ↔ m_ok xs L 104 b_104_0 [a0, a1] [] h Q := Iff.rfl
theorem R_104 {a : Int} : m_ok xs L 104 ((pc, .ireturn) :: r) ls [vI a] h Q ↔ (a = 0 ∨ a = 1) ∧ Q (.inl (some (vI a))) h := V_iretz rfl
theorem X_104 {e : Nat} : m_cont xs L 104 pc r ls st Q (.inr e) h ↔ Q (.inr e) h := V_contx rfl
theorem F_104_164 {o : Nat} : m_ok xs L 104 ((pc, .getfield 164) :: r) ls (vR o :: st) h Q ↔ ∃ v, m_get h o 10 26 = some v ∧ m_ok xs L 104 r ls (v :: st) h Q := U_getf rfl
theorem I_104_150 {a0 a1 a2 : MV} : m_ok xs L 104 ((pc, .invokestatic 150) :: r) ls (a2 :: a1 :: a0 :: st) h Q ↔ ((st.map m_cat).sum ≤ 8 ∧ [a2, a1, a0].all (fun v => decide (m_cat v = 1)) = true) ∧ m_do xs L 98 [a0, a1, a2] h (m_cont xs L 104 pc r ls st Q) := U_invs (mj := 98) (av := [a2, a1, a0]) rfl rfl rfl (Nat.le_of_ble_eq_true rfl)
theorem D_105 {a0 a1 a2 : MV} : m_do xs L 105 [a0, a1, a2] h Q ↔ m_ok xs L 105 b_105_0 [a0, a1, a2, vU, vU] [] h Q := Iff.rfl
theorem R_105 {a : Int} : m_ok xs L 105 ((pc, .ireturn) :: r) ls [vI a] h Q ↔ Q (.inl (some (vI a))) h := V_ireti rfl
theorem X_105 {e : Nat} : m_cont xs L 105 pc r ls st Q (.inr e) h ↔ Q (.inr e) h := V_contx rfl
theorem F_105_22 {o : Nat} : m_ok xs L 105 ((pc, .getfield 22) :: r) ls (vR o :: st) h Q ↔ ∃ v, m_get h o 10 7 = some v ∧ m_ok xs L 105 r ls (v :: st) h Q := U_getf rfl
theorem J_105_13 : m_jmp 105 13 (32) = b_105_45 := rfl
theorem F_105_25 {o : Nat} : m_ok xs L 105 ((pc, .getfield 25) :: r) ls (vR o :: st) h Q ↔ ∃ v, m_get h o 10 8 = some v ∧ m_ok xs L 105 r ls (v :: st) h Q := U_getf rfl
theorem J_105_29 : m_jmp 105 29 (8) = b_105_37 := rfl
theorem J_105_34 : m_jmp 105 34 (4) = b_105_38 := rfl
theorem J_105_42 : m_jmp 105 42 (-37) = b_105_5 := rfl
theorem D_106 {a0 a1 a2 : MV} : m_do xs L 106 [a0, a1, a2] h Q ↔ m_ok xs L 106 b_106_0 [a0, a1, a2, vU] [] h Q := Iff.rfl
theorem R_106 {a : Int} : m_ok xs L 106 ((pc, .ireturn) :: r) ls [vI a] h Q ↔ Q (.inl (some (vI a))) h := V_ireti rfl
theorem X_106 {e : Nat} : m_cont xs L 106 pc r ls st Q (.inr e) h ↔ Q (.inr e) h := V_contx rfl
theorem I_106_150 {a0 a1 a2 : MV} : m_ok xs L 106 ((pc, .invokestatic 150) :: r) ls (a2 :: a1 :: a0 :: st) h Q ↔ ((st.map m_cat).sum ≤ 8 ∧ [a2, a1, a0].all (fun v => decide (m_cat v = 1)) = true) ∧ m_do xs L 98 [a0, a1, a2] h (m_cont xs L 106 pc r ls st Q) := U_invs (mj := 98) (av := [a2, a1, a0]) rfl rfl rfl (Nat.le_of_ble_eq_true rfl)
theorem J_106_6 : m_jmp 106 6 (16) = b_106_22 := rfl
theorem J_106_15 : m_jmp 106 15 (7) = b_106_22 := rfl
theorem J_106_19 : m_jmp 106 19 (4) = b_106_23 := rfl
theorem J_106_26 : m_jmp 106 26 (7) = b_106_33 := rfl
theorem J_106_30 : m_jmp 106 30 (17) = b_106_47 := rfl
theorem F_106_147 {o : Nat} : m_ok xs L 106 ((pc, .getfield 147) :: r) ls (vR o :: st) h Q ↔ ∃ v, m_get h o 10 1 = some v ∧ m_ok xs L 106 r ls (v :: st) h Q := U_getf rfl
theorem J_106_39 : m_jmp 106 39 (7) = b_106_46 := rfl
theorem J_106_43 : m_jmp 106 43 (4) = b_106_47 := rfl
theorem I_106_167 {o : Nat} {a0 : MV} : m_ok xs L 106 ((pc, .invokevirtual 167) :: r) ls (a0 :: vR o :: st) h Q ↔ (m_tag h o = some 10 ∧ (st.map m_cat).sum ≤ 8 ∧ [a0].all (fun v => decide (m_cat v = 1)) = true) ∧ m_do xs L 99 [vR o, a0] h (m_cont xs L 106 pc r ls st Q) := U_invv (mj := 99) (av := [a0]) rfl rfl rfl (Nat.le_of_ble_eq_true rfl)
theorem J_106_50 : m_jmp 106 50 (5) = b_106_55 := rfl
theorem F_106_7 {o : Nat} : m_ok xs L 106 ((pc, .getfield 7) :: r) ls (vR o :: st) h Q ↔ ∃ v, m_get h o 10 2 = some v ∧ m_ok xs L 106 r ls (v :: st) h Q := U_getf rfl
theorem F_106_13 {o : Nat} : m_ok xs L 106 ((pc, .getfield 13) :: r) ls (vR o :: st) h Q ↔ ∃ v, m_get h o 10 3 = some v ∧ m_ok xs L 106 r ls (v :: st) h Q := U_getf rfl
theorem W_106_147 {o : Nat} {v : MV} : m_ok xs L 106 ((pc, .putfield 147) :: r) ls (v :: vR o :: st) h Q ↔ (m_fit 0 v = true ∧ (m_get h o 10 1).isSome = true) ∧ m_ok xs L 106 r ls st (m_set h o 1 v) Q := U_putf rfl
theorem D_107 {a0 a1 a2 a3 : MV} : m_do xs L 107 [a0, a1, a2, a3] h Q ↔ m_ok xs L 107 b_107_0 [a0, a1, a2, a3, vU] [] h Q := Iff.rfl
theorem R_107 {a : Int} : m_ok xs L 107 ((pc, .ireturn) :: r) ls [vI a] h Q ↔ Q (.inl (some (vI a))) h := V_ireti rfl
theorem X_107 {e : Nat} : m_cont xs L 107 pc r ls st Q (.inr e) h ↔ Q (.inr e) h := V_contx rfl
theorem I_107_150 {a0 a1 a2 : MV} : m_ok xs L 107 ((pc, .invokestatic 150) :: r) ls (a2 :: a1 :: a0 :: st) h Q ↔ ((st.map m_cat).sum ≤ 8 ∧ [a2, a1, a0].all (fun v => decide (m_cat v = 1)) = true) ∧ m_do xs L 98 [a0, a1, a2] h (m_cont xs L 107 pc r ls st Q) := U_invs (mj := 98) (av := [a2, a1, a0]) rfl rfl rfl (Nat.le_of_ble_eq_true rfl)
theorem J_107_8 : m_jmp 107 8 (18) = b_107_26 := rfl
theorem J_107_19 : m_jmp 107 19 (7) = b_107_26 := rfl
theorem J_107_23 : m_jmp 107 23 (4) = b_107_27 := rfl
theorem I_107_170 {o : Nat} {a0 : MV} : m_ok xs L 107 ((pc, .invokevirtual 170) :: r) ls (a0 :: vR o :: st) h Q ↔ (m_tag h o = some 10 ∧ (st.map m_cat).sum ≤ 8 ∧ [a0].all (fun v => decide (m_cat v = 1)) = true) ∧ m_do xs L 100 [vR o, a0] h (m_cont xs L 107 pc r ls st Q) := U_invv (mj := 100) (av := [a0]) rfl rfl rfl (Nat.le_of_ble_eq_true rfl)
theorem J_107_35 : m_jmp 107 35 (7) = b_107_42 := rfl
theorem J_107_39 : m_jmp 107 39 (26) = b_107_65 := rfl
theorem J_107_44 : m_jmp 107 44 (7) = b_107_51 := rfl
theorem J_107_48 : m_jmp 107 48 (17) = b_107_65 := rfl
theorem F_107_154 {o : Nat} : m_ok xs L 107 ((pc, .getfield 154) :: r) ls (vR o :: st) h Q ↔ ∃ v, m_get h o 10 4 = some v ∧ m_ok xs L 107 r ls (v :: st) h Q := U_getf rfl
theorem J_107_57 : m_jmp 107 57 (7) = b_107_64 := rfl
theorem J_107_61 : m_jmp 107 61 (4) = b_107_65 := rfl
theorem I_107_167 {o : Nat} {a0 : MV} : m_ok xs L 107 ((pc, .invokevirtual 167) :: r) ls (a0 :: vR o :: st) h Q ↔ (m_tag h o = some 10 ∧ (st.map m_cat).sum ≤ 8 ∧ [a0].all (fun v => decide (m_cat v = 1)) = true) ∧ m_do xs L 99 [vR o, a0] h (m_cont xs L 107 pc r ls st Q) := U_invv (mj := 99) (av := [a0]) rfl rfl rfl (Nat.le_of_ble_eq_true rfl)
theorem J_107_68 : m_jmp 107 68 (5) = b_107_73 := rfl
theorem F_107_25 {o : Nat} : m_ok xs L 107 ((pc, .getfield 25) :: r) ls (vR o :: st) h Q ↔ ∃ v, m_get h o 10 8 = some v ∧ m_ok xs L 107 r ls (v :: st) h Q := U_getf rfl
theorem F_107_28 {o : Nat} : m_ok xs L 107 ((pc, .getfield 28) :: r) ls (vR o :: st) h Q ↔ ∃ v, m_get h o 10 9 = some v ∧ m_ok xs L 107 r ls (v :: st) h Q := U_getf rfl
theorem F_107_16 {o : Nat} : m_ok xs L 107 ((pc, .getfield 16) :: r) ls (vR o :: st) h Q ↔ ∃ v, m_get h o 10 5 = some v ∧ m_ok xs L 107 r ls (v :: st) h Q := U_getf rfl
theorem F_107_22 {o : Nat} : m_ok xs L 107 ((pc, .getfield 22) :: r) ls (vR o :: st) h Q ↔ ∃ v, m_get h o 10 7 = some v ∧ m_ok xs L 107 r ls (v :: st) h Q := U_getf rfl
theorem W_107_154 {o : Nat} {v : MV} : m_ok xs L 107 ((pc, .putfield 154) :: r) ls (v :: vR o :: st) h Q ↔ (m_fit 0 v = true ∧ (m_get h o 10 4).isSome = true) ∧ m_ok xs L 107 r ls st (m_set h o 4 v) Q := U_putf rfl
theorem W_107_173 {o : Nat} {v : MV} : m_ok xs L 107 ((pc, .putfield 173) :: r) ls (v :: vR o :: st) h Q ↔ (m_fit 1 v = true ∧ (m_get h o 10 34).isSome = true) ∧ m_ok xs L 107 r ls st (m_set h o 34 v) Q := U_putf rfl
theorem D_108 {a0 a1 a2 a3 a4 a5 : MV} : m_do xs L 108 [a0, a1, a2, a3, a4, a5] h Q ↔ m_ok xs L 108 b_108_0 [a0, a1, a2, a3, a4, a5, vU, vU, vU, vU] [] h Q := Iff.rfl
theorem R_108 {a : Int} : m_ok xs L 108 ((pc, .ireturn) :: r) ls [vI a] h Q ↔ Q (.inl (some (vI a))) h := V_ireti rfl
theorem X_108 {e : Nat} : m_cont xs L 108 pc r ls st Q (.inr e) h ↔ Q (.inr e) h := V_contx rfl
theorem I_108_157 {o : Nat} {a0 : MV} : m_ok xs L 108 ((pc, .invokevirtual 157) :: r) ls (a0 :: vR o :: st) h Q ↔ (m_tag h o = some 10 ∧ (st.map m_cat).sum ≤ 8 ∧ [a0].all (fun v => decide (m_cat v = 1)) = true) ∧ m_do xs L 101 [vR o, a0] h (m_cont xs L 108 pc r ls st Q) := U_invv (mj := 101) (av := [a0]) rfl rfl rfl (Nat.le_of_ble_eq_true rfl)
theorem J_108_5 : m_jmp 108 5 (15) = b_108_20 := rfl
theorem I_108_170 {o : Nat} {a0 : MV} : m_ok xs L 108 ((pc, .invokevirtual 170) :: r) ls (a0 :: vR o :: st) h Q ↔ (m_tag h o = some 10 ∧ (st.map m_cat).sum ≤ 8 ∧ [a0].all (fun v => decide (m_cat v = 1)) = true) ∧ m_do xs L 100 [vR o, a0] h (m_cont xs L 108 pc r ls st Q) := U_invv (mj := 100) (av := [a0]) rfl rfl rfl (Nat.le_of_ble_eq_true rfl)
theorem J_108_13 : m_jmp 108 13 (7) = b_108_20 := rfl
theorem J_108_17 : m_jmp 108 17 (4) = b_108_21 := rfl
theorem I_108_150 {a0 a1 a2 : MV} : m_ok xs L 108 ((pc, .invokestatic 150) :: r) ls (a2 :: a1 :: a0 :: st) h Q ↔ ((st.map m_cat).sum ≤ 8 ∧ [a2, a1, a0].all (fun v => decide (m_cat v = 1)) = true) ∧ m_do xs L 98 [a0, a1, a2] h (m_cont xs L 108 pc r ls st Q) := U_invs (mj := 98) (av := [a2, a1, a0]) rfl rfl rfl (Nat.le_of_ble_eq_true rfl)
theorem J_108_31 : m_jmp 108 31 (30) = b_108_61 := rfl
theorem J_108_43 : m_jmp 108 43 (18) = b_108_61 := rfl
theorem J_108_54 : m_jmp 108 54 (7) = b_108_61 := rfl
theorem J_108_58 : m_jmp 108 58 (4) = b_108_62 := rfl
theorem J_108_66 : m_jmp 108 66 (33) = b_108_99 := rfl
theorem J_108_71 : m_jmp 108 71 (28) = b_108_99 := rfl
theorem F_108_22 {o : Nat} : m_ok xs L 108 ((pc, .getfield 22) :: r) ls (vR o :: st) h Q ↔ ∃ v, m_get h o 10 7 = some v ∧ m_ok xs L 108 r ls (v :: st) h Q := U_getf rfl
theorem J_108_82 : m_jmp 108 82 (17) = b_108_99 := rfl
theorem I_108_177 {o : Nat} {a0 a1 : MV} : m_ok xs L 108 ((pc, .invokevirtual 177) :: r) ls (a1 :: a0 :: vR o :: st) h Q ↔ (m_tag h o = some 10 ∧ (st.map m_cat).sum ≤ 8 ∧ [a1, a0].all (fun v => decide (m_cat v = 1)) = true) ∧ m_do xs L 105 [vR o, a0, a1] h (m_cont xs L 108 pc r ls st Q) := U_invv (mj := 105) (av := [a1, a0]) rfl rfl rfl (Nat.le_of_ble_eq_true rfl)
theorem J_108_92 : m_jmp 108 92 (7) = b_108_99 := rfl
theorem J_108_96 : m_jmp 108 96 (4) = b_108_100 := rfl
theorem J_108_105 : m_jmp 108 105 (7) = b_108_112 := rfl
theorem J_108_109 : m_jmp 108 109 (22) = b_108_131 := rfl
theorem J_108_114 : m_jmp 108 114 (7) = b_108_121 := rfl
theorem J_108_118 : m_jmp 108 118 (13) = b_108_131 := rfl
theorem J_108_123 : m_jmp 108 123 (7) = b_108_130 := rfl
theorem J_108_127 : m_jmp 108 127 (4) = b_108_131 := rfl
theorem I_108_167 {o : Nat} {a0 : MV} : m_ok xs L 108 ((pc, .invokevirtual 167) :: r) ls (a0 :: vR o :: st) h Q ↔ (m_tag h o = some 10 ∧ (st.map m_cat).sum ≤ 8 ∧ [a0].all (fun v => decide (m_cat v = 1)) = true) ∧ m_do xs L 99 [vR o, a0] h (m_cont xs L 108 pc r ls st Q) := U_invv (mj := 99) (av := [a0]) rfl rfl rfl (Nat.le_of_ble_eq_true rfl)
theorem J_108_134 : m_jmp 108 134 (5) = b_108_139 := rfl
theorem F_108_25 {o : Nat} : m_ok xs L 108 ((pc, .getfield 25) :: r) ls (vR o :: st) h Q ↔ ∃ v, m_get h o 10 8 = some v ∧ m_ok xs L 108 r ls (v :: st) h Q := U_getf rfl
theorem F_108_28 {o : Nat} : m_ok xs L 108 ((pc, .getfield 28) :: r) ls (vR o :: st) h Q ↔ ∃ v, m_get h o 10 9 = some v ∧ m_ok xs L 108 r ls (v :: st) h Q := U_getf rfl
theorem F_108_31 {o : Nat} : m_ok xs L 108 ((pc, .getfield 31) :: r) ls (vR o :: st) h Q ↔ ∃ v, m_get h o 10 10 = some v ∧ m_ok xs L 108 r ls (v :: st) h Q := U_getf rfl
theorem F_108_34 {o : Nat} : m_ok xs L 108 ((pc, .getfield 34) :: r) ls (vR o :: st) h Q ↔ ∃ v, m_get h o 10 11 = some v ∧ m_ok xs L 108 r ls (v :: st) h Q := U_getf rfl
theorem F_108_37 {o : Nat} : m_ok xs L 108 ((pc, .getfield 37) :: r) ls (vR o :: st) h Q ↔ ∃ v, m_get h o 10 12 = some v ∧ m_ok xs L 108 r ls (v :: st) h Q := U_getf rfl
theorem F_108_40 {o : Nat} : m_ok xs L 108 ((pc, .getfield 40) :: r) ls (vR o :: st) h Q ↔ ∃ v, m_get h o 10 13 = some v ∧ m_ok xs L 108 r ls (v :: st) h Q := U_getf rfl
theorem W_108_173 {o : Nat} {v : MV} : m_ok xs L 108 ((pc, .putfield 173) :: r) ls (v :: vR o :: st) h Q ↔ (m_fit 1 v = true ∧ (m_get h o 10 34).isSome = true) ∧ m_ok xs L 108 r ls st (m_set h o 34 v) Q := U_putf rfl
theorem D_109 {a0 a1 a2 : MV} : m_do xs L 109 [a0, a1, a2] h Q ↔ m_ok xs L 109 b_109_0 [a0, a1, a2, vU] [] h Q := Iff.rfl
theorem R_109 {a : Int} : m_ok xs L 109 ((pc, .ireturn) :: r) ls [vI a] h Q ↔ Q (.inl (some (vI a))) h := V_ireti rfl
theorem X_109 {e : Nat} : m_cont xs L 109 pc r ls st Q (.inr e) h ↔ Q (.inr e) h := V_contx rfl
theorem I_109_157 {o : Nat} {a0 : MV} : m_ok xs L 109 ((pc, .invokevirtual 157) :: r) ls (a0 :: vR o :: st) h Q ↔ (m_tag h o = some 10 ∧ (st.map m_cat).sum ≤ 8 ∧ [a0].all (fun v => decide (m_cat v = 1)) = true) ∧ m_do xs L 101 [vR o, a0] h (m_cont xs L 109 pc r ls st Q) := U_invv (mj := 101) (av := [a0]) rfl rfl rfl (Nat.le_of_ble_eq_true rfl)
theorem J_109_6 : m_jmp 109 6 (7) = b_109_13 := rfl
theorem J_109_10 : m_jmp 109 10 (19) = b_109_29 := rfl
theorem I_109_150 {a0 a1 a2 : MV} : m_ok xs L 109 ((pc, .invokestatic 150) :: r) ls (a2 :: a1 :: a0 :: st) h Q ↔ ((st.map m_cat).sum ≤ 8 ∧ [a2, a1, a0].all (fun v => decide (m_cat v = 1)) = true) ∧ m_do xs L 98 [a0, a1, a2] h (m_cont xs L 109 pc r ls st Q) := U_invs (mj := 98) (av := [a2, a1, a0]) rfl rfl rfl (Nat.le_of_ble_eq_true rfl)
theorem J_109_21 : m_jmp 109 21 (7) = b_109_28 := rfl
theorem J_109_25 : m_jmp 109 25 (4) = b_109_29 := rfl
theorem I_109_167 {o : Nat} {a0 : MV} : m_ok xs L 109 ((pc, .invokevirtual 167) :: r) ls (a0 :: vR o :: st) h Q ↔ (m_tag h o = some 10 ∧ (st.map m_cat).sum ≤ 8 ∧ [a0].all (fun v => decide (m_cat v = 1)) = true) ∧ m_do xs L 99 [vR o, a0] h (m_cont xs L 109 pc r ls st Q) := U_invv (mj := 99) (av := [a0]) rfl rfl rfl (Nat.le_of_ble_eq_true rfl)
theorem J_109_32 : m_jmp 109 32 (5) = b_109_37 := rfl
theorem F_109_19 {o : Nat} : m_ok xs L 109 ((pc, .getfield 19) :: r) ls (vR o :: st) h Q ↔ ∃ v, m_get h o 10 6 = some v ∧ m_ok xs L 109 r ls (v :: st) h Q := U_getf rfl
theorem W_109_173 {o : Nat} {v : MV} : m_ok xs L 109 ((pc, .putfield 173) :: r) ls (v :: vR o :: st) h Q ↔ (m_fit 1 v = true ∧ (m_get h o 10 34).isSome = true) ∧ m_ok xs L 109 r ls st (m_set h o 34 v) Q := U_putf rfl
theorem D_110 {a0 a1 a2 a3 : MV} : m_do xs L 110 [a0, a1, a2, a3] h Q ↔ m_ok xs L 110 b_110_0 [a0, a1, a2, a3, vU, vU] [] h Q := Iff.rfl
theorem R_110 {a : Int} : m_ok xs L 110 ((pc, .ireturn) :: r) ls [vI a] h Q ↔ Q (.inl (some (vI a))) h := V_ireti rfl
theorem X_110 {e : Nat} : m_cont xs L 110 pc r ls st Q (.inr e) h ↔ Q (.inr e) h := V_contx rfl
theorem I_110_181 {o : Nat} {a0 a1 : MV} : m_ok xs L 110 ((pc, .invokevirtual 181) :: r) ls (a1 :: a0 :: vR o :: st) h Q ↔ (m_tag h o = some 10 ∧ (st.map m_cat).sum ≤ 8 ∧ [a1, a0].all (fun v => decide (m_cat v = 1)) = true) ∧ m_do xs L 102 [vR o, a0, a1] h (m_cont xs L 110 pc r ls st Q) := U_invv (mj := 102) (av := [a1, a0]) rfl rfl rfl (Nat.le_of_ble_eq_true rfl)
theorem J_110_6 : m_jmp 110 6 (11) = b_110_17 := rfl
theorem J_110_10 : m_jmp 110 10 (7) = b_110_17 := rfl
theorem J_110_14 : m_jmp 110 14 (4) = b_110_18 := rfl
theorem J_110_23 : m_jmp 110 23 (7) = b_110_30 := rfl
theorem J_110_27 : m_jmp 110 27 (19) = b_110_46 := rfl
theorem I_110_150 {a0 a1 a2 : MV} : m_ok xs L 110 ((pc, .invokestatic 150) :: r) ls (a2 :: a1 :: a0 :: st) h Q ↔ ((st.map m_cat).sum ≤ 8 ∧ [a2, a1, a0].all (fun v => decide (m_cat v = 1)) = true) ∧ m_do xs L 98 [a0, a1, a2] h (m_cont xs L 110 pc r ls st Q) := U_invs (mj := 98) (av := [a2, a1, a0]) rfl rfl rfl (Nat.le_of_ble_eq_true rfl)
theorem J_110_38 : m_jmp 110 38 (7) = b_110_45 := rfl
theorem J_110_42 : m_jmp 110 42 (4) = b_110_46 := rfl
theorem I_110_167 {o : Nat} {a0 : MV} : m_ok xs L 110 ((pc, .invokevirtual 167) :: r) ls (a0 :: vR o :: st) h Q ↔ (m_tag h o = some 10 ∧ (st.map m_cat).sum ≤ 8 ∧ [a0].all (fun v => decide (m_cat v = 1)) = true) ∧ m_do xs L 99 [vR o, a0] h (m_cont xs L 110 pc r ls st Q) := U_invv (mj := 99) (av := [a0]) rfl rfl rfl (Nat.le_of_ble_eq_true rfl)
theorem J_110_49 : m_jmp 110 49 (5) = b_110_54 := rfl
theorem F_110_40 {o : Nat} : m_ok xs L 110 ((pc, .getfield 40) :: r) ls (vR o :: st) h Q ↔ ∃ v, m_get h o 10 13 = some v ∧ m_ok xs L 110 r ls (v :: st) h Q := U_getf rfl
theorem W_110_173 {o : Nat} {v : MV} : m_ok xs L 110 ((pc, .putfield 173) :: r) ls (v :: vR o :: st) h Q ↔ (m_fit 1 v = true ∧ (m_get h o 10 34).isSome = true) ∧ m_ok xs L 110 r ls st (m_set h o 34 v) Q := U_putf rfl
theorem D_111 {a0 a1 a2 a3 a4 a5 a6 a7 : MV} : m_do xs L 111 [a0, a1, a2, a3, a4, a5, a6, a7] h Q ↔ m_ok xs L 111 b_111_0 [a0, a1, a2, a3, a4, a5, a6, a7, vU] [] h Q := Iff.rfl
theorem R_111 {a : Int} : m_ok xs L 111 ((pc, .ireturn) :: r) ls [vI a] h Q ↔ Q (.inl (some (vI a))) h := V_ireti rfl
theorem X_111 {e : Nat} : m_cont xs L 111 pc r ls st Q (.inr e) h ↔ Q (.inr e) h := V_contx rfl
theorem I_111_150 {a0 a1 a2 : MV} : m_ok xs L 111 ((pc, .invokestatic 150) :: r) ls (a2 :: a1 :: a0 :: st) h Q ↔ ((st.map m_cat).sum ≤ 8 ∧ [a2, a1, a0].all (fun v => decide (m_cat v = 1)) = true) ∧ m_do xs L 98 [a0, a1, a2] h (m_cont xs L 111 pc r ls st Q) := U_invs (mj := 98) (av := [a2, a1, a0]) rfl rfl rfl (Nat.le_of_ble_eq_true rfl)
theorem J_111_6 : m_jmp 111 6 (50) = b_111_56 := rfl
theorem J_111_15 : m_jmp 111 15 (41) = b_111_56 := rfl
theorem J_111_27 : m_jmp 111 27 (29) = b_111_56 := rfl
theorem J_111_38 : m_jmp 111 38 (18) = b_111_56 := rfl
theorem J_111_49 : m_jmp 111 49 (7) = b_111_56 := rfl
theorem J_111_53 : m_jmp 111 53 (4) = b_111_57 := rfl
theorem I_111_170 {o : Nat} {a0 : MV} : m_ok xs L 111 ((pc, .invokevirtual 170) :: r) ls (a0 :: vR o :: st) h Q ↔ (m_tag h o = some 10 ∧ (st.map m_cat).sum ≤ 8 ∧ [a0].all (fun v => decide (m_cat v = 1)) = true) ∧ m_do xs L 100 [vR o, a0] h (m_cont xs L 111 pc r ls st Q) := U_invv (mj := 100) (av := [a0]) rfl rfl rfl (Nat.le_of_ble_eq_true rfl)
theorem J_111_65 : m_jmp 111 65 (7) = b_111_72 := rfl
theorem J_111_69 : m_jmp 111 69 (26) = b_111_95 := rfl
theorem J_111_74 : m_jmp 111 74 (7) = b_111_81 := rfl
theorem J_111_78 : m_jmp 111 78 (17) = b_111_95 := rfl
theorem F_111_161 {o : Nat} : m_ok xs L 111 ((pc, .getfield 161) :: r) ls (vR o :: st) h Q ↔ ∃ v, m_get h o 10 14 = some v ∧ m_ok xs L 111 r ls (v :: st) h Q := U_getf rfl
theorem J_111_87 : m_jmp 111 87 (7) = b_111_94 := rfl
theorem J_111_91 : m_jmp 111 91 (4) = b_111_95 := rfl
theorem I_111_167 {o : Nat} {a0 : MV} : m_ok xs L 111 ((pc, .invokevirtual 167) :: r) ls (a0 :: vR o :: st) h Q ↔ (m_tag h o = some 10 ∧ (st.map m_cat).sum ≤ 8 ∧ [a0].all (fun v => decide (m_cat v = 1)) = true) ∧ m_do xs L 99 [vR o, a0] h (m_cont xs L 111 pc r ls st Q) := U_invv (mj := 99) (av := [a0]) rfl rfl rfl (Nat.le_of_ble_eq_true rfl)
theorem J_111_98 : m_jmp 111 98 (5) = b_111_103 := rfl
theorem F_111_43 {o : Nat} : m_ok xs L 111 ((pc, .getfield 43) :: r) ls (vR o :: st) h Q ↔ ∃ v, m_get h o 10 15 = some v ∧ m_ok xs L 111 r ls (v :: st) h Q := U_getf rfl
theorem F_111_46 {o : Nat} : m_ok xs L 111 ((pc, .getfield 46) :: r) ls (vR o :: st) h Q ↔ ∃ v, m_get h o 10 16 = some v ∧ m_ok xs L 111 r ls (v :: st) h Q := U_getf rfl
theorem F_111_49 {o : Nat} : m_ok xs L 111 ((pc, .getfield 49) :: r) ls (vR o :: st) h Q ↔ ∃ v, m_get h o 10 17 = some v ∧ m_ok xs L 111 r ls (v :: st) h Q := U_getf rfl
theorem F_111_52 {o : Nat} : m_ok xs L 111 ((pc, .getfield 52) :: r) ls (vR o :: st) h Q ↔ ∃ v, m_get h o 10 18 = some v ∧ m_ok xs L 111 r ls (v :: st) h Q := U_getf rfl
theorem F_111_55 {o : Nat} : m_ok xs L 111 ((pc, .getfield 55) :: r) ls (vR o :: st) h Q ↔ ∃ v, m_get h o 10 19 = some v ∧ m_ok xs L 111 r ls (v :: st) h Q := U_getf rfl
theorem F_111_58 {o : Nat} : m_ok xs L 111 ((pc, .getfield 58) :: r) ls (vR o :: st) h Q ↔ ∃ v, m_get h o 10 20 = some v ∧ m_ok xs L 111 r ls (v :: st) h Q := U_getf rfl
theorem F_111_61 {o : Nat} : m_ok xs L 111 ((pc, .getfield 61) :: r) ls (vR o :: st) h Q ↔ ∃ v, m_get h o 10 21 = some v ∧ m_ok xs L 111 r ls (v :: st) h Q := U_getf rfl
theorem W_111_161 {o : Nat} {v : MV} : m_ok xs L 111 ((pc, .putfield 161) :: r) ls (v :: vR o :: st) h Q ↔ (m_fit 0 v = true ∧ (m_get h o 10 14).isSome = true) ∧ m_ok xs L 111 r ls st (m_set h o 14 v) Q := U_putf rfl
theorem W_111_173 {o : Nat} {v : MV} : m_ok xs L 111 ((pc, .putfield 173) :: r) ls (v :: vR o :: st) h Q ↔ (m_fit 1 v = true ∧ (m_get h o 10 34).isSome = true) ∧ m_ok xs L 111 r ls st (m_set h o 34 v) Q := U_putf rfl
theorem D_112 {a0 a1 a2 : MV} : m_do xs L 112 [a0, a1, a2] h Q ↔ m_ok xs L 112 b_112_0 [a0, a1, a2] [] h Q := Iff.rfl
theorem R_112 {a : Int} : m_ok xs L 112 ((pc, .ireturn) :: r) ls [vI a] h Q ↔ Q (.inl (some (vI a))) h := V_ireti rfl
theorem X_112 {e : Nat} : m_cont xs L 112 pc r ls st Q (.inr e) h ↔ Q (.inr e) h := V_contx rfl
theorem J_112_1 : m_jmp 112 1 (12) = b_112_13 := rfl
theorem F_112_43 {o : Nat} : m_ok xs L 112 ((pc, .getfield 43) :: r) ls (vR o :: st) h Q ↔ ∃ v, m_get h o 10 15 = some v ∧ m_ok xs L 112 r ls (v :: st) h Q := U_getf rfl
theorem J_112_10 : m_jmp 112 10 (15) = b_112_25 := rfl
theorem F_112_74 {o : Nat} : m_ok xs L 112 ((pc, .getfield 74) :: r) ls (vR o :: st) h Q ↔ ∃ v, m_get h o 10 25 = some v ∧ m_ok xs L 112 r ls (v :: st) h Q := U_getf rfl
theorem D_113 {a0 a1 a2 a3 : MV} : m_do xs L 113 [a0, a1, a2, a3] h Q ↔ m_ok xs L 113 b_113_0 [a0, a1, a2, a3, vU, vU, vU, vU] [] h Q := Iff.rfl
theorem R_113 {a : Int} : m_ok xs L 113 ((pc, .ireturn) :: r) ls [vI a] h Q ↔ Q (.inl (some (vI a))) h := V_ireti rfl
theorem X_113 {e : Nat} : m_cont xs L 113 pc r ls st Q (.inr e) h ↔ Q (.inr e) h := V_contx rfl
theorem I_113_185 {o : Nat} {a0 : MV} : m_ok xs L 113 ((pc, .invokevirtual 185) :: r) ls (a0 :: vR o :: st) h Q ↔ (m_tag h o = some 10 ∧ (st.map m_cat).sum ≤ 8 ∧ [a0].all (fun v => decide (m_cat v = 1)) = true) ∧ m_do xs L 103 [vR o, a0] h (m_cont xs L 113 pc r ls st Q) := U_invv (mj := 103) (av := [a0]) rfl rfl rfl (Nat.le_of_ble_eq_true rfl)
theorem J_113_5 : m_jmp 113 5 (23) = b_113_28 := rfl
theorem I_113_157 {o : Nat} {a0 : MV} : m_ok xs L 113 ((pc, .invokevirtual 157) :: r) ls (a0 :: vR o :: st) h Q ↔ (m_tag h o = some 10 ∧ (st.map m_cat).sum ≤ 8 ∧ [a0].all (fun v => decide (m_cat v = 1)) = true) ∧ m_do xs L 101 [vR o, a0] h (m_cont xs L 113 pc r ls st Q) := U_invv (mj := 101) (av := [a0]) rfl rfl rfl (Nat.le_of_ble_eq_true rfl)
theorem J_113_13 : m_jmp 113 13 (15) = b_113_28 := rfl
theorem I_113_170 {o : Nat} {a0 : MV} : m_ok xs L 113 ((pc, .invokevirtual 170) :: r) ls (a0 :: vR o :: st) h Q ↔ (m_tag h o = some 10 ∧ (st.map m_cat).sum ≤ 8 ∧ [a0].all (fun v => decide (m_cat v = 1)) = true) ∧ m_do xs L 100 [vR o, a0] h (m_cont xs L 113 pc r ls st Q) := U_invv (mj := 100) (av := [a0]) rfl rfl rfl (Nat.le_of_ble_eq_true rfl)
theorem J_113_21 : m_jmp 113 21 (7) = b_113_28 := rfl
theorem J_113_25 : m_jmp 113 25 (4) = b_113_29 := rfl
theorem J_113_33 : m_jmp 113 33 (26) = b_113_59 := rfl
theorem F_113_68 {o : Nat} : m_ok xs L 113 ((pc, .getfield 68) :: r) ls (vR o :: st) h Q ↔ ∃ v, m_get h o 10 23 = some v ∧ m_ok xs L 113 r ls (v :: st) h Q := U_getf rfl
theorem J_113_43 : m_jmp 113 43 (16) = b_113_59 := rfl
theorem F_113_65 {o : Nat} : m_ok xs L 113 ((pc, .getfield 65) :: r) ls (vR o :: st) h Q ↔ ∃ v, m_get h o 10 22 = some v ∧ m_ok xs L 113 r ls (v :: st) h Q := U_getf rfl
theorem J_113_52 : m_jmp 113 52 (7) = b_113_59 := rfl
theorem J_113_56 : m_jmp 113 56 (4) = b_113_60 := rfl
theorem J_113_64 : m_jmp 113 64 (22) = b_113_86 := rfl
theorem I_113_188 {o : Nat} {a0 a1 : MV} : m_ok xs L 113 ((pc, .invokevirtual 188) :: r) ls (a1 :: a0 :: vR o :: st) h Q ↔ (m_tag h o = some 10 ∧ (st.map m_cat).sum ≤ 8 ∧ [a1, a0].all (fun v => decide (m_cat v = 1)) = true) ∧ m_do xs L 112 [vR o, a0, a1] h (m_cont xs L 113 pc r ls st Q) := U_invv (mj := 112) (av := [a1, a0]) rfl rfl rfl (Nat.le_of_ble_eq_true rfl)
theorem I_113_177 {o : Nat} {a0 a1 : MV} : m_ok xs L 113 ((pc, .invokevirtual 177) :: r) ls (a1 :: a0 :: vR o :: st) h Q ↔ (m_tag h o = some 10 ∧ (st.map m_cat).sum ≤ 8 ∧ [a1, a0].all (fun v => decide (m_cat v = 1)) = true) ∧ m_do xs L 105 [vR o, a0, a1] h (m_cont xs L 113 pc r ls st Q) := U_invv (mj := 105) (av := [a1, a0]) rfl rfl rfl (Nat.le_of_ble_eq_true rfl)
theorem J_113_83 : m_jmp 113 83 (4) = b_113_87 := rfl
theorem J_113_92 : m_jmp 113 92 (18) = b_113_110 := rfl
theorem J_113_103 : m_jmp 113 103 (7) = b_113_110 := rfl
theorem J_113_107 : m_jmp 113 107 (4) = b_113_111 := rfl
theorem J_113_116 : m_jmp 113 116 (7) = b_113_123 := rfl
theorem J_113_120 : m_jmp 113 120 (13) = b_113_133 := rfl
theorem J_113_125 : m_jmp 113 125 (7) = b_113_132 := rfl
theorem J_113_129 : m_jmp 113 129 (4) = b_113_133 := rfl
theorem I_113_167 {o : Nat} {a0 : MV} : m_ok xs L 113 ((pc, .invokevirtual 167) :: r) ls (a0 :: vR o :: st) h Q ↔ (m_tag h o = some 10 ∧ (st.map m_cat).sum ≤ 8 ∧ [a0].all (fun v => decide (m_cat v = 1)) = true) ∧ m_do xs L 99 [vR o, a0] h (m_cont xs L 113 pc r ls st Q) := U_invv (mj := 99) (av := [a0]) rfl rfl rfl (Nat.le_of_ble_eq_true rfl)
theorem J_113_136 : m_jmp 113 136 (5) = b_113_141 := rfl
theorem F_113_71 {o : Nat} : m_ok xs L 113 ((pc, .getfield 71) :: r) ls (vR o :: st) h Q ↔ ∃ v, m_get h o 10 24 = some v ∧ m_ok xs L 113 r ls (v :: st) h Q := U_getf rfl
theorem F_113_74 {o : Nat} : m_ok xs L 113 ((pc, .getfield 74) :: r) ls (vR o :: st) h Q ↔ ∃ v, m_get h o 10 25 = some v ∧ m_ok xs L 113 r ls (v :: st) h Q := U_getf rfl
theorem W_113_173 {o : Nat} {v : MV} : m_ok xs L 113 ((pc, .putfield 173) :: r) ls (v :: vR o :: st) h Q ↔ (m_fit 1 v = true ∧ (m_get h o 10 34).isSome = true) ∧ m_ok xs L 113 r ls st (m_set h o 34 v) Q := U_putf rfl
theorem D_114 {a0 : MV} : m_do xs L 114 [a0] h Q ↔ m_ok xs L 114 b_114_0 [a0, vU] [] h Q := Iff.rfl
theorem R_114 : m_ok xs L 114 ((pc, .return_) :: r) ls [] h Q ↔ Q (.inl none) h := V_vret rfl
theorem X_114 {e : Nat} : m_cont xs L 114 pc r ls st Q (.inr e) h ↔ Q (.inr e) h := V_contx rfl
theorem J_114_5 : m_jmp 114 5 (41) = b_114_46 := rfl
theorem F_114_98 {o : Nat} : m_ok xs L 114 ((pc, .getfield 98) :: r) ls (vR o :: st) h Q ↔ ∃ v, m_get h o 10 35 = some v ∧ m_ok xs L 114 r ls (v :: st) h Q := U_getf rfl
theorem J_114_17 : m_jmp 114 17 (7) = b_114_24 := rfl
theorem J_114_21 : m_jmp 114 21 (4) = b_114_25 := rfl
theorem F_114_101 {o : Nat} : m_ok xs L 114 ((pc, .getfield 101) :: r) ls (vR o :: st) h Q ↔ ∃ v, m_get h o 10 36 = some v ∧ m_ok xs L 114 r ls (v :: st) h Q := U_getf rfl
theorem F_114_140 {o : Nat} : m_ok xs L 114 ((pc, .getfield 140) :: r) ls (vR o :: st) h Q ↔ ∃ v, m_get h o 10 49 = some v ∧ m_ok xs L 114 r ls (v :: st) h Q := U_getf rfl
theorem J_114_43 : m_jmp 114 43 (-41) = b_114_2 := rfl
theorem J_114_51 : m_jmp 114 51 (30) = b_114_81 := rfl
theorem F_114_104 {o : Nat} : m_ok xs L 114 ((pc, .getfield 104) :: r) ls (vR o :: st) h Q ↔ ∃ v, m_get h o 10 37 = some v ∧ m_ok xs L 114 r ls (v :: st) h Q := U_getf rfl
theorem F_114_107 {o : Nat} : m_ok xs L 114 ((pc, .getfield 107) :: r) ls (vR o :: st) h Q ↔ ∃ v, m_get h o 10 38 = some v ∧ m_ok xs L 114 r ls (v :: st) h Q := U_getf rfl
theorem F_114_113 {o : Nat} : m_ok xs L 114 ((pc, .getfield 113) :: r) ls (vR o :: st) h Q ↔ ∃ v, m_get h o 10 40 = some v ∧ m_ok xs L 114 r ls (v :: st) h Q := U_getf rfl
theorem J_114_78 : m_jmp 114 78 (-30) = b_114_48 := rfl
theorem J_114_86 : m_jmp 114 86 (42) = b_114_128 := rfl
theorem F_114_125 {o : Nat} : m_ok xs L 114 ((pc, .getfield 125) :: r) ls (vR o :: st) h Q ↔ ∃ v, m_get h o 10 44 = some v ∧ m_ok xs L 114 r ls (v :: st) h Q := U_getf rfl
theorem F_114_43 {o : Nat} : m_ok xs L 114 ((pc, .getfield 43) :: r) ls (vR o :: st) h Q ↔ ∃ v, m_get h o 10 15 = some v ∧ m_ok xs L 114 r ls (v :: st) h Q := U_getf rfl
theorem F_114_128 {o : Nat} : m_ok xs L 114 ((pc, .getfield 128) :: r) ls (vR o :: st) h Q ↔ ∃ v, m_get h o 10 45 = some v ∧ m_ok xs L 114 r ls (v :: st) h Q := U_getf rfl
theorem F_114_131 {o : Nat} : m_ok xs L 114 ((pc, .getfield 131) :: r) ls (vR o :: st) h Q ↔ ∃ v, m_get h o 10 46 = some v ∧ m_ok xs L 114 r ls (v :: st) h Q := U_getf rfl
theorem F_114_134 {o : Nat} : m_ok xs L 114 ((pc, .getfield 134) :: r) ls (vR o :: st) h Q ↔ ∃ v, m_get h o 10 47 = some v ∧ m_ok xs L 114 r ls (v :: st) h Q := U_getf rfl
theorem J_114_125 : m_jmp 114 125 (-42) = b_114_83 := rfl
theorem J_114_134 : m_jmp 114 134 (16) = b_114_150 := rfl
theorem F_114_122 {o : Nat} : m_ok xs L 114 ((pc, .getfield 122) :: r) ls (vR o :: st) h Q ↔ ∃ v, m_get h o 10 43 = some v ∧ m_ok xs L 114 r ls (v :: st) h Q := U_getf rfl
theorem J_114_147 : m_jmp 114 147 (-17) = b_114_130 := rfl
theorem D_115 {a0 : MV} : m_do xs L 115 [a0] h Q ↔ m_ok xs L 115 b_115_0 [a0, vU, vU] [] h Q := Iff.rfl
theorem R_115 : m_ok xs L 115 ((pc, .return_) :: r) ls [] h Q ↔ Q (.inl none) h := V_vret rfl
theorem X_115 {e : Nat} : m_cont xs L 115 pc r ls st Q (.inr e) h ↔ Q (.inr e) h := V_contx rfl
theorem F_115_173 {o : Nat} : m_ok xs L 115 ((pc, .getfield 173) :: r) ls (vR o :: st) h Q ↔ ∃ v, m_get h o 10 34 = some v ∧ m_ok xs L 115 r ls (v :: st) h Q := U_getf rfl
theorem J_115_4 : m_jmp 115 4 (4) = b_115_8 := rfl
theorem I_115_191 {o : Nat} : m_ok xs L 115 ((pc, .invokevirtual 191) :: r) ls (vR o :: st) h Q ↔ (m_tag h o = some 10 ∧ (st.map m_cat).sum ≤ 8 ∧ [].all (fun v => decide (m_cat v = 1)) = true) ∧ m_do xs L 114 [vR o] h (m_cont xs L 115 pc r ls st Q) := U_invv (mj := 114) (av := []) rfl rfl rfl (Nat.le_of_ble_eq_true rfl)
theorem J_115_18 : m_jmp 115 18 (119) = b_115_137 := rfl
theorem F_115_154 {o : Nat} : m_ok xs L 115 ((pc, .getfield 154) :: r) ls (vR o :: st) h Q ↔ ∃ v, m_get h o 10 4 = some v ∧ m_ok xs L 115 r ls (v :: st) h Q := U_getf rfl
theorem J_115_28 : m_jmp 115 28 (46) = b_115_74 := rfl
theorem F_115_107 {o : Nat} : m_ok xs L 115 ((pc, .getfield 107) :: r) ls (vR o :: st) h Q ↔ ∃ v, m_get h o 10 38 = some v ∧ m_ok xs L 115 r ls (v :: st) h Q := U_getf rfl
theorem J_115_37 : m_jmp 115 37 (31) = b_115_68 := rfl
theorem F_115_98 {o : Nat} : m_ok xs L 115 ((pc, .getfield 98) :: r) ls (vR o :: st) h Q ↔ ∃ v, m_get h o 10 35 = some v ∧ m_ok xs L 115 r ls (v :: st) h Q := U_getf rfl
theorem F_115_104 {o : Nat} : m_ok xs L 115 ((pc, .getfield 104) :: r) ls (vR o :: st) h Q ↔ ∃ v, m_get h o 10 37 = some v ∧ m_ok xs L 115 r ls (v :: st) h Q := U_getf rfl
theorem J_115_59 : m_jmp 115 59 (9) = b_115_68 := rfl
theorem I_115_194 {o : Nat} {a0 a1 : MV} : m_ok xs L 115 ((pc, .invokevirtual 194) :: r) ls (a1 :: a0 :: vR o :: st) h Q ↔ (m_tag h o = some 10 ∧ (st.map m_cat).sum ≤ 8 ∧ [a1, a0].all (fun v => decide (m_cat v = 1)) = true) ∧ m_do xs L 117 [vR o, a0, a1] h (m_cont xs L 115 pc r ls st Q) := U_invv (mj := 117) (av := [a1, a0]) rfl rfl rfl (Nat.le_of_ble_eq_true rfl)
theorem J_115_71 : m_jmp 115 71 (-48) = b_115_23 := rfl
theorem J_115_81 : m_jmp 115 81 (50) = b_115_131 := rfl
theorem J_115_90 : m_jmp 115 90 (35) = b_115_125 := rfl
theorem F_115_22 {o : Nat} : m_ok xs L 115 ((pc, .getfield 22) :: r) ls (vR o :: st) h Q ↔ ∃ v, m_get h o 10 7 = some v ∧ m_ok xs L 115 r ls (v :: st) h Q := U_getf rfl
theorem J_115_107 : m_jmp 115 107 (18) = b_115_125 := rfl
theorem I_115_198 {o : Nat} {a0 a1 : MV} : m_ok xs L 115 ((pc, .invokevirtual 198) :: r) ls (a1 :: a0 :: vR o :: st) h Q ↔ (m_tag h o = some 10 ∧ (st.map m_cat).sum ≤ 8 ∧ [a1, a0].all (fun v => decide (m_cat v = 1)) = true) ∧ m_do xs L 120 [vR o, a0, a1] h (m_cont xs L 115 pc r ls st Q) := U_invv (mj := 120) (av := [a1, a0]) rfl rfl rfl (Nat.le_of_ble_eq_true rfl)
theorem J_115_116 : m_jmp 115 116 (9) = b_115_125 := rfl
theorem I_115_201 {o : Nat} {a0 a1 : MV} : m_ok xs L 115 ((pc, .invokevirtual 201) :: r) ls (a1 :: a0 :: vR o :: st) h Q ↔ (m_tag h o = some 10 ∧ (st.map m_cat).sum ≤ 8 ∧ [a1, a0].all (fun v => decide (m_cat v = 1)) = true) ∧ m_do xs L 126 [vR o, a0, a1] h (m_cont xs L 115 pc r ls st Q) := U_invv (mj := 126) (av := [a1, a0]) rfl rfl rfl (Nat.le_of_ble_eq_true rfl)
theorem J_115_128 : m_jmp 115 128 (-52) = b_115_76 := rfl
theorem J_115_134 : m_jmp 115 134 (-120) = b_115_14 := rfl
theorem W_115_173 {o : Nat} {v : MV} : m_ok xs L 115 ((pc, .putfield 173) :: r) ls (v :: vR o :: st) h Q ↔ (m_fit 1 v = true ∧ (m_get h o 10 34).isSome = true) ∧ m_ok xs L 115 r ls st (m_set h o 34 v) Q := U_putf rfl
theorem D_116 {a0 a1 a2 a3 a4 : MV} : m_do xs L 116 [a0, a1, a2, a3, a4] h Q ↔ m_ok xs L 116 b_116_0 [a0, a1, a2, a3, a4, vU, vU] [] h Q := Iff.rfl
theorem R_116 : m_ok xs L 116 ((pc, .return_) :: r) ls [] h Q ↔ Q (.inl none) h := V_vret rfl
theorem X_116 {e : Nat} : m_cont xs L 116 pc r ls st Q (.inr e) h ↔ Q (.inr e) h := V_contx rfl
theorem F_116_110 {o : Nat} : m_ok xs L 116 ((pc, .getfield 110) :: r) ls (vR o :: st) h Q ↔ ∃ v, m_get h o 10 39 = some v ∧ m_ok xs L 116 r ls (v :: st) h Q := U_getf rfl
theorem F_116_113 {o : Nat} : m_ok xs L 116 ((pc, .getfield 113) :: r) ls (vR o :: st) h Q ↔ ∃ v, m_get h o 10 40 = some v ∧ m_ok xs L 116 r ls (v :: st) h Q := U_getf rfl
theorem J_116_34 : m_jmp 116 34 (35) = b_116_69 := rfl
theorem J_116_66 : m_jmp 116 66 (-40) = b_116_26 := rfl
theorem F_116_125 {o : Nat} : m_ok xs L 116 ((pc, .getfield 125) :: r) ls (vR o :: st) h Q ↔ ∃ v, m_get h o 10 44 = some v ∧ m_ok xs L 116 r ls (v :: st) h Q := U_getf rfl
theorem F_116_128 {o : Nat} : m_ok xs L 116 ((pc, .getfield 128) :: r) ls (vR o :: st) h Q ↔ ∃ v, m_get h o 10 45 = some v ∧ m_ok xs L 116 r ls (v :: st) h Q := U_getf rfl
theorem D_117 {a0 a1 a2 : MV} : m_do xs L 117 [a0, a1, a2] h Q ↔ m_ok xs L 117 b_117_0 [a0, a1, a2, vU, vU, vU, vU, vU] [] h Q := Iff.rfl
theorem R_117 : m_ok xs L 117 ((pc, .return_) :: r) ls [] h Q ↔ Q (.inl none) h := V_vret rfl
theorem X_117 {e : Nat} : m_cont xs L 117 pc r ls st Q (.inr e) h ↔ Q (.inr e) h := V_contx rfl
theorem F_117_107 {o : Nat} : m_ok xs L 117 ((pc, .getfield 107) :: r) ls (vR o :: st) h Q ↔ ∃ v, m_get h o 10 38 = some v ∧ m_ok xs L 117 r ls (v :: st) h Q := U_getf rfl
theorem F_117_104 {o : Nat} : m_ok xs L 117 ((pc, .getfield 104) :: r) ls (vR o :: st) h Q ↔ ∃ v, m_get h o 10 37 = some v ∧ m_ok xs L 117 r ls (v :: st) h Q := U_getf rfl
theorem F_117_25 {o : Nat} : m_ok xs L 117 ((pc, .getfield 25) :: r) ls (vR o :: st) h Q ↔ ∃ v, m_get h o 10 8 = some v ∧ m_ok xs L 117 r ls (v :: st) h Q := U_getf rfl
theorem F_117_22 {o : Nat} : m_ok xs L 117 ((pc, .getfield 22) :: r) ls (vR o :: st) h Q ↔ ∃ v, m_get h o 10 7 = some v ∧ m_ok xs L 117 r ls (v :: st) h Q := U_getf rfl
theorem J_117_48 : m_jmp 117 48 (7) = b_117_55 := rfl
theorem J_117_52 : m_jmp 117 52 (4) = b_117_56 := rfl
theorem F_117_113 {o : Nat} : m_ok xs L 117 ((pc, .getfield 113) :: r) ls (vR o :: st) h Q ↔ ∃ v, m_get h o 10 40 = some v ∧ m_ok xs L 117 r ls (v :: st) h Q := U_getf rfl
theorem J_117_69 : m_jmp 117 69 (93) = b_117_162 := rfl
theorem F_117_110 {o : Nat} : m_ok xs L 117 ((pc, .getfield 110) :: r) ls (vR o :: st) h Q ↔ ∃ v, m_get h o 10 39 = some v ∧ m_ok xs L 117 r ls (v :: st) h Q := U_getf rfl
theorem F_117_74 {o : Nat} : m_ok xs L 117 ((pc, .getfield 74) :: r) ls (vR o :: st) h Q ↔ ∃ v, m_get h o 10 25 = some v ∧ m_ok xs L 117 r ls (v :: st) h Q := U_getf rfl
theorem F_117_131 {o : Nat} : m_ok xs L 117 ((pc, .getfield 131) :: r) ls (vR o :: st) h Q ↔ ∃ v, m_get h o 10 46 = some v ∧ m_ok xs L 117 r ls (v :: st) h Q := U_getf rfl
theorem J_117_104 : m_jmp 117 104 (7) = b_117_111 := rfl
theorem J_117_108 : m_jmp 117 108 (4) = b_117_112 := rfl
theorem J_117_116 : m_jmp 117 116 (8) = b_117_124 := rfl
theorem J_117_121 : m_jmp 117 121 (35) = b_117_156 := rfl
theorem I_117_204 {o : Nat} {a0 a1 a2 a3 : MV} : m_ok xs L 117 ((pc, .invokevirtual 204) :: r) ls (a3 :: a2 :: a1 :: a0 :: vR o :: st) h Q ↔ (m_tag h o = some 10 ∧ (st.map m_cat).sum ≤ 8 ∧ [a3, a2, a1, a0].all (fun v => decide (m_cat v = 1)) = true) ∧ m_do xs L 116 [vR o, a0, a1, a2, a3] h (m_cont xs L 117 pc r ls st Q) := U_invv (mj := 116) (av := [a3, a2, a1, a0]) rfl rfl rfl (Nat.le_of_ble_eq_true rfl)
theorem J_117_143 : m_jmp 117 143 (7) = b_117_150 := rfl
theorem J_117_147 : m_jmp 117 147 (4) = b_117_151 := rfl
theorem J_117_153 : m_jmp 117 153 (6) = b_117_159 := rfl
theorem J_117_159 : m_jmp 117 159 (-98) = b_117_61 := rfl
theorem D_118 {a0 a1 : MV} : m_do xs L 118 [a0, a1] h Q ↔ m_ok xs L 118 b_118_0 [a0, a1] [] h Q := Iff.rfl
theorem R_118 {a : Int} : m_ok xs L 118 ((pc, .ireturn) :: r) ls [vI a] h Q ↔ (a = 0 ∨ a = 1) ∧ Q (.inl (some (vI a))) h := V_iretz rfl
theorem X_118 {e : Nat} : m_cont xs L 118 pc r ls st Q (.inr e) h ↔ Q (.inr e) h := V_contx rfl
theorem F_118_65 {o : Nat} : m_ok xs L 118 ((pc, .getfield 65) :: r) ls (vR o :: st) h Q ↔ ∃ v, m_get h o 10 22 = some v ∧ m_ok xs L 118 r ls (v :: st) h Q := U_getf rfl
theorem J_118_6 : m_jmp 118 6 (22) = b_118_28 := rfl
theorem F_118_131 {o : Nat} : m_ok xs L 118 ((pc, .getfield 131) :: r) ls (vR o :: st) h Q ↔ ∃ v, m_get h o 10 46 = some v ∧ m_ok xs L 118 r ls (v :: st) h Q := U_getf rfl
theorem F_118_68 {o : Nat} : m_ok xs L 118 ((pc, .getfield 68) :: r) ls (vR o :: st) h Q ↔ ∃ v, m_get h o 10 23 = some v ∧ m_ok xs L 118 r ls (v :: st) h Q := U_getf rfl
theorem J_118_21 : m_jmp 118 21 (7) = b_118_28 := rfl
theorem J_118_25 : m_jmp 118 25 (4) = b_118_29 := rfl
theorem D_119 {a0 a1 a2 a3 : MV} : m_do xs L 119 [a0, a1, a2, a3] h Q ↔ m_ok xs L 119 b_119_0 [a0, a1, a2, a3] [] h Q := Iff.rfl
theorem R_119 {a : Int} : m_ok xs L 119 ((pc, .ireturn) :: r) ls [vI a] h Q ↔ (a = 0 ∨ a = 1) ∧ Q (.inl (some (vI a))) h := V_iretz rfl
theorem X_119 {e : Nat} : m_cont xs L 119 pc r ls st Q (.inr e) h ↔ Q (.inr e) h := V_contx rfl
theorem F_119_125 {o : Nat} : m_ok xs L 119 ((pc, .getfield 125) :: r) ls (vR o :: st) h Q ↔ ∃ v, m_get h o 10 44 = some v ∧ m_ok xs L 119 r ls (v :: st) h Q := U_getf rfl
theorem J_119_7 : m_jmp 119 7 (17) = b_119_24 := rfl
theorem F_119_128 {o : Nat} : m_ok xs L 119 ((pc, .getfield 128) :: r) ls (vR o :: st) h Q ↔ ∃ v, m_get h o 10 45 = some v ∧ m_ok xs L 119 r ls (v :: st) h Q := U_getf rfl
theorem J_119_17 : m_jmp 119 17 (7) = b_119_24 := rfl
theorem J_119_21 : m_jmp 119 21 (4) = b_119_25 := rfl
theorem D_120 {a0 a1 a2 : MV} : m_do xs L 120 [a0, a1, a2] h Q ↔ m_ok xs L 120 b_120_0 [a0, a1, a2, vU, vU, vU, vU, vU, vU] [] h Q := Iff.rfl
theorem R_120 {a : Int} : m_ok xs L 120 ((pc, .ireturn) :: r) ls [vI a] h Q ↔ (a = 0 ∨ a = 1) ∧ Q (.inl (some (vI a))) h := V_iretz rfl
theorem X_120 {e : Nat} : m_cont xs L 120 pc r ls st Q (.inr e) h ↔ Q (.inr e) h := V_contx rfl
theorem F_120_104 {o : Nat} : m_ok xs L 120 ((pc, .getfield 104) :: r) ls (vR o :: st) h Q ↔ ∃ v, m_get h o 10 37 = some v ∧ m_ok xs L 120 r ls (v :: st) h Q := U_getf rfl
theorem F_120_28 {o : Nat} : m_ok xs L 120 ((pc, .getfield 28) :: r) ls (vR o :: st) h Q ↔ ∃ v, m_get h o 10 9 = some v ∧ m_ok xs L 120 r ls (v :: st) h Q := U_getf rfl
theorem J_120_19 : m_jmp 120 19 (29) = b_120_48 := rfl
theorem J_120_28 : m_jmp 120 28 (24) = b_120_52 := rfl
theorem F_120_98 {o : Nat} : m_ok xs L 120 ((pc, .getfield 98) :: r) ls (vR o :: st) h Q ↔ ∃ v, m_get h o 10 35 = some v ∧ m_ok xs L 120 r ls (v :: st) h Q := U_getf rfl
theorem F_120_37 {o : Nat} : m_ok xs L 120 ((pc, .getfield 37) :: r) ls (vR o :: st) h Q ↔ ∃ v, m_get h o 10 12 = some v ∧ m_ok xs L 120 r ls (v :: st) h Q := U_getf rfl
theorem J_120_45 : m_jmp 120 45 (7) = b_120_52 := rfl
theorem J_120_49 : m_jmp 120 49 (4) = b_120_53 := rfl
theorem J_120_57 : m_jmp 120 57 (20) = b_120_77 := rfl
theorem F_120_19 {o : Nat} : m_ok xs L 120 ((pc, .getfield 19) :: r) ls (vR o :: st) h Q ↔ ∃ v, m_get h o 10 6 = some v ∧ m_ok xs L 120 r ls (v :: st) h Q := U_getf rfl
theorem J_120_74 : m_jmp 120 74 (14) = b_120_88 := rfl
theorem J_120_79 : m_jmp 120 79 (7) = b_120_86 := rfl
theorem J_120_83 : m_jmp 120 83 (4) = b_120_87 := rfl
theorem F_120_161 {o : Nat} : m_ok xs L 120 ((pc, .getfield 161) :: r) ls (vR o :: st) h Q ↔ ∃ v, m_get h o 10 14 = some v ∧ m_ok xs L 120 r ls (v :: st) h Q := U_getf rfl
theorem J_120_100 : m_jmp 120 100 (131) = b_120_231 := rfl
theorem F_120_131 {o : Nat} : m_ok xs L 120 ((pc, .getfield 131) :: r) ls (vR o :: st) h Q ↔ ∃ v, m_get h o 10 46 = some v ∧ m_ok xs L 120 r ls (v :: st) h Q := U_getf rfl
theorem F_120_68 {o : Nat} : m_ok xs L 120 ((pc, .getfield 68) :: r) ls (vR o :: st) h Q ↔ ∃ v, m_get h o 10 23 = some v ∧ m_ok xs L 120 r ls (v :: st) h Q := U_getf rfl
theorem J_120_121 : m_jmp 120 121 (104) = b_120_225 := rfl
theorem F_120_65 {o : Nat} : m_ok xs L 120 ((pc, .getfield 65) :: r) ls (vR o :: st) h Q ↔ ∃ v, m_get h o 10 22 = some v ∧ m_ok xs L 120 r ls (v :: st) h Q := U_getf rfl
theorem J_120_131 : m_jmp 120 131 (94) = b_120_225 := rfl
theorem F_120_71 {o : Nat} : m_ok xs L 120 ((pc, .getfield 71) :: r) ls (vR o :: st) h Q ↔ ∃ v, m_get h o 10 24 = some v ∧ m_ok xs L 120 r ls (v :: st) h Q := U_getf rfl
theorem J_120_147 : m_jmp 120 147 (24) = b_120_171 := rfl
theorem I_120_188 {o : Nat} {a0 a1 : MV} : m_ok xs L 120 ((pc, .invokevirtual 188) :: r) ls (a1 :: a0 :: vR o :: st) h Q ↔ (m_tag h o = some 10 ∧ (st.map m_cat).sum ≤ 8 ∧ [a1, a0].all (fun v => decide (m_cat v = 1)) = true) ∧ m_do xs L 112 [vR o, a0, a1] h (m_cont xs L 120 pc r ls st Q) := U_invv (mj := 112) (av := [a1, a0]) rfl rfl rfl (Nat.le_of_ble_eq_true rfl)
theorem F_120_25 {o : Nat} : m_ok xs L 120 ((pc, .getfield 25) :: r) ls (vR o :: st) h Q ↔ ∃ v, m_get h o 10 8 = some v ∧ m_ok xs L 120 r ls (v :: st) h Q := U_getf rfl
theorem J_120_164 : m_jmp 120 164 (7) = b_120_171 := rfl
theorem J_120_168 : m_jmp 120 168 (4) = b_120_172 := rfl
theorem J_120_176 : m_jmp 120 176 (40) = b_120_216 := rfl
theorem J_120_181 : m_jmp 120 181 (31) = b_120_212 := rfl
theorem J_120_193 : m_jmp 120 193 (23) = b_120_216 := rfl
theorem I_120_208 {o : Nat} {a0 a1 a2 : MV} : m_ok xs L 120 ((pc, .invokevirtual 208) :: r) ls (a2 :: a1 :: a0 :: vR o :: st) h Q ↔ (m_tag h o = some 10 ∧ (st.map m_cat).sum ≤ 8 ∧ [a2, a1, a0].all (fun v => decide (m_cat v = 1)) = true) ∧ m_do xs L 119 [vR o, a0, a1, a2] h (m_cont xs L 120 pc r ls st Q) := U_invv (mj := 119) (av := [a2, a1, a0]) rfl rfl rfl (Nat.le_of_ble_eq_true rfl)
theorem J_120_209 : m_jmp 120 209 (7) = b_120_216 := rfl
theorem J_120_213 : m_jmp 120 213 (4) = b_120_217 := rfl
theorem J_120_222 : m_jmp 120 222 (-110) = b_120_112 := rfl
theorem J_120_228 : m_jmp 120 228 (-134) = b_120_94 := rfl
theorem D_121 {a0 a1 a2 a3 : MV} : m_do xs L 121 [a0, a1, a2, a3] h Q ↔ m_ok xs L 121 b_121_0 [a0, a1, a2, a3, vU] [] h Q := Iff.rfl
theorem R_121 {a : Int} : m_ok xs L 121 ((pc, .ireturn) :: r) ls [vI a] h Q ↔ (a = 0 ∨ a = 1) ∧ Q (.inl (some (vI a))) h := V_iretz rfl
theorem X_121 {e : Nat} : m_cont xs L 121 pc r ls st Q (.inr e) h ↔ Q (.inr e) h := V_contx rfl
theorem F_121_58 {o : Nat} : m_ok xs L 121 ((pc, .getfield 58) :: r) ls (vR o :: st) h Q ↔ ∃ v, m_get h o 10 20 = some v ∧ m_ok xs L 121 r ls (v :: st) h Q := U_getf rfl
theorem F_121_7 {o : Nat} : m_ok xs L 121 ((pc, .getfield 7) :: r) ls (vR o :: st) h Q ↔ ∃ v, m_get h o 10 2 = some v ∧ m_ok xs L 121 r ls (v :: st) h Q := U_getf rfl
theorem J_121_16 : m_jmp 121 16 (7) = b_121_23 := rfl
theorem J_121_20 : m_jmp 121 20 (4) = b_121_24 := rfl
theorem J_121_28 : m_jmp 121 28 (31) = b_121_59 := rfl
theorem F_121_13 {o : Nat} : m_ok xs L 121 ((pc, .getfield 13) :: r) ls (vR o :: st) h Q ↔ ∃ v, m_get h o 10 3 = some v ∧ m_ok xs L 121 r ls (v :: st) h Q := U_getf rfl
theorem J_121_43 : m_jmp 121 43 (12) = b_121_55 := rfl
theorem F_121_61 {o : Nat} : m_ok xs L 121 ((pc, .getfield 61) :: r) ls (vR o :: st) h Q ↔ ∃ v, m_get h o 10 21 = some v ∧ m_ok xs L 121 r ls (v :: st) h Q := U_getf rfl
theorem J_121_52 : m_jmp 121 52 (7) = b_121_59 := rfl
theorem J_121_56 : m_jmp 121 56 (4) = b_121_60 := rfl
theorem D_122 {a0 a1 a2 a3 : MV} : m_do xs L 122 [a0, a1, a2, a3] h Q ↔ m_ok xs L 122 b_122_0 [a0, a1, a2, a3, vU, vU, vU, vU] [] h Q := Iff.rfl
theorem R_122 {a : Int} : m_ok xs L 122 ((pc, .ireturn) :: r) ls [vI a] h Q ↔ (a = 0 ∨ a = 1) ∧ Q (.inl (some (vI a))) h := V_iretz rfl
theorem X_122 {e : Nat} : m_cont xs L 122 pc r ls st Q (.inr e) h ↔ Q (.inr e) h := V_contx rfl
theorem F_122_71 {o : Nat} : m_ok xs L 122 ((pc, .getfield 71) :: r) ls (vR o :: st) h Q ↔ ∃ v, m_get h o 10 24 = some v ∧ m_ok xs L 122 r ls (v :: st) h Q := U_getf rfl
theorem F_122_131 {o : Nat} : m_ok xs L 122 ((pc, .getfield 131) :: r) ls (vR o :: st) h Q ↔ ∃ v, m_get h o 10 46 = some v ∧ m_ok xs L 122 r ls (v :: st) h Q := U_getf rfl
theorem F_122_74 {o : Nat} : m_ok xs L 122 ((pc, .getfield 74) :: r) ls (vR o :: st) h Q ↔ ∃ v, m_get h o 10 25 = some v ∧ m_ok xs L 122 r ls (v :: st) h Q := U_getf rfl
theorem I_122_177 {o : Nat} {a0 a1 : MV} : m_ok xs L 122 ((pc, .invokevirtual 177) :: r) ls (a1 :: a0 :: vR o :: st) h Q ↔ (m_tag h o = some 10 ∧ (st.map m_cat).sum ≤ 8 ∧ [a1, a0].all (fun v => decide (m_cat v = 1)) = true) ∧ m_do xs L 105 [vR o, a0, a1] h (m_cont xs L 122 pc r ls st Q) := U_invv (mj := 105) (av := [a1, a0]) rfl rfl rfl (Nat.le_of_ble_eq_true rfl)
theorem F_122_104 {o : Nat} : m_ok xs L 122 ((pc, .getfield 104) :: r) ls (vR o :: st) h Q ↔ ∃ v, m_get h o 10 37 = some v ∧ m_ok xs L 122 r ls (v :: st) h Q := U_getf rfl
theorem J_122_43 : m_jmp 122 43 (7) = b_122_50 := rfl
theorem J_122_47 : m_jmp 122 47 (4) = b_122_51 := rfl
theorem J_122_65 : m_jmp 122 65 (26) = b_122_91 := rfl
theorem J_122_71 : m_jmp 122 71 (20) = b_122_91 := rfl
theorem F_122_101 {o : Nat} : m_ok xs L 122 ((pc, .getfield 101) :: r) ls (vR o :: st) h Q ↔ ∃ v, m_get h o 10 36 = some v ∧ m_ok xs L 122 r ls (v :: st) h Q := U_getf rfl
theorem J_122_88 : m_jmp 122 88 (7) = b_122_95 := rfl
theorem J_122_92 : m_jmp 122 92 (4) = b_122_96 := rfl
theorem J_122_100 : m_jmp 122 100 (12) = b_122_112 := rfl
theorem J_122_105 : m_jmp 122 105 (7) = b_122_112 := rfl
theorem J_122_109 : m_jmp 122 109 (4) = b_122_113 := rfl
theorem D_123 {a0 a1 : MV} : m_do xs L 123 [a0, a1] h Q ↔ m_ok xs L 123 b_123_0 [a0, a1, vU, vU] [] h Q := Iff.rfl
theorem R_123 {a : Int} : m_ok xs L 123 ((pc, .ireturn) :: r) ls [vI a] h Q ↔ Q (.inl (some (vI a))) h := V_ireti rfl
theorem X_123 {e : Nat} : m_cont xs L 123 pc r ls st Q (.inr e) h ↔ Q (.inr e) h := V_contx rfl
theorem F_123_113 {o : Nat} : m_ok xs L 123 ((pc, .getfield 113) :: r) ls (vR o :: st) h Q ↔ ∃ v, m_get h o 10 40 = some v ∧ m_ok xs L 123 r ls (v :: st) h Q := U_getf rfl
theorem J_123_11 : m_jmp 123 11 (28) = b_123_39 := rfl
theorem F_123_52 {o : Nat} : m_ok xs L 123 ((pc, .getfield 52) :: r) ls (vR o :: st) h Q ↔ ∃ v, m_get h o 10 18 = some v ∧ m_ok xs L 123 r ls (v :: st) h Q := U_getf rfl
theorem F_123_110 {o : Nat} : m_ok xs L 123 ((pc, .getfield 110) :: r) ls (vR o :: st) h Q ↔ ∃ v, m_get h o 10 39 = some v ∧ m_ok xs L 123 r ls (v :: st) h Q := U_getf rfl
theorem J_123_36 : m_jmp 123 36 (-32) = b_123_4 := rfl
theorem D_124 {a0 a1 : MV} : m_do xs L 124 [a0, a1] h Q ↔ m_ok xs L 124 b_124_0 [a0, a1, vU, vU] [] h Q := Iff.rfl
theorem R_124 {a : Int} : m_ok xs L 124 ((pc, .ireturn) :: r) ls [vI a] h Q ↔ Q (.inl (some (vI a))) h := V_ireti rfl
theorem X_124 {e : Nat} : m_cont xs L 124 pc r ls st Q (.inr e) h ↔ Q (.inr e) h := V_contx rfl
theorem F_124_113 {o : Nat} : m_ok xs L 124 ((pc, .getfield 113) :: r) ls (vR o :: st) h Q ↔ ∃ v, m_get h o 10 40 = some v ∧ m_ok xs L 124 r ls (v :: st) h Q := U_getf rfl
theorem J_124_11 : m_jmp 124 11 (28) = b_124_39 := rfl
theorem F_124_55 {o : Nat} : m_ok xs L 124 ((pc, .getfield 55) :: r) ls (vR o :: st) h Q ↔ ∃ v, m_get h o 10 19 = some v ∧ m_ok xs L 124 r ls (v :: st) h Q := U_getf rfl
theorem F_124_110 {o : Nat} : m_ok xs L 124 ((pc, .getfield 110) :: r) ls (vR o :: st) h Q ↔ ∃ v, m_get h o 10 39 = some v ∧ m_ok xs L 124 r ls (v :: st) h Q := U_getf rfl
theorem J_124_36 : m_jmp 124 36 (-32) = b_124_4 := rfl
theorem D_125 {a0 a1 a2 a3 a4 : MV} : m_do xs L 125 [a0, a1, a2, a3, a4] h Q ↔ m_ok xs L 125 b_125_0 [a0, a1, a2, a3, a4, vU, vU] [] h Q := Iff.rfl
theorem R_125 : m_ok xs L 125 ((pc, .return_) :: r) ls [] h Q ↔ Q (.inl none) h := V_vret rfl
theorem X_125 {e : Nat} : m_cont xs L 125 pc r ls st Q (.inr e) h ↔ Q (.inr e) h := V_contx rfl
theorem F_125_113 {o : Nat} : m_ok xs L 125 ((pc, .getfield 113) :: r) ls (vR o :: st) h Q ↔ ∃ v, m_get h o 10 40 = some v ∧ m_ok xs L 125 r ls (v :: st) h Q := U_getf rfl
theorem J_125_11 : m_jmp 125 11 (43) = b_125_54 := rfl
theorem F_125_110 {o : Nat} : m_ok xs L 125 ((pc, .getfield 110) :: r) ls (vR o :: st) h Q ↔ ∃ v, m_get h o 10 39 = some v ∧ m_ok xs L 125 r ls (v :: st) h Q := U_getf rfl
theorem I_125_211 {o : Nat} {a0 a1 a2 : MV} : m_ok xs L 125 ((pc, .invokevirtual 211) :: r) ls (a2 :: a1 :: a0 :: vR o :: st) h Q ↔ (m_tag h o = some 10 ∧ (st.map m_cat).sum ≤ 8 ∧ [a2, a1, a0].all (fun v => decide (m_cat v = 1)) = true) ∧ m_do xs L 121 [vR o, a0, a1, a2] h (m_cont xs L 125 pc r ls st Q) := U_invv (mj := 121) (av := [a2, a1, a0]) rfl rfl rfl (Nat.le_of_ble_eq_true rfl)
theorem J_125_33 : m_jmp 125 33 (9) = b_125_42 := rfl
theorem J_125_39 : m_jmp 125 39 (-36) = b_125_3 := rfl
theorem I_125_204 {o : Nat} {a0 a1 a2 a3 : MV} : m_ok xs L 125 ((pc, .invokevirtual 204) :: r) ls (a3 :: a2 :: a1 :: a0 :: vR o :: st) h Q ↔ (m_tag h o = some 10 ∧ (st.map m_cat).sum ≤ 8 ∧ [a3, a2, a1, a0].all (fun v => decide (m_cat v = 1)) = true) ∧ m_do xs L 116 [vR o, a0, a1, a2, a3] h (m_cont xs L 125 pc r ls st Q) := U_invv (mj := 116) (av := [a3, a2, a1, a0]) rfl rfl rfl (Nat.le_of_ble_eq_true rfl)
theorem J_125_51 : m_jmp 125 51 (-48) = b_125_3 := rfl
theorem F_125_161 {o : Nat} : m_ok xs L 125 ((pc, .getfield 161) :: r) ls (vR o :: st) h Q ↔ ∃ v, m_get h o 10 14 = some v ∧ m_ok xs L 125 r ls (v :: st) h Q := U_getf rfl
theorem J_125_63 : m_jmp 125 63 (110) = b_125_173 := rfl
theorem F_125_137 {o : Nat} : m_ok xs L 125 ((pc, .getfield 137) :: r) ls (vR o :: st) h Q ↔ ∃ v, m_get h o 10 48 = some v ∧ m_ok xs L 125 r ls (v :: st) h Q := U_getf rfl
theorem I_125_214 {o : Nat} {a0 : MV} : m_ok xs L 125 ((pc, .invokevirtual 214) :: r) ls (a0 :: vR o :: st) h Q ↔ (m_tag h o = some 10 ∧ (st.map m_cat).sum ≤ 8 ∧ [a0].all (fun v => decide (m_cat v = 1)) = true) ∧ m_do xs L 118 [vR o, a0] h (m_cont xs L 125 pc r ls st Q) := U_invv (mj := 118) (av := [a0]) rfl rfl rfl (Nat.le_of_ble_eq_true rfl)
theorem J_125_78 : m_jmp 125 78 (41) = b_125_119 := rfl
theorem I_125_208 {o : Nat} {a0 a1 a2 : MV} : m_ok xs L 125 ((pc, .invokevirtual 208) :: r) ls (a2 :: a1 :: a0 :: vR o :: st) h Q ↔ (m_tag h o = some 10 ∧ (st.map m_cat).sum ≤ 8 ∧ [a2, a1, a0].all (fun v => decide (m_cat v = 1)) = true) ∧ m_do xs L 119 [vR o, a0, a1, a2] h (m_cont xs L 125 pc r ls st Q) := U_invv (mj := 119) (av := [a2, a1, a0]) rfl rfl rfl (Nat.le_of_ble_eq_true rfl)
theorem J_125_89 : m_jmp 125 89 (30) = b_125_119 := rfl
theorem J_125_101 : m_jmp 125 101 (18) = b_125_119 := rfl
theorem I_125_217 {o : Nat} {a0 a1 a2 : MV} : m_ok xs L 125 ((pc, .invokevirtual 217) :: r) ls (a2 :: a1 :: a0 :: vR o :: st) h Q ↔ (m_tag h o = some 10 ∧ (st.map m_cat).sum ≤ 8 ∧ [a2, a1, a0].all (fun v => decide (m_cat v = 1)) = true) ∧ m_do xs L 122 [vR o, a0, a1, a2] h (m_cont xs L 125 pc r ls st Q) := U_invv (mj := 122) (av := [a2, a1, a0]) rfl rfl rfl (Nat.le_of_ble_eq_true rfl)
theorem J_125_112 : m_jmp 125 112 (7) = b_125_119 := rfl
theorem J_125_116 : m_jmp 125 116 (4) = b_125_120 := rfl
theorem J_125_128 : m_jmp 125 128 (39) = b_125_167 := rfl
theorem F_125_125 {o : Nat} : m_ok xs L 125 ((pc, .getfield 125) :: r) ls (vR o :: st) h Q ↔ ∃ v, m_get h o 10 44 = some v ∧ m_ok xs L 125 r ls (v :: st) h Q := U_getf rfl
theorem J_125_170 : m_jmp 125 170 (-113) = b_125_57 := rfl
theorem I_125_220 {o : Nat} {a0 : MV} : m_ok xs L 125 ((pc, .invokevirtual 220) :: r) ls (a0 :: vR o :: st) h Q ↔ (m_tag h o = some 10 ∧ (st.map m_cat).sum ≤ 8 ∧ [a0].all (fun v => decide (m_cat v = 1)) = true) ∧ m_do xs L 123 [vR o, a0] h (m_cont xs L 125 pc r ls st Q) := U_invv (mj := 123) (av := [a0]) rfl rfl rfl (Nat.le_of_ble_eq_true rfl)
theorem F_125_16 {o : Nat} : m_ok xs L 125 ((pc, .getfield 16) :: r) ls (vR o :: st) h Q ↔ ∃ v, m_get h o 10 5 = some v ∧ m_ok xs L 125 r ls (v :: st) h Q := U_getf rfl
theorem J_125_184 : m_jmp 125 184 (28) = b_125_212 := rfl
theorem I_125_224 {o : Nat} {a0 : MV} : m_ok xs L 125 ((pc, .invokevirtual 224) :: r) ls (a0 :: vR o :: st) h Q ↔ (m_tag h o = some 10 ∧ (st.map m_cat).sum ≤ 8 ∧ [a0].all (fun v => decide (m_cat v = 1)) = true) ∧ m_do xs L 124 [vR o, a0] h (m_cont xs L 125 pc r ls st Q) := U_invv (mj := 124) (av := [a0]) rfl rfl rfl (Nat.le_of_ble_eq_true rfl)
theorem J_125_209 : m_jmp 125 209 (21) = b_125_230 := rfl
theorem J_125_227 : m_jmp 125 227 (-54) = b_125_173 := rfl
theorem D_126 {a0 a1 a2 : MV} : m_do xs L 126 [a0, a1, a2] h Q ↔ m_ok xs L 126 b_126_0 [a0, a1, a2, vU, vU, vU, vU, vU] [] h Q := Iff.rfl
theorem R_126 : m_ok xs L 126 ((pc, .return_) :: r) ls [] h Q ↔ Q (.inl none) h := V_vret rfl
theorem X_126 {e : Nat} : m_cont xs L 126 pc r ls st Q (.inr e) h ↔ Q (.inr e) h := V_contx rfl
theorem F_126_104 {o : Nat} : m_ok xs L 126 ((pc, .getfield 104) :: r) ls (vR o :: st) h Q ↔ ∃ v, m_get h o 10 37 = some v ∧ m_ok xs L 126 r ls (v :: st) h Q := U_getf rfl
theorem F_126_25 {o : Nat} : m_ok xs L 126 ((pc, .getfield 25) :: r) ls (vR o :: st) h Q ↔ ∃ v, m_get h o 10 8 = some v ∧ m_ok xs L 126 r ls (v :: st) h Q := U_getf rfl
theorem I_126_227 {o : Nat} {a0 a1 a2 a3 : MV} : m_ok xs L 126 ((pc, .invokevirtual 227) :: r) ls (a3 :: a2 :: a1 :: a0 :: vR o :: st) h Q ↔ (m_tag h o = some 10 ∧ (st.map m_cat).sum ≤ 8 ∧ [a3, a2, a1, a0].all (fun v => decide (m_cat v = 1)) = true) ∧ m_do xs L 125 [vR o, a0, a1, a2, a3] h (m_cont xs L 126 pc r ls st Q) := U_invv (mj := 125) (av := [a3, a2, a1, a0]) rfl rfl rfl (Nat.le_of_ble_eq_true rfl)
theorem F_126_101 {o : Nat} : m_ok xs L 126 ((pc, .getfield 101) :: r) ls (vR o :: st) h Q ↔ ∃ v, m_get h o 10 36 = some v ∧ m_ok xs L 126 r ls (v :: st) h Q := U_getf rfl
theorem F_126_119 {o : Nat} : m_ok xs L 126 ((pc, .getfield 119) :: r) ls (vR o :: st) h Q ↔ ∃ v, m_get h o 10 42 = some v ∧ m_ok xs L 126 r ls (v :: st) h Q := U_getf rfl
theorem I_126_220 {o : Nat} {a0 : MV} : m_ok xs L 126 ((pc, .invokevirtual 220) :: r) ls (a0 :: vR o :: st) h Q ↔ (m_tag h o = some 10 ∧ (st.map m_cat).sum ≤ 8 ∧ [a0].all (fun v => decide (m_cat v = 1)) = true) ∧ m_do xs L 123 [vR o, a0] h (m_cont xs L 126 pc r ls st Q) := U_invv (mj := 123) (av := [a0]) rfl rfl rfl (Nat.le_of_ble_eq_true rfl)
theorem F_126_116 {o : Nat} : m_ok xs L 126 ((pc, .getfield 116) :: r) ls (vR o :: st) h Q ↔ ∃ v, m_get h o 10 41 = some v ∧ m_ok xs L 126 r ls (v :: st) h Q := U_getf rfl
theorem I_126_224 {o : Nat} {a0 : MV} : m_ok xs L 126 ((pc, .invokevirtual 224) :: r) ls (a0 :: vR o :: st) h Q ↔ (m_tag h o = some 10 ∧ (st.map m_cat).sum ≤ 8 ∧ [a0].all (fun v => decide (m_cat v = 1)) = true) ∧ m_do xs L 124 [vR o, a0] h (m_cont xs L 126 pc r ls st Q) := U_invv (mj := 124) (av := [a0]) rfl rfl rfl (Nat.le_of_ble_eq_true rfl)
theorem F_126_113 {o : Nat} : m_ok xs L 126 ((pc, .getfield 113) :: r) ls (vR o :: st) h Q ↔ ∃ v, m_get h o 10 40 = some v ∧ m_ok xs L 126 r ls (v :: st) h Q := U_getf rfl
theorem J_126_86 : m_jmp 126 86 (119) = b_126_205 := rfl
theorem F_126_110 {o : Nat} : m_ok xs L 126 ((pc, .getfield 110) :: r) ls (vR o :: st) h Q ↔ ∃ v, m_get h o 10 39 = some v ∧ m_ok xs L 126 r ls (v :: st) h Q := U_getf rfl
theorem F_126_122 {o : Nat} : m_ok xs L 126 ((pc, .getfield 122) :: r) ls (vR o :: st) h Q ↔ ∃ v, m_get h o 10 43 = some v ∧ m_ok xs L 126 r ls (v :: st) h Q := U_getf rfl
theorem F_126_134 {o : Nat} : m_ok xs L 126 ((pc, .getfield 134) :: r) ls (vR o :: st) h Q ↔ ∃ v, m_get h o 10 47 = some v ∧ m_ok xs L 126 r ls (v :: st) h Q := U_getf rfl
theorem F_126_137 {o : Nat} : m_ok xs L 126 ((pc, .getfield 137) :: r) ls (vR o :: st) h Q ↔ ∃ v, m_get h o 10 48 = some v ∧ m_ok xs L 126 r ls (v :: st) h Q := U_getf rfl
theorem J_126_132 : m_jmp 126 132 (7) = b_126_139 := rfl
theorem J_126_136 : m_jmp 126 136 (4) = b_126_140 := rfl
theorem F_126_140 {o : Nat} : m_ok xs L 126 ((pc, .getfield 140) :: r) ls (vR o :: st) h Q ↔ ∃ v, m_get h o 10 49 = some v ∧ m_ok xs L 126 r ls (v :: st) h Q := U_getf rfl
theorem F_126_46 {o : Nat} : m_ok xs L 126 ((pc, .getfield 46) :: r) ls (vR o :: st) h Q ↔ ∃ v, m_get h o 10 16 = some v ∧ m_ok xs L 126 r ls (v :: st) h Q := U_getf rfl
theorem F_126_7 {o : Nat} : m_ok xs L 126 ((pc, .getfield 7) :: r) ls (vR o :: st) h Q ↔ ∃ v, m_get h o 10 2 = some v ∧ m_ok xs L 126 r ls (v :: st) h Q := U_getf rfl
theorem J_126_180 : m_jmp 126 180 (7) = b_126_187 := rfl
theorem J_126_184 : m_jmp 126 184 (13) = b_126_197 := rfl
theorem F_126_34 {o : Nat} : m_ok xs L 126 ((pc, .getfield 34) :: r) ls (vR o :: st) h Q ↔ ∃ v, m_get h o 10 11 = some v ∧ m_ok xs L 126 r ls (v :: st) h Q := U_getf rfl
theorem J_126_202 : m_jmp 126 202 (-124) = b_126_78 := rfl
theorem F_126_107 {o : Nat} : m_ok xs L 126 ((pc, .getfield 107) :: r) ls (vR o :: st) h Q ↔ ∃ v, m_get h o 10 38 = some v ∧ m_ok xs L 126 r ls (v :: st) h Q := U_getf rfl
theorem F_126_98 {o : Nat} : m_ok xs L 126 ((pc, .getfield 98) :: r) ls (vR o :: st) h Q ↔ ∃ v, m_get h o 10 35 = some v ∧ m_ok xs L 126 r ls (v :: st) h Q := U_getf rfl
theorem F_126_31 {o : Nat} : m_ok xs L 126 ((pc, .getfield 31) :: r) ls (vR o :: st) h Q ↔ ∃ v, m_get h o 10 10 = some v ∧ m_ok xs L 126 r ls (v :: st) h Q := U_getf rfl
theorem F_126_40 {o : Nat} : m_ok xs L 126 ((pc, .getfield 40) :: r) ls (vR o :: st) h Q ↔ ∃ v, m_get h o 10 13 = some v ∧ m_ok xs L 126 r ls (v :: st) h Q := U_getf rfl
theorem F_126_13 {o : Nat} : m_ok xs L 126 ((pc, .getfield 13) :: r) ls (vR o :: st) h Q ↔ ∃ v, m_get h o 10 3 = some v ∧ m_ok xs L 126 r ls (v :: st) h Q := U_getf rfl
theorem J_126_252 : m_jmp 126 252 (7) = b_126_259 := rfl
theorem J_126_256 : m_jmp 126 256 (5) = b_126_261 := rfl
theorem D_127 {a0 a1 a2 a3 a4 : MV} : m_do xs L 127 [a0, a1, a2, a3, a4] h Q ↔ m_ok xs L 127 b_127_0 [a0, a1, a2, a3, a4, vU, vU, vU, vU, vU, vU] [] h Q := Iff.rfl
theorem R_127 {a : Int} : m_ok xs L 127 ((pc, .ireturn) :: r) ls [vI a] h Q ↔ (a = 0 ∨ a = 1) ∧ Q (.inl (some (vI a))) h := V_iretz rfl
theorem X_127 {e : Nat} : m_cont xs L 127 pc r ls st Q (.inr e) h ↔ Q (.inr e) h := V_contx rfl
theorem J_127_2 : m_jmp 127 2 (7) = b_127_9 := rfl
theorem J_127_6 : m_jmp 127 6 (4) = b_127_10 := rfl
theorem J_127_14 : m_jmp 127 14 (7) = b_127_21 := rfl
theorem J_127_18 : m_jmp 127 18 (4) = b_127_22 := rfl
theorem J_127_26 : m_jmp 127 26 (7) = b_127_33 := rfl
theorem J_127_30 : m_jmp 127 30 (5) = b_127_35 := rfl
theorem J_127_46 : m_jmp 127 46 (95) = b_127_141 := rfl
theorem F_127_95 {o : Nat} : m_ok xs L 127 ((pc, .getfield 95) :: r) ls (vR o :: st) h Q ↔ ∃ v, m_get h o 10 33 = some v ∧ m_ok xs L 127 r ls (v :: st) h Q := U_getf rfl
theorem J_127_70 : m_jmp 127 70 (65) = b_127_135 := rfl
theorem F_127_77 {o : Nat} : m_ok xs L 127 ((pc, .getfield 77) :: r) ls (vR o :: st) h Q ↔ ∃ v, m_get h o 10 27 = some v ∧ m_ok xs L 127 r ls (v :: st) h Q := U_getf rfl
theorem J_127_82 : m_jmp 127 82 (7) = b_127_89 := rfl
theorem J_127_86 : m_jmp 127 86 (4) = b_127_90 := rfl
theorem J_127_98 : m_jmp 127 98 (25) = b_127_123 := rfl
theorem J_127_104 : m_jmp 127 104 (15) = b_127_119 := rfl
theorem F_127_83 {o : Nat} : m_ok xs L 127 ((pc, .getfield 83) :: r) ls (vR o :: st) h Q ↔ ∃ v, m_get h o 10 29 = some v ∧ m_ok xs L 127 r ls (v :: st) h Q := U_getf rfl
theorem J_127_116 : m_jmp 127 116 (7) = b_127_123 := rfl
theorem J_127_120 : m_jmp 127 120 (4) = b_127_124 := rfl
theorem J_127_138 : m_jmp 127 138 (-95) = b_127_43 := rfl
theorem J_127_143 : m_jmp 127 143 (15) = b_127_158 := rfl
theorem J_127_148 : m_jmp 127 148 (10) = b_127_158 := rfl
theorem J_127_155 : m_jmp 127 155 (7) = b_127_162 := rfl
theorem J_127_159 : m_jmp 127 159 (4) = b_127_163 := rfl
theorem D_128 {a0 a1 a2 : MV} : m_do xs L 128 [a0, a1, a2] h Q ↔ m_ok xs L 128 b_128_0 [a0, a1, a2, vU, vU] [] h Q := Iff.rfl
theorem R_128 {a : Int} : m_ok xs L 128 ((pc, .ireturn) :: r) ls [vI a] h Q ↔ (a = 0 ∨ a = 1) ∧ Q (.inl (some (vI a))) h := V_iretz rfl
theorem X_128 {e : Nat} : m_cont xs L 128 pc r ls st Q (.inr e) h ↔ Q (.inr e) h := V_contx rfl
theorem J_128_8 : m_jmp 128 8 (39) = b_128_47 := rfl
theorem J_128_12 : m_jmp 128 12 (23) = b_128_35 := rfl
theorem F_128_95 {o : Nat} : m_ok xs L 128 ((pc, .getfield 95) :: r) ls (vR o :: st) h Q ↔ ∃ v, m_get h o 10 33 = some v ∧ m_ok xs L 128 r ls (v :: st) h Q := U_getf rfl
theorem J_128_32 : m_jmp 128 32 (7) = b_128_39 := rfl
theorem J_128_36 : m_jmp 128 36 (4) = b_128_40 := rfl
theorem J_128_44 : m_jmp 128 44 (-39) = b_128_5 := rfl
theorem D_129 {a0 a1 a2 a3 : MV} : m_do xs L 129 [a0, a1, a2, a3] h Q ↔ m_ok xs L 129 b_129_0 [a0, a1, a2, a3, vU, vU] [] h Q := Iff.rfl
theorem R_129 {a : Int} : m_ok xs L 129 ((pc, .ireturn) :: r) ls [vI a] h Q ↔ Q (.inl (some (vI a))) h := V_ireti rfl
theorem X_129 {e : Nat} : m_cont xs L 129 pc r ls st Q (.inr e) h ↔ Q (.inr e) h := V_contx rfl
theorem J_129_8 : m_jmp 129 8 (48) = b_129_56 := rfl
theorem I_129_230 {o : Nat} {a0 a1 : MV} : m_ok xs L 129 ((pc, .invokevirtual 230) :: r) ls (a1 :: a0 :: vR o :: st) h Q ↔ (m_tag h o = some 10 ∧ (st.map m_cat).sum ≤ 8 ∧ [a1, a0].all (fun v => decide (m_cat v = 1)) = true) ∧ m_do xs L 128 [vR o, a0, a1] h (m_cont xs L 129 pc r ls st Q) := U_invv (mj := 128) (av := [a1, a0]) rfl rfl rfl (Nat.le_of_ble_eq_true rfl)
theorem J_129_18 : m_jmp 129 18 (28) = b_129_46 := rfl
theorem J_129_26 : m_jmp 129 26 (7) = b_129_33 := rfl
theorem J_129_30 : m_jmp 129 30 (4) = b_129_34 := rfl
theorem I_129_233 {o : Nat} {a0 a1 a2 a3 : MV} : m_ok xs L 129 ((pc, .invokevirtual 233) :: r) ls (a3 :: a2 :: a1 :: a0 :: vR o :: st) h Q ↔ (m_tag h o = some 10 ∧ (st.map m_cat).sum ≤ 8 ∧ [a3, a2, a1, a0].all (fun v => decide (m_cat v = 1)) = true) ∧ m_do xs L 127 [vR o, a0, a1, a2, a3] h (m_cont xs L 129 pc r ls st Q) := U_invv (mj := 127) (av := [a3, a2, a1, a0]) rfl rfl rfl (Nat.le_of_ble_eq_true rfl)
theorem J_129_38 : m_jmp 129 38 (8) = b_129_46 := rfl
theorem J_129_43 : m_jmp 129 43 (5) = b_129_48 := rfl
theorem J_129_53 : m_jmp 129 53 (-47) = b_129_6 := rfl
theorem D_130 {a0 a1 a2 a3 : MV} : m_do xs L 130 [a0, a1, a2, a3] h Q ↔ m_ok xs L 130 b_130_0 [a0, a1, a2, a3, vU, vU, vU] [] h Q := Iff.rfl
theorem R_130 : m_ok xs L 130 ((pc, .return_) :: r) ls [] h Q ↔ Q (.inl none) h := V_vret rfl
theorem X_130 {e : Nat} : m_cont xs L 130 pc r ls st Q (.inr e) h ↔ Q (.inr e) h := V_contx rfl
theorem J_130_9 : m_jmp 130 9 (67) = b_130_76 := rfl
theorem F_130_95 {o : Nat} : m_ok xs L 130 ((pc, .getfield 95) :: r) ls (vR o :: st) h Q ↔ ∃ v, m_get h o 10 33 = some v ∧ m_ok xs L 130 r ls (v :: st) h Q := U_getf rfl
theorem J_130_29 : m_jmp 130 29 (7) = b_130_36 := rfl
theorem J_130_33 : m_jmp 130 33 (4) = b_130_37 := rfl
theorem J_130_41 : m_jmp 130 41 (25) = b_130_66 := rfl
theorem J_130_47 : m_jmp 130 47 (14) = b_130_61 := rfl
theorem F_130_80 {o : Nat} : m_ok xs L 130 ((pc, .getfield 80) :: r) ls (vR o :: st) h Q ↔ ∃ v, m_get h o 10 28 = some v ∧ m_ok xs L 130 r ls (v :: st) h Q := U_getf rfl
theorem J_130_58 : m_jmp 130 58 (8) = b_130_66 := rfl
theorem J_130_63 : m_jmp 130 63 (5) = b_130_68 := rfl
theorem J_130_73 : m_jmp 130 73 (-67) = b_130_6 := rfl
theorem F_130_89 {o : Nat} : m_ok xs L 130 ((pc, .getfield 89) :: r) ls (vR o :: st) h Q ↔ ∃ v, m_get h o 10 31 = some v ∧ m_ok xs L 130 r ls (v :: st) h Q := U_getf rfl
theorem F_130_92 {o : Nat} : m_ok xs L 130 ((pc, .getfield 92) :: r) ls (vR o :: st) h Q ↔ ∃ v, m_get h o 10 32 = some v ∧ m_ok xs L 130 r ls (v :: st) h Q := U_getf rfl
theorem D_131 {a0 a1 : MV} : m_do xs L 131 [a0, a1] h Q ↔ m_ok xs L 131 b_131_0 [a0, a1] [] h Q := Iff.rfl
theorem R_131 {a : Int} : m_ok xs L 131 ((pc, .ireturn) :: r) ls [vI a] h Q ↔ Q (.inl (some (vI a))) h := V_ireti rfl
theorem X_131 {e : Nat} : m_cont xs L 131 pc r ls st Q (.inr e) h ↔ Q (.inr e) h := V_contx rfl
theorem F_131_89 {o : Nat} : m_ok xs L 131 ((pc, .getfield 89) :: r) ls (vR o :: st) h Q ↔ ∃ v, m_get h o 10 31 = some v ∧ m_ok xs L 131 r ls (v :: st) h Q := U_getf rfl
theorem F_131_92 {o : Nat} : m_ok xs L 131 ((pc, .getfield 92) :: r) ls (vR o :: st) h Q ↔ ∃ v, m_get h o 10 32 = some v ∧ m_ok xs L 131 r ls (v :: st) h Q := U_getf rfl
theorem D_132 {a0 a1 a2 : MV} : m_do xs L 132 [a0, a1, a2] h Q ↔ m_ok xs L 132 b_132_0 [a0, a1, a2, vU, vU, vU] [] h Q := Iff.rfl
theorem R_132 {a : Int} : m_ok xs L 132 ((pc, .ireturn) :: r) ls [vI a] h Q ↔ Q (.inl (some (vI a))) h := V_ireti rfl
theorem X_132 {e : Nat} : m_cont xs L 132 pc r ls st Q (.inr e) h ↔ Q (.inr e) h := V_contx rfl
theorem F_132_161 {o : Nat} : m_ok xs L 132 ((pc, .getfield 161) :: r) ls (vR o :: st) h Q ↔ ∃ v, m_get h o 10 14 = some v ∧ m_ok xs L 132 r ls (v :: st) h Q := U_getf rfl
theorem J_132_12 : m_jmp 132 12 (131) = b_132_143 := rfl
theorem F_132_68 {o : Nat} : m_ok xs L 132 ((pc, .getfield 68) :: r) ls (vR o :: st) h Q ↔ ∃ v, m_get h o 10 23 = some v ∧ m_ok xs L 132 r ls (v :: st) h Q := U_getf rfl
theorem J_132_21 : m_jmp 132 21 (79) = b_132_100 := rfl
theorem J_132_31 : m_jmp 132 31 (69) = b_132_100 := rfl
theorem F_132_65 {o : Nat} : m_ok xs L 132 ((pc, .getfield 65) :: r) ls (vR o :: st) h Q ↔ ∃ v, m_get h o 10 22 = some v ∧ m_ok xs L 132 r ls (v :: st) h Q := U_getf rfl
theorem J_132_41 : m_jmp 132 41 (59) = b_132_100 := rfl
theorem F_132_49 {o : Nat} : m_ok xs L 132 ((pc, .getfield 49) :: r) ls (vR o :: st) h Q ↔ ∃ v, m_get h o 10 17 = some v ∧ m_ok xs L 132 r ls (v :: st) h Q := U_getf rfl
theorem J_132_57 : m_jmp 132 57 (43) = b_132_100 := rfl
theorem F_132_71 {o : Nat} : m_ok xs L 132 ((pc, .getfield 71) :: r) ls (vR o :: st) h Q ↔ ∃ v, m_get h o 10 24 = some v ∧ m_ok xs L 132 r ls (v :: st) h Q := U_getf rfl
theorem J_132_77 : m_jmp 132 77 (23) = b_132_100 := rfl
theorem F_132_43 {o : Nat} : m_ok xs L 132 ((pc, .getfield 43) :: r) ls (vR o :: st) h Q ↔ ∃ v, m_get h o 10 15 = some v ∧ m_ok xs L 132 r ls (v :: st) h Q := U_getf rfl
theorem J_132_93 : m_jmp 132 93 (7) = b_132_100 := rfl
theorem J_132_97 : m_jmp 132 97 (4) = b_132_101 := rfl
theorem J_132_105 : m_jmp 132 105 (30) = b_132_135 := rfl
theorem F_132_77 {o : Nat} : m_ok xs L 132 ((pc, .getfield 77) :: r) ls (vR o :: st) h Q ↔ ∃ v, m_get h o 10 27 = some v ∧ m_ok xs L 132 r ls (v :: st) h Q := U_getf rfl
theorem F_132_83 {o : Nat} : m_ok xs L 132 ((pc, .getfield 83) :: r) ls (vR o :: st) h Q ↔ ∃ v, m_get h o 10 29 = some v ∧ m_ok xs L 132 r ls (v :: st) h Q := U_getf rfl
theorem I_132_237 {o : Nat} {a0 a1 a2 : MV} : m_ok xs L 132 ((pc, .invokevirtual 237) :: r) ls (a2 :: a1 :: a0 :: vR o :: st) h Q ↔ (m_tag h o = some 10 ∧ (st.map m_cat).sum ≤ 8 ∧ [a2, a1, a0].all (fun v => decide (m_cat v = 1)) = true) ∧ m_do xs L 129 [vR o, a0, a1, a2] h (m_cont xs L 132 pc r ls st Q) := U_invv (mj := 129) (av := [a2, a1, a0]) rfl rfl rfl (Nat.le_of_ble_eq_true rfl)
theorem J_132_127 : m_jmp 132 127 (8) = b_132_135 := rfl
theorem J_132_132 : m_jmp 132 132 (4) = b_132_136 := rfl
theorem J_132_140 : m_jmp 132 140 (-130) = b_132_10 := rfl
theorem D_133 {a0 a1 : MV} : m_do xs L 133 [a0, a1] h Q ↔ m_ok xs L 133 b_133_0 [a0, a1, vU, vU, vU, vU] [] h Q := Iff.rfl
theorem R_133 {a : Int} : m_ok xs L 133 ((pc, .ireturn) :: r) ls [vI a] h Q ↔ Q (.inl (some (vI a))) h := V_ireti rfl
theorem X_133 {e : Nat} : m_cont xs L 133 pc r ls st Q (.inr e) h ↔ Q (.inr e) h := V_contx rfl
theorem I_133_185 {o : Nat} {a0 : MV} : m_ok xs L 133 ((pc, .invokevirtual 185) :: r) ls (a0 :: vR o :: st) h Q ↔ (m_tag h o = some 10 ∧ (st.map m_cat).sum ≤ 8 ∧ [a0].all (fun v => decide (m_cat v = 1)) = true) ∧ m_do xs L 103 [vR o, a0] h (m_cont xs L 133 pc r ls st Q) := U_invv (mj := 103) (av := [a0]) rfl rfl rfl (Nat.le_of_ble_eq_true rfl)
theorem J_133_8 : m_jmp 133 8 (7) = b_133_15 := rfl
theorem J_133_12 : m_jmp 133 12 (17) = b_133_29 := rfl
theorem F_133_65 {o : Nat} : m_ok xs L 133 ((pc, .getfield 65) :: r) ls (vR o :: st) h Q ↔ ∃ v, m_get h o 10 22 = some v ∧ m_ok xs L 133 r ls (v :: st) h Q := U_getf rfl
theorem J_133_21 : m_jmp 133 21 (7) = b_133_28 := rfl
theorem J_133_25 : m_jmp 133 25 (4) = b_133_29 := rfl
theorem I_133_167 {o : Nat} {a0 : MV} : m_ok xs L 133 ((pc, .invokevirtual 167) :: r) ls (a0 :: vR o :: st) h Q ↔ (m_tag h o = some 10 ∧ (st.map m_cat).sum ≤ 8 ∧ [a0].all (fun v => decide (m_cat v = 1)) = true) ∧ m_do xs L 99 [vR o, a0] h (m_cont xs L 133 pc r ls st Q) := U_invv (mj := 99) (av := [a0]) rfl rfl rfl (Nat.le_of_ble_eq_true rfl)
theorem J_133_32 : m_jmp 133 32 (5) = b_133_37 := rfl
theorem W_133_173 {o : Nat} {v : MV} : m_ok xs L 133 ((pc, .putfield 173) :: r) ls (v :: vR o :: st) h Q ↔ (m_fit 1 v = true ∧ (m_get h o 10 34).isSome = true) ∧ m_ok xs L 133 r ls st (m_set h o 34 v) Q := U_putf rfl
theorem F_133_164 {o : Nat} : m_ok xs L 133 ((pc, .getfield 164) :: r) ls (vR o :: st) h Q ↔ ∃ v, m_get h o 10 26 = some v ∧ m_ok xs L 133 r ls (v :: st) h Q := U_getf rfl
theorem J_133_60 : m_jmp 133 60 (108) = b_133_168 := rfl
theorem F_133_89 {o : Nat} : m_ok xs L 133 ((pc, .getfield 89) :: r) ls (vR o :: st) h Q ↔ ∃ v, m_get h o 10 31 = some v ∧ m_ok xs L 133 r ls (v :: st) h Q := U_getf rfl
theorem J_133_71 : m_jmp 133 71 (91) = b_133_162 := rfl
theorem F_133_95 {o : Nat} : m_ok xs L 133 ((pc, .getfield 95) :: r) ls (vR o :: st) h Q ↔ ∃ v, m_get h o 10 33 = some v ∧ m_ok xs L 133 r ls (v :: st) h Q := U_getf rfl
theorem I_133_241 {o : Nat} {a0 : MV} : m_ok xs L 133 ((pc, .invokevirtual 241) :: r) ls (a0 :: vR o :: st) h Q ↔ (m_tag h o = some 10 ∧ (st.map m_cat).sum ≤ 8 ∧ [a0].all (fun v => decide (m_cat v = 1)) = true) ∧ m_do xs L 131 [vR o, a0] h (m_cont xs L 133 pc r ls st Q) := U_invv (mj := 131) (av := [a0]) rfl rfl rfl (Nat.le_of_ble_eq_true rfl)
theorem I_133_244 {o : Nat} {a0 a1 : MV} : m_ok xs L 133 ((pc, .invokevirtual 244) :: r) ls (a1 :: a0 :: vR o :: st) h Q ↔ (m_tag h o = some 10 ∧ (st.map m_cat).sum ≤ 8 ∧ [a1, a0].all (fun v => decide (m_cat v = 1)) = true) ∧ m_do xs L 132 [vR o, a0, a1] h (m_cont xs L 133 pc r ls st Q) := U_invv (mj := 132) (av := [a1, a0]) rfl rfl rfl (Nat.le_of_ble_eq_true rfl)
theorem J_133_106 : m_jmp 133 106 (28) = b_133_134 := rfl
theorem F_133_86 {o : Nat} : m_ok xs L 133 ((pc, .getfield 86) :: r) ls (vR o :: st) h Q ↔ ∃ v, m_get h o 10 30 = some v ∧ m_ok xs L 133 r ls (v :: st) h Q := U_getf rfl
theorem F_133_68 {o : Nat} : m_ok xs L 133 ((pc, .getfield 68) :: r) ls (vR o :: st) h Q ↔ ∃ v, m_get h o 10 23 = some v ∧ m_ok xs L 133 r ls (v :: st) h Q := U_getf rfl
theorem J_133_131 : m_jmp 133 131 (31) = b_133_162 := rfl
theorem F_133_77 {o : Nat} : m_ok xs L 133 ((pc, .getfield 77) :: r) ls (vR o :: st) h Q ↔ ∃ v, m_get h o 10 27 = some v ∧ m_ok xs L 133 r ls (v :: st) h Q := U_getf rfl
theorem F_133_83 {o : Nat} : m_ok xs L 133 ((pc, .getfield 83) :: r) ls (vR o :: st) h Q ↔ ∃ v, m_get h o 10 29 = some v ∧ m_ok xs L 133 r ls (v :: st) h Q := U_getf rfl
theorem I_133_237 {o : Nat} {a0 a1 a2 : MV} : m_ok xs L 133 ((pc, .invokevirtual 237) :: r) ls (a2 :: a1 :: a0 :: vR o :: st) h Q ↔ (m_tag h o = some 10 ∧ (st.map m_cat).sum ≤ 8 ∧ [a2, a1, a0].all (fun v => decide (m_cat v = 1)) = true) ∧ m_do xs L 129 [vR o, a0, a1, a2] h (m_cont xs L 133 pc r ls st Q) := U_invv (mj := 129) (av := [a2, a1, a0]) rfl rfl rfl (Nat.le_of_ble_eq_true rfl)
theorem I_133_247 {o : Nat} {a0 a1 a2 : MV} : m_ok xs L 133 ((pc, .invokevirtual 247) :: r) ls (a2 :: a1 :: a0 :: vR o :: st) h Q ↔ (m_tag h o = some 10 ∧ (st.map m_cat).sum ≤ 8 ∧ [a2, a1, a0].all (fun v => decide (m_cat v = 1)) = true) ∧ m_do xs L 130 [vR o, a0, a1, a2] h (m_cont xs L 133 pc r ls st Q) := U_invv (mj := 130) (av := [a2, a1, a0]) rfl rfl rfl (Nat.le_of_ble_eq_true rfl)
theorem J_133_165 : m_jmp 133 165 (-111) = b_133_54 := rfl
theorem D_134 {a0 a1 a2 a3 a4 : MV} : m_do xs L 134 [a0, a1, a2, a3, a4] h Q ↔ m_ok xs L 134 b_134_0 [a0, a1, a2, a3, a4, vU, vU, vU] [] h Q := Iff.rfl
theorem R_134 {a : Int} : m_ok xs L 134 ((pc, .ireturn) :: r) ls [vI a] h Q ↔ Q (.inl (some (vI a))) h := V_ireti rfl
theorem X_134 {e : Nat} : m_cont xs L 134 pc r ls st Q (.inr e) h ↔ Q (.inr e) h := V_contx rfl
theorem I_134_185 {o : Nat} {a0 : MV} : m_ok xs L 134 ((pc, .invokevirtual 185) :: r) ls (a0 :: vR o :: st) h Q ↔ (m_tag h o = some 10 ∧ (st.map m_cat).sum ≤ 8 ∧ [a0].all (fun v => decide (m_cat v = 1)) = true) ∧ m_do xs L 103 [vR o, a0] h (m_cont xs L 134 pc r ls st Q) := U_invv (mj := 103) (av := [a0]) rfl rfl rfl (Nat.le_of_ble_eq_true rfl)
theorem I_134_150 {a0 a1 a2 : MV} : m_ok xs L 134 ((pc, .invokestatic 150) :: r) ls (a2 :: a1 :: a0 :: st) h Q ↔ ((st.map m_cat).sum ≤ 8 ∧ [a2, a1, a0].all (fun v => decide (m_cat v = 1)) = true) ∧ m_do xs L 98 [a0, a1, a2] h (m_cont xs L 134 pc r ls st Q) := U_invs (mj := 98) (av := [a2, a1, a0]) rfl rfl rfl (Nat.le_of_ble_eq_true rfl)
theorem J_134_14 : m_jmp 134 14 (18) = b_134_32 := rfl
theorem J_134_25 : m_jmp 134 25 (7) = b_134_32 := rfl
theorem J_134_29 : m_jmp 134 29 (4) = b_134_33 := rfl
theorem J_134_37 : m_jmp 134 37 (42) = b_134_79 := rfl
theorem J_134_42 : m_jmp 134 42 (37) = b_134_79 := rfl
theorem F_134_65 {o : Nat} : m_ok xs L 134 ((pc, .getfield 65) :: r) ls (vR o :: st) h Q ↔ ∃ v, m_get h o 10 22 = some v ∧ m_ok xs L 134 r ls (v :: st) h Q := U_getf rfl
theorem J_134_51 : m_jmp 134 51 (28) = b_134_79 := rfl
theorem F_134_164 {o : Nat} : m_ok xs L 134 ((pc, .getfield 164) :: r) ls (vR o :: st) h Q ↔ ∃ v, m_get h o 10 26 = some v ∧ m_ok xs L 134 r ls (v :: st) h Q := U_getf rfl
theorem J_134_60 : m_jmp 134 60 (19) = b_134_79 := rfl
theorem I_134_237 {o : Nat} {a0 a1 a2 : MV} : m_ok xs L 134 ((pc, .invokevirtual 237) :: r) ls (a2 :: a1 :: a0 :: vR o :: st) h Q ↔ (m_tag h o = some 10 ∧ (st.map m_cat).sum ≤ 8 ∧ [a2, a1, a0].all (fun v => decide (m_cat v = 1)) = true) ∧ m_do xs L 129 [vR o, a0, a1, a2] h (m_cont xs L 134 pc r ls st Q) := U_invv (mj := 129) (av := [a2, a1, a0]) rfl rfl rfl (Nat.le_of_ble_eq_true rfl)
theorem J_134_72 : m_jmp 134 72 (7) = b_134_79 := rfl
theorem J_134_76 : m_jmp 134 76 (4) = b_134_80 := rfl
theorem J_134_85 : m_jmp 134 85 (7) = b_134_92 := rfl
theorem J_134_89 : m_jmp 134 89 (22) = b_134_111 := rfl
theorem J_134_94 : m_jmp 134 94 (7) = b_134_101 := rfl
theorem J_134_98 : m_jmp 134 98 (13) = b_134_111 := rfl
theorem J_134_103 : m_jmp 134 103 (7) = b_134_110 := rfl
theorem J_134_107 : m_jmp 134 107 (4) = b_134_111 := rfl
theorem I_134_167 {o : Nat} {a0 : MV} : m_ok xs L 134 ((pc, .invokevirtual 167) :: r) ls (a0 :: vR o :: st) h Q ↔ (m_tag h o = some 10 ∧ (st.map m_cat).sum ≤ 8 ∧ [a0].all (fun v => decide (m_cat v = 1)) = true) ∧ m_do xs L 99 [vR o, a0] h (m_cont xs L 134 pc r ls st Q) := U_invv (mj := 99) (av := [a0]) rfl rfl rfl (Nat.le_of_ble_eq_true rfl)
theorem J_134_114 : m_jmp 134 114 (5) = b_134_119 := rfl
theorem F_134_77 {o : Nat} : m_ok xs L 134 ((pc, .getfield 77) :: r) ls (vR o :: st) h Q ↔ ∃ v, m_get h o 10 27 = some v ∧ m_ok xs L 134 r ls (v :: st) h Q := U_getf rfl
theorem F_134_80 {o : Nat} : m_ok xs L 134 ((pc, .getfield 80) :: r) ls (vR o :: st) h Q ↔ ∃ v, m_get h o 10 28 = some v ∧ m_ok xs L 134 r ls (v :: st) h Q := U_getf rfl
theorem F_134_83 {o : Nat} : m_ok xs L 134 ((pc, .getfield 83) :: r) ls (vR o :: st) h Q ↔ ∃ v, m_get h o 10 29 = some v ∧ m_ok xs L 134 r ls (v :: st) h Q := U_getf rfl
theorem I_134_247 {o : Nat} {a0 a1 a2 : MV} : m_ok xs L 134 ((pc, .invokevirtual 247) :: r) ls (a2 :: a1 :: a0 :: vR o :: st) h Q ↔ (m_tag h o = some 10 ∧ (st.map m_cat).sum ≤ 8 ∧ [a2, a1, a0].all (fun v => decide (m_cat v = 1)) = true) ∧ m_do xs L 130 [vR o, a0, a1, a2] h (m_cont xs L 134 pc r ls st Q) := U_invv (mj := 130) (av := [a2, a1, a0]) rfl rfl rfl (Nat.le_of_ble_eq_true rfl)
theorem W_134_164 {o : Nat} {v : MV} : m_ok xs L 134 ((pc, .putfield 164) :: r) ls (v :: vR o :: st) h Q ↔ (m_fit 0 v = true ∧ (m_get h o 10 26).isSome = true) ∧ m_ok xs L 134 r ls st (m_set h o 26 v) Q := U_putf rfl
theorem D_135 {a0 a1 : MV} : m_do xs L 135 [a0, a1] h Q ↔ m_ok xs L 135 b_135_0 [a0, a1, vU] [] h Q := Iff.rfl
theorem R_135 {a : Int} : m_ok xs L 135 ((pc, .ireturn) :: r) ls [vI a] h Q ↔ Q (.inl (some (vI a))) h := V_ireti rfl
theorem X_135 {e : Nat} : m_cont xs L 135 pc r ls st Q (.inr e) h ↔ Q (.inr e) h := V_contx rfl
theorem I_135_251 {o : Nat} {a0 : MV} : m_ok xs L 135 ((pc, .invokevirtual 251) :: r) ls (a0 :: vR o :: st) h Q ↔ (m_tag h o = some 10 ∧ (st.map m_cat).sum ≤ 8 ∧ [a0].all (fun v => decide (m_cat v = 1)) = true) ∧ m_do xs L 104 [vR o, a0] h (m_cont xs L 135 pc r ls st Q) := U_invv (mj := 104) (av := [a0]) rfl rfl rfl (Nat.le_of_ble_eq_true rfl)
theorem J_135_8 : m_jmp 135 8 (7) = b_135_15 := rfl
theorem J_135_12 : m_jmp 135 12 (18) = b_135_30 := rfl
theorem F_135_89 {o : Nat} : m_ok xs L 135 ((pc, .getfield 89) :: r) ls (vR o :: st) h Q ↔ ∃ v, m_get h o 10 31 = some v ∧ m_ok xs L 135 r ls (v :: st) h Q := U_getf rfl
theorem J_135_22 : m_jmp 135 22 (7) = b_135_29 := rfl
theorem J_135_26 : m_jmp 135 26 (4) = b_135_30 := rfl
theorem I_135_167 {o : Nat} {a0 : MV} : m_ok xs L 135 ((pc, .invokevirtual 167) :: r) ls (a0 :: vR o :: st) h Q ↔ (m_tag h o = some 10 ∧ (st.map m_cat).sum ≤ 8 ∧ [a0].all (fun v => decide (m_cat v = 1)) = true) ∧ m_do xs L 99 [vR o, a0] h (m_cont xs L 135 pc r ls st Q) := U_invv (mj := 99) (av := [a0]) rfl rfl rfl (Nat.le_of_ble_eq_true rfl)
theorem J_135_33 : m_jmp 135 33 (5) = b_135_38 := rfl
theorem F_135_95 {o : Nat} : m_ok xs L 135 ((pc, .getfield 95) :: r) ls (vR o :: st) h Q ↔ ∃ v, m_get h o 10 33 = some v ∧ m_ok xs L 135 r ls (v :: st) h Q := U_getf rfl
theorem I_135_241 {o : Nat} {a0 : MV} : m_ok xs L 135 ((pc, .invokevirtual 241) :: r) ls (a0 :: vR o :: st) h Q ↔ (m_tag h o = some 10 ∧ (st.map m_cat).sum ≤ 8 ∧ [a0].all (fun v => decide (m_cat v = 1)) = true) ∧ m_do xs L 131 [vR o, a0] h (m_cont xs L 135 pc r ls st Q) := U_invv (mj := 131) (av := [a0]) rfl rfl rfl (Nat.le_of_ble_eq_true rfl)
theorem F_135_92 {o : Nat} : m_ok xs L 135 ((pc, .getfield 92) :: r) ls (vR o :: st) h Q ↔ ∃ v, m_get h o 10 32 = some v ∧ m_ok xs L 135 r ls (v :: st) h Q := U_getf rfl
theorem D_136 {a0 a1 a2 : MV} : m_do xs L 136 [a0, a1, a2] h Q ↔ m_ok xs L 136 b_136_0 [a0, a1, a2, vU, vU] [] h Q := Iff.rfl
theorem R_136 : m_ok xs L 136 ((pc, .return_) :: r) ls [] h Q ↔ Q (.inl none) h := V_vret rfl
theorem X_136 {e : Nat} : m_cont xs L 136 pc r ls st Q (.inr e) h ↔ Q (.inr e) h := V_contx rfl
theorem F_136_89 {o : Nat} : m_ok xs L 136 ((pc, .getfield 89) :: r) ls (vR o :: st) h Q ↔ ∃ v, m_get h o 10 31 = some v ∧ m_ok xs L 136 r ls (v :: st) h Q := U_getf rfl
theorem F_136_92 {o : Nat} : m_ok xs L 136 ((pc, .getfield 92) :: r) ls (vR o :: st) h Q ↔ ∃ v, m_get h o 10 32 = some v ∧ m_ok xs L 136 r ls (v :: st) h Q := U_getf rfl
theorem F_136_95 {o : Nat} : m_ok xs L 136 ((pc, .getfield 95) :: r) ls (vR o :: st) h Q ↔ ∃ v, m_get h o 10 33 = some v ∧ m_ok xs L 136 r ls (v :: st) h Q := U_getf rfl
theorem I_136_241 {o : Nat} {a0 : MV} : m_ok xs L 136 ((pc, .invokevirtual 241) :: r) ls (a0 :: vR o :: st) h Q ↔ (m_tag h o = some 10 ∧ (st.map m_cat).sum ≤ 8 ∧ [a0].all (fun v => decide (m_cat v = 1)) = true) ∧ m_do xs L 131 [vR o, a0] h (m_cont xs L 136 pc r ls st Q) := U_invv (mj := 131) (av := [a0]) rfl rfl rfl (Nat.le_of_ble_eq_true rfl)
theorem D_137 {a0 a1 a2 : MV} : m_do xs L 137 [a0, a1, a2] h Q ↔ m_ok xs L 137 b_137_0 [a0, a1, a2, vU, vU, vU] [] h Q := Iff.rfl
theorem R_137 : m_ok xs L 137 ((pc, .return_) :: r) ls [] h Q ↔ Q (.inl none) h := V_vret rfl
theorem X_137 {e : Nat} : m_cont xs L 137 pc r ls st Q (.inr e) h ↔ Q (.inr e) h := V_contx rfl
theorem I_137_251 {o : Nat} {a0 : MV} : m_ok xs L 137 ((pc, .invokevirtual 251) :: r) ls (a0 :: vR o :: st) h Q ↔ (m_tag h o = some 10 ∧ (st.map m_cat).sum ≤ 8 ∧ [a0].all (fun v => decide (m_cat v = 1)) = true) ∧ m_do xs L 104 [vR o, a0] h (m_cont xs L 137 pc r ls st Q) := U_invv (mj := 104) (av := [a0]) rfl rfl rfl (Nat.le_of_ble_eq_true rfl)
theorem J_137_5 : m_jmp 137 5 (15) = b_137_20 := rfl
theorem J_137_13 : m_jmp 137 13 (7) = b_137_20 := rfl
theorem J_137_17 : m_jmp 137 17 (4) = b_137_21 := rfl
theorem J_137_23 : m_jmp 137 23 (32) = b_137_55 := rfl
theorem J_137_28 : m_jmp 137 28 (27) = b_137_55 := rfl
theorem F_137_89 {o : Nat} : m_ok xs L 137 ((pc, .getfield 89) :: r) ls (vR o :: st) h Q ↔ ∃ v, m_get h o 10 31 = some v ∧ m_ok xs L 137 r ls (v :: st) h Q := U_getf rfl
theorem J_137_38 : m_jmp 137 38 (17) = b_137_55 := rfl
theorem J_137_48 : m_jmp 137 48 (7) = b_137_55 := rfl
theorem J_137_52 : m_jmp 137 52 (4) = b_137_56 := rfl
theorem J_137_63 : m_jmp 137 63 (75) = b_137_138 := rfl
theorem I_137_254 {o : Nat} {a0 a1 : MV} : m_ok xs L 137 ((pc, .invokevirtual 254) :: r) ls (a1 :: a0 :: vR o :: st) h Q ↔ (m_tag h o = some 10 ∧ (st.map m_cat).sum ≤ 8 ∧ [a1, a0].all (fun v => decide (m_cat v = 1)) = true) ∧ m_do xs L 136 [vR o, a0, a1] h (m_cont xs L 137 pc r ls st Q) := U_invv (mj := 136) (av := [a1, a0]) rfl rfl rfl (Nat.le_of_ble_eq_true rfl)
theorem F_137_92 {o : Nat} : m_ok xs L 137 ((pc, .getfield 92) :: r) ls (vR o :: st) h Q ↔ ∃ v, m_get h o 10 32 = some v ∧ m_ok xs L 137 r ls (v :: st) h Q := U_getf rfl
theorem I_137_233 {o : Nat} {a0 a1 a2 a3 : MV} : m_ok xs L 137 ((pc, .invokevirtual 233) :: r) ls (a3 :: a2 :: a1 :: a0 :: vR o :: st) h Q ↔ (m_tag h o = some 10 ∧ (st.map m_cat).sum ≤ 8 ∧ [a3, a2, a1, a0].all (fun v => decide (m_cat v = 1)) = true) ∧ m_do xs L 127 [vR o, a0, a1, a2, a3] h (m_cont xs L 137 pc r ls st Q) := U_invv (mj := 127) (av := [a3, a2, a1, a0]) rfl rfl rfl (Nat.le_of_ble_eq_true rfl)
theorem J_137_93 : m_jmp 137 93 (31) = b_137_124 := rfl
theorem J_137_117 : m_jmp 137 117 (7) = b_137_124 := rfl
theorem J_137_121 : m_jmp 137 121 (4) = b_137_125 := rfl
theorem J_137_129 : m_jmp 137 129 (9) = b_137_138 := rfl
theorem J_137_140 : m_jmp 137 140 (7) = b_137_147 := rfl
theorem J_137_144 : m_jmp 137 144 (22) = b_137_166 := rfl
theorem J_137_149 : m_jmp 137 149 (7) = b_137_156 := rfl
theorem J_137_153 : m_jmp 137 153 (13) = b_137_166 := rfl
theorem J_137_158 : m_jmp 137 158 (7) = b_137_165 := rfl
theorem J_137_162 : m_jmp 137 162 (4) = b_137_166 := rfl
theorem I_137_167 {o : Nat} {a0 : MV} : m_ok xs L 137 ((pc, .invokevirtual 167) :: r) ls (a0 :: vR o :: st) h Q ↔ (m_tag h o = some 10 ∧ (st.map m_cat).sum ≤ 8 ∧ [a0].all (fun v => decide (m_cat v = 1)) = true) ∧ m_do xs L 99 [vR o, a0] h (m_cont xs L 137 pc r ls st Q) := U_invv (mj := 99) (av := [a0]) rfl rfl rfl (Nat.le_of_ble_eq_true rfl)
theorem D_138 {a0 a1 a2 : MV} : m_do xs L 138 [a0, a1, a2] h Q ↔ m_ok xs L 138 b_138_0 [a0, a1, a2, vU] [] h Q := Iff.rfl
theorem R_138 {a : Int} : m_ok xs L 138 ((pc, .ireturn) :: r) ls [vI a] h Q ↔ Q (.inl (some (vI a))) h := V_ireti rfl
theorem X_138 {e : Nat} : m_cont xs L 138 pc r ls st Q (.inr e) h ↔ Q (.inr e) h := V_contx rfl
theorem I_138_181 {o : Nat} {a0 a1 : MV} : m_ok xs L 138 ((pc, .invokevirtual 181) :: r) ls (a1 :: a0 :: vR o :: st) h Q ↔ (m_tag h o = some 10 ∧ (st.map m_cat).sum ≤ 8 ∧ [a1, a0].all (fun v => decide (m_cat v = 1)) = true) ∧ m_do xs L 102 [vR o, a0, a1] h (m_cont xs L 138 pc r ls st Q) := U_invv (mj := 102) (av := [a1, a0]) rfl rfl rfl (Nat.le_of_ble_eq_true rfl)
theorem J_138_7 : m_jmp 138 7 (7) = b_138_14 := rfl
theorem J_138_11 : m_jmp 138 11 (4) = b_138_15 := rfl
theorem I_138_167 {o : Nat} {a0 : MV} : m_ok xs L 138 ((pc, .invokevirtual 167) :: r) ls (a0 :: vR o :: st) h Q ↔ (m_tag h o = some 10 ∧ (st.map m_cat).sum ≤ 8 ∧ [a0].all (fun v => decide (m_cat v = 1)) = true) ∧ m_do xs L 99 [vR o, a0] h (m_cont xs L 138 pc r ls st Q) := U_invv (mj := 99) (av := [a0]) rfl rfl rfl (Nat.le_of_ble_eq_true rfl)
theorem J_138_18 : m_jmp 138 18 (5) = b_138_23 := rfl
theorem I_138_257 {o : Nat} : m_ok xs L 138 ((pc, .invokevirtual 257) :: r) ls (vR o :: st) h Q ↔ (m_tag h o = some 10 ∧ (st.map m_cat).sum ≤ 8 ∧ [].all (fun v => decide (m_cat v = 1)) = true) ∧ m_do xs L 115 [vR o] h (m_cont xs L 138 pc r ls st Q) := U_invv (mj := 115) (av := []) rfl rfl rfl (Nat.le_of_ble_eq_true rfl)
theorem F_138_98 {o : Nat} : m_ok xs L 138 ((pc, .getfield 98) :: r) ls (vR o :: st) h Q ↔ ∃ v, m_get h o 10 35 = some v ∧ m_ok xs L 138 r ls (v :: st) h Q := U_getf rfl
theorem J_138_43 : m_jmp 138 43 (7) = b_138_50 := rfl
theorem J_138_47 : m_jmp 138 47 (4) = b_138_51 := rfl
theorem D_139 {a0 a1 a2 : MV} : m_do xs L 139 [a0, a1, a2] h Q ↔ m_ok xs L 139 b_139_0 [a0, a1, a2] [] h Q := Iff.rfl
theorem R_139 {a : Int} : m_ok xs L 139 ((pc, .ireturn) :: r) ls [vI a] h Q ↔ Q (.inl (some (vI a))) h := V_ireti rfl
theorem X_139 {e : Nat} : m_cont xs L 139 pc r ls st Q (.inr e) h ↔ Q (.inr e) h := V_contx rfl
theorem I_139_181 {o : Nat} {a0 a1 : MV} : m_ok xs L 139 ((pc, .invokevirtual 181) :: r) ls (a1 :: a0 :: vR o :: st) h Q ↔ (m_tag h o = some 10 ∧ (st.map m_cat).sum ≤ 8 ∧ [a1, a0].all (fun v => decide (m_cat v = 1)) = true) ∧ m_do xs L 102 [vR o, a0, a1] h (m_cont xs L 139 pc r ls st Q) := U_invv (mj := 102) (av := [a1, a0]) rfl rfl rfl (Nat.le_of_ble_eq_true rfl)
theorem J_139_7 : m_jmp 139 7 (7) = b_139_14 := rfl
theorem J_139_11 : m_jmp 139 11 (4) = b_139_15 := rfl
theorem I_139_167 {o : Nat} {a0 : MV} : m_ok xs L 139 ((pc, .invokevirtual 167) :: r) ls (a0 :: vR o :: st) h Q ↔ (m_tag h o = some 10 ∧ (st.map m_cat).sum ≤ 8 ∧ [a0].all (fun v => decide (m_cat v = 1)) = true) ∧ m_do xs L 99 [vR o, a0] h (m_cont xs L 139 pc r ls st Q) := U_invv (mj := 99) (av := [a0]) rfl rfl rfl (Nat.le_of_ble_eq_true rfl)
theorem J_139_18 : m_jmp 139 18 (5) = b_139_23 := rfl
theorem I_139_257 {o : Nat} : m_ok xs L 139 ((pc, .invokevirtual 257) :: r) ls (vR o :: st) h Q ↔ (m_tag h o = some 10 ∧ (st.map m_cat).sum ≤ 8 ∧ [].all (fun v => decide (m_cat v = 1)) = true) ∧ m_do xs L 115 [vR o] h (m_cont xs L 139 pc r ls st Q) := U_invv (mj := 115) (av := []) rfl rfl rfl (Nat.le_of_ble_eq_true rfl)
theorem F_139_101 {o : Nat} : m_ok xs L 139 ((pc, .getfield 101) :: r) ls (vR o :: st) h Q ↔ ∃ v, m_get h o 10 36 = some v ∧ m_ok xs L 139 r ls (v :: st) h Q := U_getf rfl
theorem D_140 {a0 a1 a2 : MV} : m_do xs L 140 [a0, a1, a2] h Q ↔ m_ok xs L 140 b_140_0 [a0, a1, a2] [] h Q := Iff.rfl
theorem R_140 {a : Int} : m_ok xs L 140 ((pc, .ireturn) :: r) ls [vI a] h Q ↔ Q (.inl (some (vI a))) h := V_ireti rfl
theorem X_140 {e : Nat} : m_cont xs L 140 pc r ls st Q (.inr e) h ↔ Q (.inr e) h := V_contx rfl
theorem I_140_260 {o : Nat} {a0 a1 : MV} : m_ok xs L 140 ((pc, .invokevirtual 260) :: r) ls (a1 :: a0 :: vR o :: st) h Q ↔ (m_tag h o = some 10 ∧ (st.map m_cat).sum ≤ 8 ∧ [a1, a0].all (fun v => decide (m_cat v = 1)) = true) ∧ m_do xs L 139 [vR o, a0, a1] h (m_cont xs L 140 pc r ls st Q) := U_invv (mj := 139) (av := [a1, a0]) rfl rfl rfl (Nat.le_of_ble_eq_true rfl)
theorem D_141 {a0 a1 a2 a3 : MV} : m_do xs L 141 [a0, a1, a2, a3] h Q ↔ m_ok xs L 141 b_141_0 [a0, a1, a2, a3] [] h Q := Iff.rfl
theorem R_141 {a : Int} : m_ok xs L 141 ((pc, .ireturn) :: r) ls [vI a] h Q ↔ Q (.inl (some (vI a))) h := V_ireti rfl
theorem X_141 {e : Nat} : m_cont xs L 141 pc r ls st Q (.inr e) h ↔ Q (.inr e) h := V_contx rfl
theorem I_141_181 {o : Nat} {a0 a1 : MV} : m_ok xs L 141 ((pc, .invokevirtual 181) :: r) ls (a1 :: a0 :: vR o :: st) h Q ↔ (m_tag h o = some 10 ∧ (st.map m_cat).sum ≤ 8 ∧ [a1, a0].all (fun v => decide (m_cat v = 1)) = true) ∧ m_do xs L 102 [vR o, a0, a1] h (m_cont xs L 141 pc r ls st Q) := U_invv (mj := 102) (av := [a1, a0]) rfl rfl rfl (Nat.le_of_ble_eq_true rfl)
theorem J_141_7 : m_jmp 141 7 (7) = b_141_14 := rfl
theorem J_141_11 : m_jmp 141 11 (18) = b_141_29 := rfl
theorem I_141_150 {a0 a1 a2 : MV} : m_ok xs L 141 ((pc, .invokestatic 150) :: r) ls (a2 :: a1 :: a0 :: st) h Q ↔ ((st.map m_cat).sum ≤ 8 ∧ [a2, a1, a0].all (fun v => decide (m_cat v = 1)) = true) ∧ m_do xs L 98 [a0, a1, a2] h (m_cont xs L 141 pc r ls st Q) := U_invs (mj := 98) (av := [a2, a1, a0]) rfl rfl rfl (Nat.le_of_ble_eq_true rfl)
theorem J_141_21 : m_jmp 141 21 (7) = b_141_28 := rfl
theorem J_141_25 : m_jmp 141 25 (4) = b_141_29 := rfl
theorem I_141_167 {o : Nat} {a0 : MV} : m_ok xs L 141 ((pc, .invokevirtual 167) :: r) ls (a0 :: vR o :: st) h Q ↔ (m_tag h o = some 10 ∧ (st.map m_cat).sum ≤ 8 ∧ [a0].all (fun v => decide (m_cat v = 1)) = true) ∧ m_do xs L 99 [vR o, a0] h (m_cont xs L 141 pc r ls st Q) := U_invv (mj := 99) (av := [a0]) rfl rfl rfl (Nat.le_of_ble_eq_true rfl)
theorem J_141_32 : m_jmp 141 32 (5) = b_141_37 := rfl
theorem I_141_257 {o : Nat} : m_ok xs L 141 ((pc, .invokevirtual 257) :: r) ls (vR o :: st) h Q ↔ (m_tag h o = some 10 ∧ (st.map m_cat).sum ≤ 8 ∧ [].all (fun v => decide (m_cat v = 1)) = true) ∧ m_do xs L 115 [vR o] h (m_cont xs L 141 pc r ls st Q) := U_invv (mj := 115) (av := []) rfl rfl rfl (Nat.le_of_ble_eq_true rfl)
theorem F_141_122 {o : Nat} : m_ok xs L 141 ((pc, .getfield 122) :: r) ls (vR o :: st) h Q ↔ ∃ v, m_get h o 10 43 = some v ∧ m_ok xs L 141 r ls (v :: st) h Q := U_getf rfl
theorem D_142 {a0 a1 a2 : MV} : m_do xs L 142 [a0, a1, a2] h Q ↔ m_ok xs L 142 b_142_0 [a0, a1, a2, vU] [] h Q := Iff.rfl
theorem R_142 {a : UInt32} : m_ok xs L 142 ((pc, .freturn) :: r) ls [vF a] h Q ↔ Q (.inl (some (vF a))) h := V_fret rfl
theorem X_142 {e : Nat} : m_cont xs L 142 pc r ls st Q (.inr e) h ↔ Q (.inr e) h := V_contx rfl
theorem I_142_181 {o : Nat} {a0 a1 : MV} : m_ok xs L 142 ((pc, .invokevirtual 181) :: r) ls (a1 :: a0 :: vR o :: st) h Q ↔ (m_tag h o = some 10 ∧ (st.map m_cat).sum ≤ 8 ∧ [a1, a0].all (fun v => decide (m_cat v = 1)) = true) ∧ m_do xs L 102 [vR o, a0, a1] h (m_cont xs L 142 pc r ls st Q) := U_invv (mj := 102) (av := [a1, a0]) rfl rfl rfl (Nat.le_of_ble_eq_true rfl)
theorem J_142_7 : m_jmp 142 7 (7) = b_142_14 := rfl
theorem J_142_11 : m_jmp 142 11 (4) = b_142_15 := rfl
theorem I_142_167 {o : Nat} {a0 : MV} : m_ok xs L 142 ((pc, .invokevirtual 167) :: r) ls (a0 :: vR o :: st) h Q ↔ (m_tag h o = some 10 ∧ (st.map m_cat).sum ≤ 8 ∧ [a0].all (fun v => decide (m_cat v = 1)) = true) ∧ m_do xs L 99 [vR o, a0] h (m_cont xs L 142 pc r ls st Q) := U_invv (mj := 99) (av := [a0]) rfl rfl rfl (Nat.le_of_ble_eq_true rfl)
theorem J_142_18 : m_jmp 142 18 (5) = b_142_23 := rfl
theorem I_142_257 {o : Nat} : m_ok xs L 142 ((pc, .invokevirtual 257) :: r) ls (vR o :: st) h Q ↔ (m_tag h o = some 10 ∧ (st.map m_cat).sum ≤ 8 ∧ [].all (fun v => decide (m_cat v = 1)) = true) ∧ m_do xs L 115 [vR o] h (m_cont xs L 142 pc r ls st Q) := U_invv (mj := 115) (av := []) rfl rfl rfl (Nat.le_of_ble_eq_true rfl)
theorem F_142_101 {o : Nat} : m_ok xs L 142 ((pc, .getfield 101) :: r) ls (vR o :: st) h Q ↔ ∃ v, m_get h o 10 36 = some v ∧ m_ok xs L 142 r ls (v :: st) h Q := U_getf rfl
theorem J_142_41 : m_jmp 142 41 (7) = b_142_48 := rfl
theorem J_142_45 : m_jmp 142 45 (22) = b_142_67 := rfl
theorem C_142_263 : m_ok xs L 142 ((pc, .ldc_w 263) :: r) ls st h Q ↔ m_ok xs L 142 r ls (vF 1120403456 :: st) h Q := V_ldc_w rfl
theorem F_142_116 {o : Nat} : m_ok xs L 142 ((pc, .getfield 116) :: r) ls (vR o :: st) h Q ↔ ∃ v, m_get h o 10 41 = some v ∧ m_ok xs L 142 r ls (v :: st) h Q := U_getf rfl
theorem F_142_119 {o : Nat} : m_ok xs L 142 ((pc, .getfield 119) :: r) ls (vR o :: st) h Q ↔ ∃ v, m_get h o 10 42 = some v ∧ m_ok xs L 142 r ls (v :: st) h Q := U_getf rfl
theorem D_143 {a0 a1 a2 : MV} : m_do xs L 143 [a0, a1, a2] h Q ↔ m_ok xs L 143 b_143_0 [a0, a1, a2] [] h Q := Iff.rfl
theorem R_143 {a : Int} : m_ok xs L 143 ((pc, .ireturn) :: r) ls [vI a] h Q ↔ Q (.inl (some (vI a))) h := V_ireti rfl
theorem X_143 {e : Nat} : m_cont xs L 143 pc r ls st Q (.inr e) h ↔ Q (.inr e) h := V_contx rfl
theorem I_143_185 {o : Nat} {a0 : MV} : m_ok xs L 143 ((pc, .invokevirtual 185) :: r) ls (a0 :: vR o :: st) h Q ↔ (m_tag h o = some 10 ∧ (st.map m_cat).sum ≤ 8 ∧ [a0].all (fun v => decide (m_cat v = 1)) = true) ∧ m_do xs L 103 [vR o, a0] h (m_cont xs L 143 pc r ls st Q) := U_invv (mj := 103) (av := [a0]) rfl rfl rfl (Nat.le_of_ble_eq_true rfl)
theorem J_143_6 : m_jmp 143 6 (7) = b_143_13 := rfl
theorem J_143_10 : m_jmp 143 10 (17) = b_143_27 := rfl
theorem I_143_150 {a0 a1 a2 : MV} : m_ok xs L 143 ((pc, .invokestatic 150) :: r) ls (a2 :: a1 :: a0 :: st) h Q ↔ ((st.map m_cat).sum ≤ 8 ∧ [a2, a1, a0].all (fun v => decide (m_cat v = 1)) = true) ∧ m_do xs L 98 [a0, a1, a2] h (m_cont xs L 143 pc r ls st Q) := U_invs (mj := 98) (av := [a2, a1, a0]) rfl rfl rfl (Nat.le_of_ble_eq_true rfl)
theorem J_143_19 : m_jmp 143 19 (7) = b_143_26 := rfl
theorem J_143_23 : m_jmp 143 23 (4) = b_143_27 := rfl
theorem I_143_167 {o : Nat} {a0 : MV} : m_ok xs L 143 ((pc, .invokevirtual 167) :: r) ls (a0 :: vR o :: st) h Q ↔ (m_tag h o = some 10 ∧ (st.map m_cat).sum ≤ 8 ∧ [a0].all (fun v => decide (m_cat v = 1)) = true) ∧ m_do xs L 99 [vR o, a0] h (m_cont xs L 143 pc r ls st Q) := U_invv (mj := 99) (av := [a0]) rfl rfl rfl (Nat.le_of_ble_eq_true rfl)
theorem J_143_30 : m_jmp 143 30 (5) = b_143_35 := rfl
theorem I_143_257 {o : Nat} : m_ok xs L 143 ((pc, .invokevirtual 257) :: r) ls (vR o :: st) h Q ↔ (m_tag h o = some 10 ∧ (st.map m_cat).sum ≤ 8 ∧ [].all (fun v => decide (m_cat v = 1)) = true) ∧ m_do xs L 115 [vR o] h (m_cont xs L 143 pc r ls st Q) := U_invv (mj := 115) (av := []) rfl rfl rfl (Nat.le_of_ble_eq_true rfl)
theorem J_143_40_76 : m_jmp 143 40 (36) = b_143_76 := rfl
theorem J_143_40_83 : m_jmp 143 40 (43) = b_143_83 := rfl
theorem J_143_40_104 : m_jmp 143 40 (64) = b_143_104 := rfl
theorem J_143_40_111 : m_jmp 143 40 (71) = b_143_111 := rfl
theorem J_143_40_125 : m_jmp 143 40 (85) = b_143_125 := rfl
theorem J_143_40_132 : m_jmp 143 40 (92) = b_143_132 := rfl
theorem F_143_125 {o : Nat} : m_ok xs L 143 ((pc, .getfield 125) :: r) ls (vR o :: st) h Q ↔ ∃ v, m_get h o 10 44 = some v ∧ m_ok xs L 143 r ls (v :: st) h Q := U_getf rfl
theorem J_143_90 : m_jmp 143 90 (7) = b_143_97 := rfl
theorem J_143_94 : m_jmp 143 94 (9) = b_143_103 := rfl
theorem F_143_128 {o : Nat} : m_ok xs L 143 ((pc, .getfield 128) :: r) ls (vR o :: st) h Q ↔ ∃ v, m_get h o 10 45 = some v ∧ m_ok xs L 143 r ls (v :: st) h Q := U_getf rfl
theorem F_143_131 {o : Nat} : m_ok xs L 143 ((pc, .getfield 131) :: r) ls (vR o :: st) h Q ↔ ∃ v, m_get h o 10 46 = some v ∧ m_ok xs L 143 r ls (v :: st) h Q := U_getf rfl
theorem I_143_264 {o : Nat} {a0 : MV} : m_ok xs L 143 ((pc, .invokevirtual 264) :: r) ls (a0 :: vR o :: st) h Q ↔ (m_tag h o = some 10 ∧ (st.map m_cat).sum ≤ 8 ∧ [a0].all (fun v => decide (m_cat v = 1)) = true) ∧ m_do xs L 144 [vR o, a0] h (m_cont xs L 143 pc r ls st Q) := U_invv (mj := 144) (av := [a0]) rfl rfl rfl (Nat.le_of_ble_eq_true rfl)
theorem J_143_116 : m_jmp 143 116 (7) = b_143_123 := rfl
theorem J_143_120 : m_jmp 143 120 (4) = b_143_124 := rfl
theorem F_143_134 {o : Nat} : m_ok xs L 143 ((pc, .getfield 134) :: r) ls (vR o :: st) h Q ↔ ∃ v, m_get h o 10 47 = some v ∧ m_ok xs L 143 r ls (v :: st) h Q := U_getf rfl
theorem F_143_65 {o : Nat} : m_ok xs L 143 ((pc, .getfield 65) :: r) ls (vR o :: st) h Q ↔ ∃ v, m_get h o 10 22 = some v ∧ m_ok xs L 143 r ls (v :: st) h Q := U_getf rfl
theorem J_143_138 : m_jmp 143 138 (7) = b_143_145 := rfl
theorem J_143_142 : m_jmp 143 142 (4) = b_143_146 := rfl
theorem D_144 {a0 a1 : MV} : m_do xs L 144 [a0, a1] h Q ↔ m_ok xs L 144 b_144_0 [a0, a1] [] h Q := Iff.rfl
theorem R_144 {a : Int} : m_ok xs L 144 ((pc, .ireturn) :: r) ls [vI a] h Q ↔ (a = 0 ∨ a = 1) ∧ Q (.inl (some (vI a))) h := V_iretz rfl
theorem X_144 {e : Nat} : m_cont xs L 144 pc r ls st Q (.inr e) h ↔ Q (.inr e) h := V_contx rfl
theorem F_144_65 {o : Nat} : m_ok xs L 144 ((pc, .getfield 65) :: r) ls (vR o :: st) h Q ↔ ∃ v, m_get h o 10 22 = some v ∧ m_ok xs L 144 r ls (v :: st) h Q := U_getf rfl
theorem J_144_6 : m_jmp 144 6 (31) = b_144_37 := rfl
theorem F_144_68 {o : Nat} : m_ok xs L 144 ((pc, .getfield 68) :: r) ls (vR o :: st) h Q ↔ ∃ v, m_get h o 10 23 = some v ∧ m_ok xs L 144 r ls (v :: st) h Q := U_getf rfl
theorem J_144_15 : m_jmp 144 15 (22) = b_144_37 := rfl
theorem F_144_131 {o : Nat} : m_ok xs L 144 ((pc, .getfield 131) :: r) ls (vR o :: st) h Q ↔ ∃ v, m_get h o 10 46 = some v ∧ m_ok xs L 144 r ls (v :: st) h Q := U_getf rfl
theorem J_144_30 : m_jmp 144 30 (7) = b_144_37 := rfl
theorem J_144_34 : m_jmp 144 34 (4) = b_144_38 := rfl
theorem D_145 {a0 : MV} : m_do xs L 145 [a0] h Q ↔ m_ok xs L 145 b_145_0 [a0, vU, vU] [] h Q := Iff.rfl
theorem R_145 {a : Int} : m_ok xs L 145 ((pc, .ireturn) :: r) ls [vI a] h Q ↔ Q (.inl (some (vI a))) h := V_ireti rfl
theorem X_145 {e : Nat} : m_cont xs L 145 pc r ls st Q (.inr e) h ↔ Q (.inr e) h := V_contx rfl
theorem I_145_257 {o : Nat} : m_ok xs L 145 ((pc, .invokevirtual 257) :: r) ls (vR o :: st) h Q ↔ (m_tag h o = some 10 ∧ (st.map m_cat).sum ≤ 8 ∧ [].all (fun v => decide (m_cat v = 1)) = true) ∧ m_do xs L 115 [vR o] h (m_cont xs L 145 pc r ls st Q) := U_invv (mj := 115) (av := []) rfl rfl rfl (Nat.le_of_ble_eq_true rfl)
theorem F_145_161 {o : Nat} : m_ok xs L 145 ((pc, .getfield 161) :: r) ls (vR o :: st) h Q ↔ ∃ v, m_get h o 10 14 = some v ∧ m_ok xs L 145 r ls (v :: st) h Q := U_getf rfl
theorem J_145_13 : m_jmp 145 13 (25) = b_145_38 := rfl
theorem I_145_264 {o : Nat} {a0 : MV} : m_ok xs L 145 ((pc, .invokevirtual 264) :: r) ls (a0 :: vR o :: st) h Q ↔ (m_tag h o = some 10 ∧ (st.map m_cat).sum ≤ 8 ∧ [a0].all (fun v => decide (m_cat v = 1)) = true) ∧ m_do xs L 144 [vR o, a0] h (m_cont xs L 145 pc r ls st Q) := U_invv (mj := 144) (av := [a0]) rfl rfl rfl (Nat.le_of_ble_eq_true rfl)
theorem J_145_22 : m_jmp 145 22 (7) = b_145_29 := rfl
theorem J_145_26 : m_jmp 145 26 (4) = b_145_30 := rfl
theorem J_145_35 : m_jmp 145 35 (-27) = b_145_8 := rfl
theorem D_146 {a0 a1 a2 : MV} : m_do xs L 146 [a0, a1, a2] h Q ↔ m_ok xs L 146 b_146_0 [a0, a1, a2] [] h Q := Iff.rfl
theorem R_146 {a : Int} : m_ok xs L 146 ((pc, .ireturn) :: r) ls [vI a] h Q ↔ Q (.inl (some (vI a))) h := V_ireti rfl
theorem X_146 {e : Nat} : m_cont xs L 146 pc r ls st Q (.inr e) h ↔ Q (.inr e) h := V_contx rfl
theorem I_146_150 {a0 a1 a2 : MV} : m_ok xs L 146 ((pc, .invokestatic 150) :: r) ls (a2 :: a1 :: a0 :: st) h Q ↔ ((st.map m_cat).sum ≤ 8 ∧ [a2, a1, a0].all (fun v => decide (m_cat v = 1)) = true) ∧ m_do xs L 98 [a0, a1, a2] h (m_cont xs L 146 pc r ls st Q) := U_invs (mj := 98) (av := [a2, a1, a0]) rfl rfl rfl (Nat.le_of_ble_eq_true rfl)
theorem J_146_7 : m_jmp 146 7 (16) = b_146_23 := rfl
theorem J_146_16 : m_jmp 146 16 (7) = b_146_23 := rfl
theorem J_146_20 : m_jmp 146 20 (4) = b_146_24 := rfl
theorem I_146_167 {o : Nat} {a0 : MV} : m_ok xs L 146 ((pc, .invokevirtual 167) :: r) ls (a0 :: vR o :: st) h Q ↔ (m_tag h o = some 10 ∧ (st.map m_cat).sum ≤ 8 ∧ [a0].all (fun v => decide (m_cat v = 1)) = true) ∧ m_do xs L 99 [vR o, a0] h (m_cont xs L 146 pc r ls st Q) := U_invv (mj := 99) (av := [a0]) rfl rfl rfl (Nat.le_of_ble_eq_true rfl)
theorem J_146_27 : m_jmp 146 27 (5) = b_146_32 := rfl
theorem I_146_257 {o : Nat} : m_ok xs L 146 ((pc, .invokevirtual 257) :: r) ls (vR o :: st) h Q ↔ (m_tag h o = some 10 ∧ (st.map m_cat).sum ≤ 8 ∧ [].all (fun v => decide (m_cat v = 1)) = true) ∧ m_do xs L 115 [vR o] h (m_cont xs L 146 pc r ls st Q) := U_invv (mj := 115) (av := []) rfl rfl rfl (Nat.le_of_ble_eq_true rfl)
theorem F_146_140 {o : Nat} : m_ok xs L 146 ((pc, .getfield 140) :: r) ls (vR o :: st) h Q ↔ ∃ v, m_get h o 10 49 = some v ∧ m_ok xs L 146 r ls (v :: st) h Q := U_getf rfl
theorem D_147 {a0 : MV} : m_do xs L 147 [a0] h Q ↔ m_ok xs L 147 b_147_0 [a0] [] h Q := Iff.rfl
theorem R_147 {a : Int} : m_ok xs L 147 ((pc, .ireturn) :: r) ls [vI a] h Q ↔ Q (.inl (some (vI a))) h := V_ireti rfl
theorem X_147 {e : Nat} : m_cont xs L 147 pc r ls st Q (.inr e) h ↔ Q (.inr e) h := V_contx rfl
theorem W_147_143 {o : Nat} {v : MV} : m_ok xs L 147 ((pc, .putfield 143) :: r) ls (v :: vR o :: st) h Q ↔ (m_fit 0 v = true ∧ (m_get h o 10 0).isSome = true) ∧ m_ok xs L 147 r ls st (m_set h o 0 v) Q := U_putf rfl
theorem I_147_267 {o : Nat} : m_ok xs L 147 ((pc, .invokevirtual 267) :: r) ls (vR o :: st) h Q ↔ (m_tag h o = some 10 ∧ (st.map m_cat).sum ≤ 8 ∧ [].all (fun v => decide (m_cat v = 1)) = true) ∧ m_do xs L 145 [vR o] h (m_cont xs L 147 pc r ls st Q) := U_invv (mj := 145) (av := []) rfl rfl rfl (Nat.le_of_ble_eq_true rfl)
theorem D_148 {a0 a1 : MV} : m_do xs L 148 [a0, a1] h Q ↔ m_ok xs L 148 b_148_0 [a0, a1, vU, vU, vU, vU, vU] [] h Q := Iff.rfl
theorem R_148 {a : Int} : m_ok xs L 148 ((pc, .ireturn) :: r) ls [vI a] h Q ↔ Q (.inl (some (vI a))) h := V_ireti rfl
theorem X_148 {e : Nat} : m_cont xs L 148 pc r ls st Q (.inr e) h ↔ Q (.inr e) h := V_contx rfl
theorem I_148_157 {o : Nat} {a0 : MV} : m_ok xs L 148 ((pc, .invokevirtual 157) :: r) ls (a0 :: vR o :: st) h Q ↔ (m_tag h o = some 10 ∧ (st.map m_cat).sum ≤ 8 ∧ [a0].all (fun v => decide (m_cat v = 1)) = true) ∧ m_do xs L 101 [vR o, a0] h (m_cont xs L 148 pc r ls st Q) := U_invv (mj := 101) (av := [a0]) rfl rfl rfl (Nat.le_of_ble_eq_true rfl)
theorem J_148_6 : m_jmp 148 6 (7) = b_148_13 := rfl
theorem J_148_10 : m_jmp 148 10 (4) = b_148_14 := rfl
theorem I_148_167 {o : Nat} {a0 : MV} : m_ok xs L 148 ((pc, .invokevirtual 167) :: r) ls (a0 :: vR o :: st) h Q ↔ (m_tag h o = some 10 ∧ (st.map m_cat).sum ≤ 8 ∧ [a0].all (fun v => decide (m_cat v = 1)) = true) ∧ m_do xs L 99 [vR o, a0] h (m_cont xs L 148 pc r ls st Q) := U_invv (mj := 99) (av := [a0]) rfl rfl rfl (Nat.le_of_ble_eq_true rfl)
theorem J_148_17 : m_jmp 148 17 (5) = b_148_22 := rfl
theorem F_148_19 {o : Nat} : m_ok xs L 148 ((pc, .getfield 19) :: r) ls (vR o :: st) h Q ↔ ∃ v, m_get h o 10 6 = some v ∧ m_ok xs L 148 r ls (v :: st) h Q := U_getf rfl
theorem J_148_42 : m_jmp 148 42 (58) = b_148_100 := rfl
theorem W_148_173 {o : Nat} {v : MV} : m_ok xs L 148 ((pc, .putfield 173) :: r) ls (v :: vR o :: st) h Q ↔ (m_fit 1 v = true ∧ (m_get h o 10 34).isSome = true) ∧ m_ok xs L 148 r ls st (m_set h o 34 v) Q := U_putf rfl
theorem I_148_267 {o : Nat} : m_ok xs L 148 ((pc, .invokevirtual 267) :: r) ls (vR o :: st) h Q ↔ (m_tag h o = some 10 ∧ (st.map m_cat).sum ≤ 8 ∧ [].all (fun v => decide (m_cat v = 1)) = true) ∧ m_do xs L 145 [vR o] h (m_cont xs L 148 pc r ls st Q) := U_invv (mj := 145) (av := []) rfl rfl rfl (Nat.le_of_ble_eq_true rfl)
theorem J_148_68 : m_jmp 148 68 (8) = b_148_76 := rfl
theorem J_148_73 : m_jmp 148 73 (4) = b_148_77 := rfl
theorem J_148_82 : m_jmp 148 82 (8) = b_148_90 := rfl
theorem J_148_87 : m_jmp 148 87 (5) = b_148_92 := rfl
theorem J_148_97 : m_jmp 148 97 (-60) = b_148_37 := rfl
theorem D_149 {a0 a1 a2 : MV} : m_do xs L 149 [a0, a1, a2] h Q ↔ m_ok xs L 149 b_149_0 [a0, a1, a2, vU] [] h Q := Iff.rfl
theorem R_149 {a : Int} : m_ok xs L 149 ((pc, .ireturn) :: r) ls [vI a] h Q ↔ Q (.inl (some (vI a))) h := V_ireti rfl
theorem X_149 {e : Nat} : m_cont xs L 149 pc r ls st Q (.inr e) h ↔ Q (.inr e) h := V_contx rfl
theorem I_149_251 {o : Nat} {a0 : MV} : m_ok xs L 149 ((pc, .invokevirtual 251) :: r) ls (a0 :: vR o :: st) h Q ↔ (m_tag h o = some 10 ∧ (st.map m_cat).sum ≤ 8 ∧ [a0].all (fun v => decide (m_cat v = 1)) = true) ∧ m_do xs L 104 [vR o, a0] h (m_cont xs L 149 pc r ls st Q) := U_invv (mj := 104) (av := [a0]) rfl rfl rfl (Nat.le_of_ble_eq_true rfl)
theorem J_149_6 : m_jmp 149 6 (7) = b_149_13 := rfl
theorem J_149_10 : m_jmp 149 10 (17) = b_149_27 := rfl
theorem I_149_150 {a0 a1 a2 : MV} : m_ok xs L 149 ((pc, .invokestatic 150) :: r) ls (a2 :: a1 :: a0 :: st) h Q ↔ ((st.map m_cat).sum ≤ 8 ∧ [a2, a1, a0].all (fun v => decide (m_cat v = 1)) = true) ∧ m_do xs L 98 [a0, a1, a2] h (m_cont xs L 149 pc r ls st Q) := U_invs (mj := 98) (av := [a2, a1, a0]) rfl rfl rfl (Nat.le_of_ble_eq_true rfl)
theorem J_149_19 : m_jmp 149 19 (7) = b_149_26 := rfl
theorem J_149_23 : m_jmp 149 23 (4) = b_149_27 := rfl
theorem I_149_167 {o : Nat} {a0 : MV} : m_ok xs L 149 ((pc, .invokevirtual 167) :: r) ls (a0 :: vR o :: st) h Q ↔ (m_tag h o = some 10 ∧ (st.map m_cat).sum ≤ 8 ∧ [a0].all (fun v => decide (m_cat v = 1)) = true) ∧ m_do xs L 99 [vR o, a0] h (m_cont xs L 149 pc r ls st Q) := U_invv (mj := 99) (av := [a0]) rfl rfl rfl (Nat.le_of_ble_eq_true rfl)
theorem J_149_30 : m_jmp 149 30 (5) = b_149_35 := rfl
theorem F_149_89 {o : Nat} : m_ok xs L 149 ((pc, .getfield 89) :: r) ls (vR o :: st) h Q ↔ ∃ v, m_get h o 10 31 = some v ∧ m_ok xs L 149 r ls (v :: st) h Q := U_getf rfl
theorem J_149_42 : m_jmp 149 42 (7) = b_149_49 := rfl
theorem J_149_46 : m_jmp 149 46 (4) = b_149_50 := rfl
theorem J_149_52_80 : m_jmp 149 52 (28) = b_149_80 := rfl
theorem J_149_52_87 : m_jmp 149 52 (35) = b_149_87 := rfl
theorem J_149_52_105 : m_jmp 149 52 (53) = b_149_105 := rfl
theorem J_149_52_123 : m_jmp 149 52 (71) = b_149_123 := rfl
theorem J_149_88 : m_jmp 149 88 (7) = b_149_95 := rfl
theorem J_149_92 : m_jmp 149 92 (12) = b_149_104 := rfl
theorem F_149_92 {o : Nat} : m_ok xs L 149 ((pc, .getfield 92) :: r) ls (vR o :: st) h Q ↔ ∃ v, m_get h o 10 32 = some v ∧ m_ok xs L 149 r ls (v :: st) h Q := U_getf rfl
theorem J_149_106 : m_jmp 149 106 (7) = b_149_113 := rfl
theorem J_149_110 : m_jmp 149 110 (12) = b_149_122 := rfl
theorem F_149_86 {o : Nat} : m_ok xs L 149 ((pc, .getfield 86) :: r) ls (vR o :: st) h Q ↔ ∃ v, m_get h o 10 30 = some v ∧ m_ok xs L 149 r ls (v :: st) h Q := U_getf rfl
theorem D_150 {a0 a1 a2 a3 : MV} : m_do xs L 150 [a0, a1, a2, a3] h Q ↔ m_ok xs L 150 b_150_0 [a0, a1, a2, a3, vU] [] h Q := Iff.rfl
theorem R_150 {a : Int} : m_ok xs L 150 ((pc, .ireturn) :: r) ls [vI a] h Q ↔ Q (.inl (some (vI a))) h := V_ireti rfl
theorem X_150 {e : Nat} : m_cont xs L 150 pc r ls st Q (.inr e) h ↔ Q (.inr e) h := V_contx rfl
theorem I_150_150 {a0 a1 a2 : MV} : m_ok xs L 150 ((pc, .invokestatic 150) :: r) ls (a2 :: a1 :: a0 :: st) h Q ↔ ((st.map m_cat).sum ≤ 8 ∧ [a2, a1, a0].all (fun v => decide (m_cat v = 1)) = true) ∧ m_do xs L 98 [a0, a1, a2] h (m_cont xs L 150 pc r ls st Q) := U_invs (mj := 98) (av := [a2, a1, a0]) rfl rfl rfl (Nat.le_of_ble_eq_true rfl)
theorem J_150_6 : m_jmp 150 6 (16) = b_150_22 := rfl
theorem J_150_15 : m_jmp 150 15 (7) = b_150_22 := rfl
theorem J_150_19 : m_jmp 150 19 (4) = b_150_23 := rfl
theorem I_150_185 {o : Nat} {a0 : MV} : m_ok xs L 150 ((pc, .invokevirtual 185) :: r) ls (a0 :: vR o :: st) h Q ↔ (m_tag h o = some 10 ∧ (st.map m_cat).sum ≤ 8 ∧ [a0].all (fun v => decide (m_cat v = 1)) = true) ∧ m_do xs L 103 [vR o, a0] h (m_cont xs L 150 pc r ls st Q) := U_invv (mj := 103) (av := [a0]) rfl rfl rfl (Nat.le_of_ble_eq_true rfl)
theorem J_150_31 : m_jmp 150 31 (7) = b_150_38 := rfl
theorem J_150_35 : m_jmp 150 35 (13) = b_150_48 := rfl
theorem J_150_40 : m_jmp 150 40 (7) = b_150_47 := rfl
theorem J_150_44 : m_jmp 150 44 (4) = b_150_48 := rfl
theorem I_150_167 {o : Nat} {a0 : MV} : m_ok xs L 150 ((pc, .invokevirtual 167) :: r) ls (a0 :: vR o :: st) h Q ↔ (m_tag h o = some 10 ∧ (st.map m_cat).sum ≤ 8 ∧ [a0].all (fun v => decide (m_cat v = 1)) = true) ∧ m_do xs L 99 [vR o, a0] h (m_cont xs L 150 pc r ls st Q) := U_invv (mj := 99) (av := [a0]) rfl rfl rfl (Nat.le_of_ble_eq_true rfl)
theorem J_150_51 : m_jmp 150 51 (7) = b_150_58 := rfl
theorem J_150_55 : m_jmp 150 55 (18) = b_150_73 := rfl
theorem F_150_95 {o : Nat} : m_ok xs L 150 ((pc, .getfield 95) :: r) ls (vR o :: st) h Q ↔ ∃ v, m_get h o 10 33 = some v ∧ m_ok xs L 150 r ls (v :: st) h Q := U_getf rfl
theorem D_151 {a0 a1 a2 a3 : MV} : m_do xs L 151 [a0, a1, a2, a3] h Q ↔ m_ok xs L 151 b_151_0 [a0, a1, a2, a3] [] h Q := Iff.rfl
theorem R_151 {a : Int} : m_ok xs L 151 ((pc, .ireturn) :: r) ls [vI a] h Q ↔ (a = 0 ∨ a = 1) ∧ Q (.inl (some (vI a))) h := V_iretz rfl
theorem X_151 {e : Nat} : m_cont xs L 151 pc r ls st Q (.inr e) h ↔ Q (.inr e) h := V_contx rfl
theorem I_151_185 {o : Nat} {a0 : MV} : m_ok xs L 151 ((pc, .invokevirtual 185) :: r) ls (a0 :: vR o :: st) h Q ↔ (m_tag h o = some 10 ∧ (st.map m_cat).sum ≤ 8 ∧ [a0].all (fun v => decide (m_cat v = 1)) = true) ∧ m_do xs L 103 [vR o, a0] h (m_cont xs L 151 pc r ls st Q) := U_invv (mj := 103) (av := [a0]) rfl rfl rfl (Nat.le_of_ble_eq_true rfl)
theorem J_151_6 : m_jmp 151 6 (7) = b_151_13 := rfl
theorem J_151_10 : m_jmp 151 10 (18) = b_151_28 := rfl
theorem I_151_150 {a0 a1 a2 : MV} : m_ok xs L 151 ((pc, .invokestatic 150) :: r) ls (a2 :: a1 :: a0 :: st) h Q ↔ ((st.map m_cat).sum ≤ 8 ∧ [a2, a1, a0].all (fun v => decide (m_cat v = 1)) = true) ∧ m_do xs L 98 [a0, a1, a2] h (m_cont xs L 151 pc r ls st Q) := U_invs (mj := 98) (av := [a2, a1, a0]) rfl rfl rfl (Nat.le_of_ble_eq_true rfl)
theorem J_151_20 : m_jmp 151 20 (7) = b_151_27 := rfl
theorem J_151_24 : m_jmp 151 24 (4) = b_151_28 := rfl
theorem I_151_167 {o : Nat} {a0 : MV} : m_ok xs L 151 ((pc, .invokevirtual 167) :: r) ls (a0 :: vR o :: st) h Q ↔ (m_tag h o = some 10 ∧ (st.map m_cat).sum ≤ 8 ∧ [a0].all (fun v => decide (m_cat v = 1)) = true) ∧ m_do xs L 99 [vR o, a0] h (m_cont xs L 151 pc r ls st Q) := U_invv (mj := 99) (av := [a0]) rfl rfl rfl (Nat.le_of_ble_eq_true rfl)
theorem J_151_31 : m_jmp 151 31 (18) = b_151_49 := rfl
theorem I_151_237 {o : Nat} {a0 a1 a2 : MV} : m_ok xs L 151 ((pc, .invokevirtual 237) :: r) ls (a2 :: a1 :: a0 :: vR o :: st) h Q ↔ (m_tag h o = some 10 ∧ (st.map m_cat).sum ≤ 8 ∧ [a2, a1, a0].all (fun v => decide (m_cat v = 1)) = true) ∧ m_do xs L 129 [vR o, a0, a1, a2] h (m_cont xs L 151 pc r ls st Q) := U_invv (mj := 129) (av := [a2, a1, a0]) rfl rfl rfl (Nat.le_of_ble_eq_true rfl)
theorem J_151_42 : m_jmp 151 42 (7) = b_151_49 := rfl
theorem J_151_46 : m_jmp 151 46 (4) = b_151_50 := rfl
theorem D_152 {a0 : MV} : m_do xs L 152 [a0] h Q ↔ m_ok xs L 152 b_152_0 [a0, vU, vU] [] h Q := Iff.rfl
theorem R_152 {a : Int} : m_ok xs L 152 ((pc, .ireturn) :: r) ls [vI a] h Q ↔ Q (.inl (some (vI a))) h := V_ireti rfl
theorem X_152 {e : Nat} : m_cont xs L 152 pc r ls st Q (.inr e) h ↔ Q (.inr e) h := V_contx rfl
theorem W_152_143 {o : Nat} {v : MV} : m_ok xs L 152 ((pc, .putfield 143) :: r) ls (v :: vR o :: st) h Q ↔ (m_fit 0 v = true ∧ (m_get h o 10 0).isSome = true) ∧ m_ok xs L 152 r ls st (m_set h o 0 v) Q := U_putf rfl
theorem F_152_164 {o : Nat} : m_ok xs L 152 ((pc, .getfield 164) :: r) ls (vR o :: st) h Q ↔ ∃ v, m_get h o 10 26 = some v ∧ m_ok xs L 152 r ls (v :: st) h Q := U_getf rfl
theorem J_152_14 : m_jmp 152 14 (18) = b_152_32 := rfl
theorem F_152_86 {o : Nat} : m_ok xs L 152 ((pc, .getfield 86) :: r) ls (vR o :: st) h Q ↔ ∃ v, m_get h o 10 30 = some v ∧ m_ok xs L 152 r ls (v :: st) h Q := U_getf rfl
theorem J_152_29 : m_jmp 152 29 (-20) = b_152_9 := rfl
theorem D_153 {a0 a1 : MV} : m_do xs L 153 [a0, a1] h Q ↔ m_ok xs L 153 b_153_0 [a0, a1, vU, vU] [] h Q := Iff.rfl
theorem R_153 : m_ok xs L 153 ((pc, .return_) :: r) ls [] h Q ↔ Q (.inl none) h := V_vret rfl
theorem X_153 {e : Nat} : m_cont xs L 153 pc r ls st Q (.inr e) h ↔ Q (.inr e) h := V_contx rfl
theorem J_153_7 : m_jmp 153 7 (13) = b_153_20 := rfl
theorem J_153_17 : m_jmp 153 17 (-12) = b_153_5 := rfl
theorem D_154 {a0 a1 : MV} : m_do xs L 154 [a0, a1] h Q ↔ m_ok xs L 154 b_154_0 [a0, a1, vU, vU] [] h Q := Iff.rfl
theorem R_154 : m_ok xs L 154 ((pc, .return_) :: r) ls [] h Q ↔ Q (.inl none) h := V_vret rfl
theorem X_154 {e : Nat} : m_cont xs L 154 pc r ls st Q (.inr e) h ↔ Q (.inr e) h := V_contx rfl
theorem J_154_7 : m_jmp 154 7 (13) = b_154_20 := rfl
theorem J_154_17 : m_jmp 154 17 (-12) = b_154_5 := rfl
theorem D_155 {a0 a1 a2 a3 : MV} : m_do xs L 155 [a0, a1, a2, a3] h Q ↔ m_ok xs L 155 b_155_0 [a0, a1, a2, a3, vU] [] h Q := Iff.rfl
theorem R_155 {a : Int} : m_ok xs L 155 ((pc, .ireturn) :: r) ls [vI a] h Q ↔ Q (.inl (some (vI a))) h := V_ireti rfl
theorem I_155_7 {o : Nat} {a0 a1 : MV} : m_ok xs L 155 ((pc, .invokevirtual 7) :: r) ls (a1 :: a0 :: vR o :: st) h Q ↔ (m_tag h o = some 9 ∧ (st.map m_cat).sum ≤ 8 ∧ [a1, a0].all (fun v => decide (m_cat v = 1)) = true) ∧ m_do xs L 64 [vR o, a0, a1] h (m_cont xs L 155 pc r ls st Q) := U_invv (mj := 64) (av := [a1, a0]) rfl rfl rfl (Nat.le_of_ble_eq_true rfl)
theorem J_155_10 : m_jmp 155 10 (11) = b_155_21 := rfl
theorem D_156 {a0 a1 a2 a3 a4 : MV} : m_do xs L 156 [a0, a1, a2, a3, a4] h Q ↔ m_ok xs L 156 b_156_0 [a0, a1, a2, a3, a4, vU] [] h Q := Iff.rfl
theorem R_156 {a : Int} : m_ok xs L 156 ((pc, .ireturn) :: r) ls [vI a] h Q ↔ Q (.inl (some (vI a))) h := V_ireti rfl
theorem I_156_17 {o : Nat} {a0 a1 a2 : MV} : m_ok xs L 156 ((pc, .invokevirtual 17) :: r) ls (a2 :: a1 :: a0 :: vR o :: st) h Q ↔ (m_tag h o = some 9 ∧ (st.map m_cat).sum ≤ 8 ∧ [a2, a1, a0].all (fun v => decide (m_cat v = 1)) = true) ∧ m_do xs L 65 [vR o, a0, a1, a2] h (m_cont xs L 156 pc r ls st Q) := U_invv (mj := 65) (av := [a2, a1, a0]) rfl rfl rfl (Nat.le_of_ble_eq_true rfl)
theorem J_156_12 : m_jmp 156 12 (15) = b_156_27 := rfl
theorem D_157 {a0 a1 a2 a3 a4 a5 a6 : MV} : m_do xs L 157 [a0, a1, a2, a3, a4, a5, a6] h Q ↔ m_ok xs L 157 b_157_0 [a0, a1, a2, a3, a4, a5, a6, vU] [] h Q := Iff.rfl
theorem R_157 {a : Int} : m_ok xs L 157 ((pc, .ireturn) :: r) ls [vI a] h Q ↔ Q (.inl (some (vI a))) h := V_ireti rfl
theorem I_157_23 {o : Nat} {a0 a1 a2 a3 a4 : MV} : m_ok xs L 157 ((pc, .invokevirtual 23) :: r) ls (a4 :: a3 :: a2 :: a1 :: a0 :: vR o :: st) h Q ↔ (m_tag h o = some 9 ∧ (st.map m_cat).sum ≤ 8 ∧ [a4, a3, a2, a1, a0].all (fun v => decide (m_cat v = 1)) = true) ∧ m_do xs L 66 [vR o, a0, a1, a2, a3, a4] h (m_cont xs L 157 pc r ls st Q) := U_invv (mj := 66) (av := [a4, a3, a2, a1, a0]) rfl rfl rfl (Nat.le_of_ble_eq_true rfl)
theorem J_157_16 : m_jmp 157 16 (15) = b_157_31 := rfl
theorem D_158 {a0 a1 a2 a3 : MV} : m_do xs L 158 [a0, a1, a2, a3] h Q ↔ m_ok xs L 158 b_158_0 [a0, a1, a2, a3, vU] [] h Q := Iff.rfl
theorem R_158 {a : Int} : m_ok xs L 158 ((pc, .ireturn) :: r) ls [vI a] h Q ↔ Q (.inl (some (vI a))) h := V_ireti rfl
theorem I_158_27 {o : Nat} {a0 a1 : MV} : m_ok xs L 158 ((pc, .invokevirtual 27) :: r) ls (a1 :: a0 :: vR o :: st) h Q ↔ (m_tag h o = some 9 ∧ (st.map m_cat).sum ≤ 8 ∧ [a1, a0].all (fun v => decide (m_cat v = 1)) = true) ∧ m_do xs L 67 [vR o, a0, a1] h (m_cont xs L 158 pc r ls st Q) := U_invv (mj := 67) (av := [a1, a0]) rfl rfl rfl (Nat.le_of_ble_eq_true rfl)
theorem J_158_10 : m_jmp 158 10 (11) = b_158_21 := rfl
theorem D_159 {a0 a1 a2 a3 a4 : MV} : m_do xs L 159 [a0, a1, a2, a3, a4] h Q ↔ m_ok xs L 159 b_159_0 [a0, a1, a2, a3, a4, vU] [] h Q := Iff.rfl
theorem R_159 {a : Int} : m_ok xs L 159 ((pc, .ireturn) :: r) ls [vI a] h Q ↔ Q (.inl (some (vI a))) h := V_ireti rfl
theorem I_159_30 {o : Nat} {a0 a1 a2 : MV} : m_ok xs L 159 ((pc, .invokevirtual 30) :: r) ls (a2 :: a1 :: a0 :: vR o :: st) h Q ↔ (m_tag h o = some 9 ∧ (st.map m_cat).sum ≤ 8 ∧ [a2, a1, a0].all (fun v => decide (m_cat v = 1)) = true) ∧ m_do xs L 68 [vR o, a0, a1, a2] h (m_cont xs L 159 pc r ls st Q) := U_invv (mj := 68) (av := [a2, a1, a0]) rfl rfl rfl (Nat.le_of_ble_eq_true rfl)
theorem J_159_12 : m_jmp 159 12 (11) = b_159_23 := rfl
theorem D_160 {a0 a1 a2 a3 a4 a5 a6 a7 a8 : MV} : m_do xs L 160 [a0, a1, a2, a3, a4, a5, a6, a7, a8] h Q ↔ m_ok xs L 160 b_160_0 [a0, a1, a2, a3, a4, a5, a6, a7, a8, vU] [] h Q := Iff.rfl
theorem R_160 {a : Int} : m_ok xs L 160 ((pc, .ireturn) :: r) ls [vI a] h Q ↔ Q (.inl (some (vI a))) h := V_ireti rfl
theorem I_160_33 {o : Nat} {a0 a1 a2 a3 a4 a5 a6 : MV} : m_ok xs L 160 ((pc, .invokevirtual 33) :: r) ls (a6 :: a5 :: a4 :: a3 :: a2 :: a1 :: a0 :: vR o :: st) h Q ↔ (m_tag h o = some 9 ∧ (st.map m_cat).sum ≤ 8 ∧ [a6, a5, a4, a3, a2, a1, a0].all (fun v => decide (m_cat v = 1)) = true) ∧ m_do xs L 69 [vR o, a0, a1, a2, a3, a4, a5, a6] h (m_cont xs L 160 pc r ls st Q) := U_invv (mj := 69) (av := [a6, a5, a4, a3, a2, a1, a0]) rfl rfl rfl (Nat.le_of_ble_eq_true rfl)
theorem J_160_20 : m_jmp 160 20 (15) = b_160_35 := rfl
theorem D_161 {a0 a1 a2 a3 a4 : MV} : m_do xs L 161 [a0, a1, a2, a3, a4] h Q ↔ m_ok xs L 161 b_161_0 [a0, a1, a2, a3, a4, vU] [] h Q := Iff.rfl
theorem R_161 {a : Int} : m_ok xs L 161 ((pc, .ireturn) :: r) ls [vI a] h Q ↔ Q (.inl (some (vI a))) h := V_ireti rfl
theorem I_161_37 {o : Nat} {a0 a1 a2 : MV} : m_ok xs L 161 ((pc, .invokevirtual 37) :: r) ls (a2 :: a1 :: a0 :: vR o :: st) h Q ↔ (m_tag h o = some 9 ∧ (st.map m_cat).sum ≤ 8 ∧ [a2, a1, a0].all (fun v => decide (m_cat v = 1)) = true) ∧ m_do xs L 70 [vR o, a0, a1, a2] h (m_cont xs L 161 pc r ls st Q) := U_invv (mj := 70) (av := [a2, a1, a0]) rfl rfl rfl (Nat.le_of_ble_eq_true rfl)
theorem J_161_12 : m_jmp 161 12 (11) = b_161_23 := rfl
theorem D_162 {a0 a1 a2 : MV} : m_do xs L 162 [a0, a1, a2] h Q ↔ m_ok xs L 162 b_162_0 [a0, a1, a2, vU] [] h Q := Iff.rfl
theorem R_162 {a : Int} : m_ok xs L 162 ((pc, .ireturn) :: r) ls [vI a] h Q ↔ Q (.inl (some (vI a))) h := V_ireti rfl
theorem I_162_40 {o : Nat} {a0 : MV} : m_ok xs L 162 ((pc, .invokevirtual 40) :: r) ls (a0 :: vR o :: st) h Q ↔ (m_tag h o = some 9 ∧ (st.map m_cat).sum ≤ 8 ∧ [a0].all (fun v => decide (m_cat v = 1)) = true) ∧ m_do xs L 71 [vR o, a0] h (m_cont xs L 162 pc r ls st Q) := U_invv (mj := 71) (av := [a0]) rfl rfl rfl (Nat.le_of_ble_eq_true rfl)
theorem J_162_9 : m_jmp 162 9 (9) = b_162_18 := rfl
theorem D_163 {a0 a1 a2 a3 a4 a5 : MV} : m_do xs L 163 [a0, a1, a2, a3, a4, a5] h Q ↔ m_ok xs L 163 b_163_0 [a0, a1, a2, a3, a4, a5, vU] [] h Q := Iff.rfl
theorem R_163 {a : Int} : m_ok xs L 163 ((pc, .ireturn) :: r) ls [vI a] h Q ↔ Q (.inl (some (vI a))) h := V_ireti rfl
theorem I_163_44 {o : Nat} {a0 a1 a2 a3 : MV} : m_ok xs L 163 ((pc, .invokevirtual 44) :: r) ls (a3 :: a2 :: a1 :: a0 :: vR o :: st) h Q ↔ (m_tag h o = some 9 ∧ (st.map m_cat).sum ≤ 8 ∧ [a3, a2, a1, a0].all (fun v => decide (m_cat v = 1)) = true) ∧ m_do xs L 72 [vR o, a0, a1, a2, a3] h (m_cont xs L 163 pc r ls st Q) := U_invv (mj := 72) (av := [a3, a2, a1, a0]) rfl rfl rfl (Nat.le_of_ble_eq_true rfl)
theorem J_163_14 : m_jmp 163 14 (15) = b_163_29 := rfl
theorem D_164 {a0 a1 a2 : MV} : m_do xs L 164 [a0, a1, a2] h Q ↔ m_ok xs L 164 b_164_0 [a0, a1, a2, vU] [] h Q := Iff.rfl
theorem R_164 {a : Int} : m_ok xs L 164 ((pc, .ireturn) :: r) ls [vI a] h Q ↔ Q (.inl (some (vI a))) h := V_ireti rfl
theorem I_164_48 {o : Nat} {a0 : MV} : m_ok xs L 164 ((pc, .invokevirtual 48) :: r) ls (a0 :: vR o :: st) h Q ↔ (m_tag h o = some 9 ∧ (st.map m_cat).sum ≤ 8 ∧ [a0].all (fun v => decide (m_cat v = 1)) = true) ∧ m_do xs L 73 [vR o, a0] h (m_cont xs L 164 pc r ls st Q) := U_invv (mj := 73) (av := [a0]) rfl rfl rfl (Nat.le_of_ble_eq_true rfl)
theorem J_164_9 : m_jmp 164 9 (9) = b_164_18 := rfl
theorem D_165 {a0 a1 a2 : MV} : m_do xs L 165 [a0, a1, a2] h Q ↔ m_ok xs L 165 b_165_0 [a0, a1, a2, vU] [] h Q := Iff.rfl
theorem R_165 {a : Int} : m_ok xs L 165 ((pc, .ireturn) :: r) ls [vI a] h Q ↔ Q (.inl (some (vI a))) h := V_ireti rfl
theorem I_165_51 {o : Nat} {a0 a1 : MV} : m_ok xs L 165 ((pc, .invokevirtual 51) :: r) ls (a1 :: a0 :: vR o :: st) h Q ↔ (m_tag h o = some 9 ∧ (st.map m_cat).sum ≤ 8 ∧ [a1, a0].all (fun v => decide (m_cat v = 1)) = true) ∧ m_do xs L 74 [vR o, a0, a1] h (m_cont xs L 165 pc r ls st Q) := U_invv (mj := 74) (av := [a1, a0]) rfl rfl rfl (Nat.le_of_ble_eq_true rfl)
theorem J_165_6 : m_jmp 165 6 (12) = b_165_18 := rfl
theorem D_166 {a0 a1 a2 a3 : MV} : m_do xs L 166 [a0, a1, a2, a3] h Q ↔ m_ok xs L 166 b_166_0 [a0, a1, a2, a3, vU] [] h Q := Iff.rfl
theorem R_166 {a : Int} : m_ok xs L 166 ((pc, .ireturn) :: r) ls [vI a] h Q ↔ Q (.inl (some (vI a))) h := V_ireti rfl
theorem I_166_55 {o : Nat} {a0 a1 : MV} : m_ok xs L 166 ((pc, .invokevirtual 55) :: r) ls (a1 :: a0 :: vR o :: st) h Q ↔ (m_tag h o = some 9 ∧ (st.map m_cat).sum ≤ 8 ∧ [a1, a0].all (fun v => decide (m_cat v = 1)) = true) ∧ m_do xs L 75 [vR o, a0, a1] h (m_cont xs L 166 pc r ls st Q) := U_invv (mj := 75) (av := [a1, a0]) rfl rfl rfl (Nat.le_of_ble_eq_true rfl)
theorem J_166_10 : m_jmp 166 10 (7) = b_166_17 := rfl
theorem D_167 {a0 a1 a2 a3 : MV} : m_do xs L 167 [a0, a1, a2, a3] h Q ↔ m_ok xs L 167 b_167_0 [a0, a1, a2, a3, vU] [] h Q := Iff.rfl
theorem R_167 {a : Int} : m_ok xs L 167 ((pc, .ireturn) :: r) ls [vI a] h Q ↔ Q (.inl (some (vI a))) h := V_ireti rfl
theorem I_167_58 {o : Nat} {a0 a1 : MV} : m_ok xs L 167 ((pc, .invokevirtual 58) :: r) ls (a1 :: a0 :: vR o :: st) h Q ↔ (m_tag h o = some 9 ∧ (st.map m_cat).sum ≤ 8 ∧ [a1, a0].all (fun v => decide (m_cat v = 1)) = true) ∧ m_do xs L 76 [vR o, a0, a1] h (m_cont xs L 167 pc r ls st Q) := U_invv (mj := 76) (av := [a1, a0]) rfl rfl rfl (Nat.le_of_ble_eq_true rfl)
theorem J_167_10 : m_jmp 167 10 (7) = b_167_17 := rfl
theorem D_168 {a0 a1 a2 a3 : MV} : m_do xs L 168 [a0, a1, a2, a3] h Q ↔ m_ok xs L 168 b_168_0 [a0, a1, a2, a3, vU] [] h Q := Iff.rfl
theorem R_168 {a : Int} : m_ok xs L 168 ((pc, .ireturn) :: r) ls [vI a] h Q ↔ Q (.inl (some (vI a))) h := V_ireti rfl
theorem I_168_61 {o : Nat} {a0 a1 : MV} : m_ok xs L 168 ((pc, .invokevirtual 61) :: r) ls (a1 :: a0 :: vR o :: st) h Q ↔ (m_tag h o = some 9 ∧ (st.map m_cat).sum ≤ 8 ∧ [a1, a0].all (fun v => decide (m_cat v = 1)) = true) ∧ m_do xs L 77 [vR o, a0, a1] h (m_cont xs L 168 pc r ls st Q) := U_invv (mj := 77) (av := [a1, a0]) rfl rfl rfl (Nat.le_of_ble_eq_true rfl)
theorem J_168_10 : m_jmp 168 10 (7) = b_168_17 := rfl
theorem D_169 {a0 a1 a2 a3 a4 : MV} : m_do xs L 169 [a0, a1, a2, a3, a4] h Q ↔ m_ok xs L 169 b_169_0 [a0, a1, a2, a3, a4, vU] [] h Q := Iff.rfl
theorem R_169 {a : Int} : m_ok xs L 169 ((pc, .ireturn) :: r) ls [vI a] h Q ↔ Q (.inl (some (vI a))) h := V_ireti rfl
theorem I_169_64 {o : Nat} {a0 a1 a2 : MV} : m_ok xs L 169 ((pc, .invokevirtual 64) :: r) ls (a2 :: a1 :: a0 :: vR o :: st) h Q ↔ (m_tag h o = some 9 ∧ (st.map m_cat).sum ≤ 8 ∧ [a2, a1, a0].all (fun v => decide (m_cat v = 1)) = true) ∧ m_do xs L 78 [vR o, a0, a1, a2] h (m_cont xs L 169 pc r ls st Q) := U_invv (mj := 78) (av := [a2, a1, a0]) rfl rfl rfl (Nat.le_of_ble_eq_true rfl)
theorem J_169_12 : m_jmp 169 12 (11) = b_169_23 := rfl
theorem D_170 {a0 a1 a2 a3 : MV} : m_do xs L 170 [a0, a1, a2, a3] h Q ↔ m_ok xs L 170 b_170_0 [a0, a1, a2, a3, vU] [] h Q := Iff.rfl
theorem R_170 {a : Int} : m_ok xs L 170 ((pc, .ireturn) :: r) ls [vI a] h Q ↔ Q (.inl (some (vI a))) h := V_ireti rfl
theorem I_170_67 {o : Nat} {a0 a1 : MV} : m_ok xs L 170 ((pc, .invokevirtual 67) :: r) ls (a1 :: a0 :: vR o :: st) h Q ↔ (m_tag h o = some 9 ∧ (st.map m_cat).sum ≤ 8 ∧ [a1, a0].all (fun v => decide (m_cat v = 1)) = true) ∧ m_do xs L 79 [vR o, a0, a1] h (m_cont xs L 170 pc r ls st Q) := U_invv (mj := 79) (av := [a1, a0]) rfl rfl rfl (Nat.le_of_ble_eq_true rfl)
theorem J_170_10 : m_jmp 170 10 (7) = b_170_17 := rfl
theorem D_171 {a0 a1 a2 a3 : MV} : m_do xs L 171 [a0, a1, a2, a3] h Q ↔ m_ok xs L 171 b_171_0 [a0, a1, a2, a3, vU] [] h Q := Iff.rfl
theorem R_171 {a : Int} : m_ok xs L 171 ((pc, .ireturn) :: r) ls [vI a] h Q ↔ Q (.inl (some (vI a))) h := V_ireti rfl
theorem I_171_71 {o : Nat} {a0 a1 : MV} : m_ok xs L 171 ((pc, .invokevirtual 71) :: r) ls (a1 :: a0 :: vR o :: st) h Q ↔ (m_tag h o = some 9 ∧ (st.map m_cat).sum ≤ 8 ∧ [a1, a0].all (fun v => decide (m_cat v = 1)) = true) ∧ m_do xs L 80 [vR o, a0, a1] h (m_cont xs L 171 pc r ls st Q) := U_invv (mj := 80) (av := [a1, a0]) rfl rfl rfl (Nat.le_of_ble_eq_true rfl)
theorem J_171_10 : m_jmp 171 10 (11) = b_171_21 := rfl
theorem D_172 {a0 a1 a2 a3 : MV} : m_do xs L 172 [a0, a1, a2, a3] h Q ↔ m_ok xs L 172 b_172_0 [a0, a1, a2, a3, vU] [] h Q := Iff.rfl
theorem R_172 {a : Int} : m_ok xs L 172 ((pc, .ireturn) :: r) ls [vI a] h Q ↔ Q (.inl (some (vI a))) h := V_ireti rfl
theorem I_172_74 {o : Nat} {a0 a1 : MV} : m_ok xs L 172 ((pc, .invokevirtual 74) :: r) ls (a1 :: a0 :: vR o :: st) h Q ↔ (m_tag h o = some 9 ∧ (st.map m_cat).sum ≤ 8 ∧ [a1, a0].all (fun v => decide (m_cat v = 1)) = true) ∧ m_do xs L 81 [vR o, a0, a1] h (m_cont xs L 172 pc r ls st Q) := U_invv (mj := 81) (av := [a1, a0]) rfl rfl rfl (Nat.le_of_ble_eq_true rfl)
theorem J_172_10 : m_jmp 172 10 (7) = b_172_17 := rfl
theorem D_173 {a0 a1 a2 : MV} : m_do xs L 173 [a0, a1, a2] h Q ↔ m_ok xs L 173 b_173_0 [a0, a1, a2, vU] [] h Q := Iff.rfl
theorem R_173 {a : Int} : m_ok xs L 173 ((pc, .ireturn) :: r) ls [vI a] h Q ↔ Q (.inl (some (vI a))) h := V_ireti rfl
theorem I_173_77 {o : Nat} {a0 : MV} : m_ok xs L 173 ((pc, .invokevirtual 77) :: r) ls (a0 :: vR o :: st) h Q ↔ (m_tag h o = some 9 ∧ (st.map m_cat).sum ≤ 8 ∧ [a0].all (fun v => decide (m_cat v = 1)) = true) ∧ m_do xs L 83 [vR o, a0] h (m_cont xs L 173 pc r ls st Q) := U_invv (mj := 83) (av := [a0]) rfl rfl rfl (Nat.le_of_ble_eq_true rfl)
theorem J_173_9 : m_jmp 173 9 (6) = b_173_15 := rfl
theorem D_174 {a0 a1 a2 a3 : MV} : m_do xs L 174 [a0, a1, a2, a3] h Q ↔ m_ok xs L 174 b_174_0 [a0, a1, a2, a3, vU] [] h Q := Iff.rfl
theorem R_174 {a : Int} : m_ok xs L 174 ((pc, .ireturn) :: r) ls [vI a] h Q ↔ Q (.inl (some (vI a))) h := V_ireti rfl
theorem I_174_80 {o : Nat} {a0 a1 : MV} : m_ok xs L 174 ((pc, .invokevirtual 80) :: r) ls (a1 :: a0 :: vR o :: st) h Q ↔ (m_tag h o = some 9 ∧ (st.map m_cat).sum ≤ 8 ∧ [a1, a0].all (fun v => decide (m_cat v = 1)) = true) ∧ m_do xs L 84 [vR o, a0, a1] h (m_cont xs L 174 pc r ls st Q) := U_invv (mj := 84) (av := [a1, a0]) rfl rfl rfl (Nat.le_of_ble_eq_true rfl)
theorem J_174_10 : m_jmp 174 10 (11) = b_174_21 := rfl
theorem D_175 {a0 a1 a2 a3 a4 : MV} : m_do xs L 175 [a0, a1, a2, a3, a4] h Q ↔ m_ok xs L 175 b_175_0 [a0, a1, a2, a3, a4, vU] [] h Q := Iff.rfl
theorem R_175 {a : Int} : m_ok xs L 175 ((pc, .ireturn) :: r) ls [vI a] h Q ↔ Q (.inl (some (vI a))) h := V_ireti rfl
theorem I_175_83 {o : Nat} {a0 a1 a2 : MV} : m_ok xs L 175 ((pc, .invokevirtual 83) :: r) ls (a2 :: a1 :: a0 :: vR o :: st) h Q ↔ (m_tag h o = some 9 ∧ (st.map m_cat).sum ≤ 8 ∧ [a2, a1, a0].all (fun v => decide (m_cat v = 1)) = true) ∧ m_do xs L 85 [vR o, a0, a1, a2] h (m_cont xs L 175 pc r ls st Q) := U_invv (mj := 85) (av := [a2, a1, a0]) rfl rfl rfl (Nat.le_of_ble_eq_true rfl)
theorem J_175_12 : m_jmp 175 12 (11) = b_175_23 := rfl
theorem D_176 {a0 a1 a2 a3 a4 : MV} : m_do xs L 176 [a0, a1, a2, a3, a4] h Q ↔ m_ok xs L 176 b_176_0 [a0, a1, a2, a3, a4, vU] [] h Q := Iff.rfl
theorem R_176 {a : Int} : m_ok xs L 176 ((pc, .ireturn) :: r) ls [vI a] h Q ↔ Q (.inl (some (vI a))) h := V_ireti rfl
theorem I_176_86 {o : Nat} {a0 a1 a2 : MV} : m_ok xs L 176 ((pc, .invokevirtual 86) :: r) ls (a2 :: a1 :: a0 :: vR o :: st) h Q ↔ (m_tag h o = some 9 ∧ (st.map m_cat).sum ≤ 8 ∧ [a2, a1, a0].all (fun v => decide (m_cat v = 1)) = true) ∧ m_do xs L 86 [vR o, a0, a1, a2] h (m_cont xs L 176 pc r ls st Q) := U_invv (mj := 86) (av := [a2, a1, a0]) rfl rfl rfl (Nat.le_of_ble_eq_true rfl)
theorem J_176_10 : m_jmp 176 10 (7) = b_176_17 := rfl
theorem J_176_14 : m_jmp 176 14 (4) = b_176_18 := rfl
theorem J_176_19 : m_jmp 176 19 (11) = b_176_30 := rfl
theorem D_177 {a0 : MV} : m_do xs L 177 [a0] h Q ↔ m_ok xs L 177 b_177_0 [a0, vU, vU, vU, vU, vU, vU, vU] [] h Q := Iff.rfl
theorem R_177 {a : Int} : m_ok xs L 177 ((pc, .ireturn) :: r) ls [vI a] h Q ↔ (a = 0 ∨ a = 1) ∧ Q (.inl (some (vI a))) h := V_iretz rfl
theorem X_177 {e : Nat} : m_cont xs L 177 pc r ls st Q (.inr e) h ↔ Q (.inr e) h := V_contx rfl
set_option maxRecDepth 100000 in
theorem J_177_35 : m_jmp 177 35 (1866) = b_177_1901 := rfl
set_option maxRecDepth 100000 in
theorem J_177_45_156 : m_jmp 177 45 (111) = b_177_156 := rfl
set_option maxRecDepth 100000 in
theorem J_177_45_224 : m_jmp 177 45 (179) = b_177_224 := rfl
set_option maxRecDepth 100000 in
theorem J_177_45_304 : m_jmp 177 45 (259) = b_177_304 := rfl
set_option maxRecDepth 100000 in
theorem J_177_45_408 : m_jmp 177 45 (363) = b_177_408 := rfl
set_option maxRecDepth 100000 in
theorem J_177_45_476 : m_jmp 177 45 (431) = b_177_476 := rfl
set_option maxRecDepth 100000 in
theorem J_177_45_556 : m_jmp 177 45 (511) = b_177_556 := rfl
set_option maxRecDepth 100000 in
theorem J_177_45_704 : m_jmp 177 45 (659) = b_177_704 := rfl
set_option maxRecDepth 100000 in
theorem J_177_45_784 : m_jmp 177 45 (739) = b_177_784 := rfl
set_option maxRecDepth 100000 in
theorem J_177_45_840 : m_jmp 177 45 (795) = b_177_840 := rfl
set_option maxRecDepth 100000 in
theorem J_177_45_948 : m_jmp 177 45 (903) = b_177_948 := rfl
set_option maxRecDepth 100000 in
theorem J_177_45_1004 : m_jmp 177 45 (959) = b_177_1004 := rfl
set_option maxRecDepth 100000 in
theorem J_177_45_1052 : m_jmp 177 45 (1007) = b_177_1052 := rfl
set_option maxRecDepth 100000 in
theorem J_177_45_1120 : m_jmp 177 45 (1075) = b_177_1120 := rfl
set_option maxRecDepth 100000 in
theorem J_177_45_1188 : m_jmp 177 45 (1143) = b_177_1188 := rfl
set_option maxRecDepth 100000 in
theorem J_177_45_1256 : m_jmp 177 45 (1211) = b_177_1256 := rfl
set_option maxRecDepth 100000 in
theorem J_177_45_1336 : m_jmp 177 45 (1291) = b_177_1336 := rfl
set_option maxRecDepth 100000 in
theorem J_177_45_1426 : m_jmp 177 45 (1381) = b_177_1426 := rfl
set_option maxRecDepth 100000 in
theorem J_177_45_1494 : m_jmp 177 45 (1449) = b_177_1494 := rfl
set_option maxRecDepth 100000 in
theorem J_177_45_1562 : m_jmp 177 45 (1517) = b_177_1562 := rfl
set_option maxRecDepth 100000 in
theorem J_177_45_1575 : m_jmp 177 45 (1530) = b_177_1575 := rfl
set_option maxRecDepth 100000 in
theorem J_177_45_1631 : m_jmp 177 45 (1586) = b_177_1631 := rfl
set_option maxRecDepth 100000 in
theorem J_177_45_1699 : m_jmp 177 45 (1654) = b_177_1699 := rfl
set_option maxRecDepth 100000 in
theorem J_177_45_1779 : m_jmp 177 45 (1734) = b_177_1779 := rfl
set_option maxRecDepth 100000 in
theorem J_177_45_1882 : m_jmp 177 45 (1837) = b_177_1882 := rfl
set_option maxRecDepth 100000 in
theorem J_177_45_1895 : m_jmp 177 45 (1850) = b_177_1895 := rfl
theorem I_177_94 {a0 a1 a2 a3 : MV} : m_ok xs L 177 ((pc, .invokestatic 94) :: r) ls (a3 :: a2 :: a1 :: a0 :: st) h Q ↔ ((st.map m_cat).sum ≤ 8 ∧ [a3, a2, a1, a0].all (fun v => decide (m_cat v = 1)) = true) ∧ m_do xs L 155 [a0, a1, a2, a3] h (m_cont xs L 177 pc r ls st Q) := U_invs (mj := 155) (av := [a3, a2, a1, a0]) rfl rfl rfl (Nat.le_of_ble_eq_true rfl)
theorem I_177_99 {o : Nat} {a0 a1 : MV} : m_ok xs L 177 ((pc, .invokevirtual 99) :: r) ls (a1 :: a0 :: vR o :: st) h Q ↔ (m_tag h o = some 10 ∧ (st.map m_cat).sum ≤ 8 ∧ [a1, a0].all (fun v => decide (m_cat v = 1)) = true) ∧ m_do xs L 106 [vR o, a0, a1] h (m_cont xs L 177 pc r ls st Q) := U_invv (mj := 106) (av := [a1, a0]) rfl rfl rfl (Nat.le_of_ble_eq_true rfl)
theorem I_177_100 {o : Nat} : m_ok xs L 177 ((pc, .invokevirtual 100) :: r) ls (vR o :: st) h Q ↔ (m_tag h o = some 10 ∧ (st.map m_cat).sum ≤ 8 ∧ [].all (fun v => decide (m_cat v = 1)) = true) ∧ m_do xs L 97 [vR o] h (m_cont xs L 177 pc r ls st Q) := U_invv (mj := 97) (av := []) rfl rfl rfl (Nat.le_of_ble_eq_true rfl)
set_option maxRecDepth 100000 in
theorem J_177_199 : m_jmp 177 199 (5) = b_177_204 := rfl
set_option maxRecDepth 100000 in
theorem J_177_206 : m_jmp 177 206 (15) = b_177_221 := rfl
set_option maxRecDepth 100000 in
theorem J_177_216 : m_jmp 177 216 (5) = b_177_221 := rfl
set_option maxRecDepth 100000 in
theorem J_177_221 : m_jmp 177 221 (1674) = b_177_1895 := rfl
theorem I_177_104 {a0 a1 a2 a3 a4 : MV} : m_ok xs L 177 ((pc, .invokestatic 104) :: r) ls (a4 :: a3 :: a2 :: a1 :: a0 :: st) h Q ↔ ((st.map m_cat).sum ≤ 8 ∧ [a4, a3, a2, a1, a0].all (fun v => decide (m_cat v = 1)) = true) ∧ m_do xs L 156 [a0, a1, a2, a3, a4] h (m_cont xs L 177 pc r ls st Q) := U_invs (mj := 156) (av := [a4, a3, a2, a1, a0]) rfl rfl rfl (Nat.le_of_ble_eq_true rfl)
theorem I_177_107 {o : Nat} {a0 a1 a2 : MV} : m_ok xs L 177 ((pc, .invokevirtual 107) :: r) ls (a2 :: a1 :: a0 :: vR o :: st) h Q ↔ (m_tag h o = some 10 ∧ (st.map m_cat).sum ≤ 8 ∧ [a2, a1, a0].all (fun v => decide (m_cat v = 1)) = true) ∧ m_do xs L 107 [vR o, a0, a1, a2] h (m_cont xs L 177 pc r ls st Q) := U_invv (mj := 107) (av := [a2, a1, a0]) rfl rfl rfl (Nat.le_of_ble_eq_true rfl)
set_option maxRecDepth 100000 in
theorem J_177_279 : m_jmp 177 279 (5) = b_177_284 := rfl
set_option maxRecDepth 100000 in
theorem J_177_286 : m_jmp 177 286 (15) = b_177_301 := rfl
set_option maxRecDepth 100000 in
theorem J_177_296 : m_jmp 177 296 (5) = b_177_301 := rfl
set_option maxRecDepth 100000 in
theorem J_177_301 : m_jmp 177 301 (1594) = b_177_1895 := rfl
theorem I_177_108 {a0 a1 a2 a3 a4 a5 a6 : MV} : m_ok xs L 177 ((pc, .invokestatic 108) :: r) ls (a6 :: a5 :: a4 :: a3 :: a2 :: a1 :: a0 :: st) h Q ↔ ((st.map m_cat).sum ≤ 8 ∧ [a6, a5, a4, a3, a2, a1, a0].all (fun v => decide (m_cat v = 1)) = true) ∧ m_do xs L 157 [a0, a1, a2, a3, a4, a5, a6] h (m_cont xs L 177 pc r ls st Q) := U_invs (mj := 157) (av := [a6, a5, a4, a3, a2, a1, a0]) rfl rfl rfl (Nat.le_of_ble_eq_true rfl)
theorem I_177_111 {o : Nat} {a0 a1 a2 a3 a4 : MV} : m_ok xs L 177 ((pc, .invokevirtual 111) :: r) ls (a4 :: a3 :: a2 :: a1 :: a0 :: vR o :: st) h Q ↔ (m_tag h o = some 10 ∧ (st.map m_cat).sum ≤ 8 ∧ [a4, a3, a2, a1, a0].all (fun v => decide (m_cat v = 1)) = true) ∧ m_do xs L 108 [vR o, a0, a1, a2, a3, a4] h (m_cont xs L 177 pc r ls st Q) := U_invv (mj := 108) (av := [a4, a3, a2, a1, a0]) rfl rfl rfl (Nat.le_of_ble_eq_true rfl)
set_option maxRecDepth 100000 in
theorem J_177_383 : m_jmp 177 383 (5) = b_177_388 := rfl
set_option maxRecDepth 100000 in
theorem J_177_390 : m_jmp 177 390 (15) = b_177_405 := rfl
set_option maxRecDepth 100000 in
theorem J_177_400 : m_jmp 177 400 (5) = b_177_405 := rfl
set_option maxRecDepth 100000 in
theorem J_177_405 : m_jmp 177 405 (1490) = b_177_1895 := rfl
theorem I_177_112 {a0 a1 a2 a3 : MV} : m_ok xs L 177 ((pc, .invokestatic 112) :: r) ls (a3 :: a2 :: a1 :: a0 :: st) h Q ↔ ((st.map m_cat).sum ≤ 8 ∧ [a3, a2, a1, a0].all (fun v => decide (m_cat v = 1)) = true) ∧ m_do xs L 158 [a0, a1, a2, a3] h (m_cont xs L 177 pc r ls st Q) := U_invs (mj := 158) (av := [a3, a2, a1, a0]) rfl rfl rfl (Nat.le_of_ble_eq_true rfl)
theorem I_177_114 {o : Nat} {a0 a1 : MV} : m_ok xs L 177 ((pc, .invokevirtual 114) :: r) ls (a1 :: a0 :: vR o :: st) h Q ↔ (m_tag h o = some 10 ∧ (st.map m_cat).sum ≤ 8 ∧ [a1, a0].all (fun v => decide (m_cat v = 1)) = true) ∧ m_do xs L 109 [vR o, a0, a1] h (m_cont xs L 177 pc r ls st Q) := U_invv (mj := 109) (av := [a1, a0]) rfl rfl rfl (Nat.le_of_ble_eq_true rfl)
set_option maxRecDepth 100000 in
theorem J_177_451 : m_jmp 177 451 (5) = b_177_456 := rfl
set_option maxRecDepth 100000 in
theorem J_177_458 : m_jmp 177 458 (15) = b_177_473 := rfl
set_option maxRecDepth 100000 in
theorem J_177_468 : m_jmp 177 468 (5) = b_177_473 := rfl
set_option maxRecDepth 100000 in
theorem J_177_473 : m_jmp 177 473 (1422) = b_177_1895 := rfl
theorem I_177_115 {a0 a1 a2 a3 a4 : MV} : m_ok xs L 177 ((pc, .invokestatic 115) :: r) ls (a4 :: a3 :: a2 :: a1 :: a0 :: st) h Q ↔ ((st.map m_cat).sum ≤ 8 ∧ [a4, a3, a2, a1, a0].all (fun v => decide (m_cat v = 1)) = true) ∧ m_do xs L 159 [a0, a1, a2, a3, a4] h (m_cont xs L 177 pc r ls st Q) := U_invs (mj := 159) (av := [a4, a3, a2, a1, a0]) rfl rfl rfl (Nat.le_of_ble_eq_true rfl)
theorem I_177_117 {o : Nat} {a0 a1 a2 : MV} : m_ok xs L 177 ((pc, .invokevirtual 117) :: r) ls (a2 :: a1 :: a0 :: vR o :: st) h Q ↔ (m_tag h o = some 10 ∧ (st.map m_cat).sum ≤ 8 ∧ [a2, a1, a0].all (fun v => decide (m_cat v = 1)) = true) ∧ m_do xs L 110 [vR o, a0, a1, a2] h (m_cont xs L 177 pc r ls st Q) := U_invv (mj := 110) (av := [a2, a1, a0]) rfl rfl rfl (Nat.le_of_ble_eq_true rfl)
set_option maxRecDepth 100000 in
theorem J_177_531 : m_jmp 177 531 (5) = b_177_536 := rfl
set_option maxRecDepth 100000 in
theorem J_177_538 : m_jmp 177 538 (15) = b_177_553 := rfl
set_option maxRecDepth 100000 in
theorem J_177_548 : m_jmp 177 548 (5) = b_177_553 := rfl
set_option maxRecDepth 100000 in
theorem J_177_553 : m_jmp 177 553 (1342) = b_177_1895 := rfl
set_option maxRecDepth 100000 in
theorem J_177_601 : m_jmp 177 601 (7) = b_177_608 := rfl
set_option maxRecDepth 100000 in
theorem J_177_605 : m_jmp 177 605 (4) = b_177_609 := rfl
theorem I_177_118 {a0 a1 a2 a3 a4 a5 a6 a7 a8 : MV} : m_ok xs L 177 ((pc, .invokestatic 118) :: r) ls (a8 :: a7 :: a6 :: a5 :: a4 :: a3 :: a2 :: a1 :: a0 :: st) h Q ↔ ((st.map m_cat).sum ≤ 8 ∧ [a8, a7, a6, a5, a4, a3, a2, a1, a0].all (fun v => decide (m_cat v = 1)) = true) ∧ m_do xs L 160 [a0, a1, a2, a3, a4, a5, a6, a7, a8] h (m_cont xs L 177 pc r ls st Q) := U_invs (mj := 160) (av := [a8, a7, a6, a5, a4, a3, a2, a1, a0]) rfl rfl rfl (Nat.le_of_ble_eq_true rfl)
set_option maxRecDepth 100000 in
theorem J_177_660 : m_jmp 177 660 (7) = b_177_667 := rfl
set_option maxRecDepth 100000 in
theorem J_177_664 : m_jmp 177 664 (4) = b_177_668 := rfl
theorem I_177_121 {o : Nat} {a0 a1 a2 a3 a4 a5 a6 : MV} : m_ok xs L 177 ((pc, .invokevirtual 121) :: r) ls (a6 :: a5 :: a4 :: a3 :: a2 :: a1 :: a0 :: vR o :: st) h Q ↔ (m_tag h o = some 10 ∧ (st.map m_cat).sum ≤ 8 ∧ [a6, a5, a4, a3, a2, a1, a0].all (fun v => decide (m_cat v = 1)) = true) ∧ m_do xs L 111 [vR o, a0, a1, a2, a3, a4, a5, a6] h (m_cont xs L 177 pc r ls st Q) := U_invv (mj := 111) (av := [a6, a5, a4, a3, a2, a1, a0]) rfl rfl rfl (Nat.le_of_ble_eq_true rfl)
set_option maxRecDepth 100000 in
theorem J_177_679 : m_jmp 177 679 (5) = b_177_684 := rfl
set_option maxRecDepth 100000 in
theorem J_177_686 : m_jmp 177 686 (15) = b_177_701 := rfl
set_option maxRecDepth 100000 in
theorem J_177_696 : m_jmp 177 696 (5) = b_177_701 := rfl
set_option maxRecDepth 100000 in
theorem J_177_701 : m_jmp 177 701 (1194) = b_177_1895 := rfl
theorem I_177_122 {a0 a1 a2 a3 a4 : MV} : m_ok xs L 177 ((pc, .invokestatic 122) :: r) ls (a4 :: a3 :: a2 :: a1 :: a0 :: st) h Q ↔ ((st.map m_cat).sum ≤ 8 ∧ [a4, a3, a2, a1, a0].all (fun v => decide (m_cat v = 1)) = true) ∧ m_do xs L 161 [a0, a1, a2, a3, a4] h (m_cont xs L 177 pc r ls st Q) := U_invs (mj := 161) (av := [a4, a3, a2, a1, a0]) rfl rfl rfl (Nat.le_of_ble_eq_true rfl)
theorem I_177_124 {o : Nat} {a0 a1 a2 : MV} : m_ok xs L 177 ((pc, .invokevirtual 124) :: r) ls (a2 :: a1 :: a0 :: vR o :: st) h Q ↔ (m_tag h o = some 10 ∧ (st.map m_cat).sum ≤ 8 ∧ [a2, a1, a0].all (fun v => decide (m_cat v = 1)) = true) ∧ m_do xs L 113 [vR o, a0, a1, a2] h (m_cont xs L 177 pc r ls st Q) := U_invv (mj := 113) (av := [a2, a1, a0]) rfl rfl rfl (Nat.le_of_ble_eq_true rfl)
set_option maxRecDepth 100000 in
theorem J_177_759 : m_jmp 177 759 (5) = b_177_764 := rfl
set_option maxRecDepth 100000 in
theorem J_177_766 : m_jmp 177 766 (15) = b_177_781 := rfl
set_option maxRecDepth 100000 in
theorem J_177_776 : m_jmp 177 776 (5) = b_177_781 := rfl
set_option maxRecDepth 100000 in
theorem J_177_781 : m_jmp 177 781 (1114) = b_177_1895 := rfl
theorem I_177_125 {a0 a1 a2 : MV} : m_ok xs L 177 ((pc, .invokestatic 125) :: r) ls (a2 :: a1 :: a0 :: st) h Q ↔ ((st.map m_cat).sum ≤ 8 ∧ [a2, a1, a0].all (fun v => decide (m_cat v = 1)) = true) ∧ m_do xs L 162 [a0, a1, a2] h (m_cont xs L 177 pc r ls st Q) := U_invs (mj := 162) (av := [a2, a1, a0]) rfl rfl rfl (Nat.le_of_ble_eq_true rfl)
theorem I_177_128 {o : Nat} {a0 : MV} : m_ok xs L 177 ((pc, .invokevirtual 128) :: r) ls (a0 :: vR o :: st) h Q ↔ (m_tag h o = some 10 ∧ (st.map m_cat).sum ≤ 8 ∧ [a0].all (fun v => decide (m_cat v = 1)) = true) ∧ m_do xs L 133 [vR o, a0] h (m_cont xs L 177 pc r ls st Q) := U_invv (mj := 133) (av := [a0]) rfl rfl rfl (Nat.le_of_ble_eq_true rfl)
set_option maxRecDepth 100000 in
theorem J_177_815 : m_jmp 177 815 (5) = b_177_820 := rfl
set_option maxRecDepth 100000 in
theorem J_177_822 : m_jmp 177 822 (15) = b_177_837 := rfl
set_option maxRecDepth 100000 in
theorem J_177_832 : m_jmp 177 832 (5) = b_177_837 := rfl
set_option maxRecDepth 100000 in
theorem J_177_837 : m_jmp 177 837 (1058) = b_177_1895 := rfl
set_option maxRecDepth 100000 in
theorem J_177_853 : m_jmp 177 853 (7) = b_177_860 := rfl
set_option maxRecDepth 100000 in
theorem J_177_857 : m_jmp 177 857 (4) = b_177_861 := rfl
theorem I_177_129 {a0 a1 a2 a3 a4 a5 : MV} : m_ok xs L 177 ((pc, .invokestatic 129) :: r) ls (a5 :: a4 :: a3 :: a2 :: a1 :: a0 :: st) h Q ↔ ((st.map m_cat).sum ≤ 8 ∧ [a5, a4, a3, a2, a1, a0].all (fun v => decide (m_cat v = 1)) = true) ∧ m_do xs L 163 [a0, a1, a2, a3, a4, a5] h (m_cont xs L 177 pc r ls st Q) := U_invs (mj := 163) (av := [a5, a4, a3, a2, a1, a0]) rfl rfl rfl (Nat.le_of_ble_eq_true rfl)
set_option maxRecDepth 100000 in
theorem J_177_892 : m_jmp 177 892 (7) = b_177_899 := rfl
set_option maxRecDepth 100000 in
theorem J_177_896 : m_jmp 177 896 (4) = b_177_900 := rfl
theorem I_177_132 {o : Nat} {a0 a1 a2 a3 : MV} : m_ok xs L 177 ((pc, .invokevirtual 132) :: r) ls (a3 :: a2 :: a1 :: a0 :: vR o :: st) h Q ↔ (m_tag h o = some 10 ∧ (st.map m_cat).sum ≤ 8 ∧ [a3, a2, a1, a0].all (fun v => decide (m_cat v = 1)) = true) ∧ m_do xs L 134 [vR o, a0, a1, a2, a3] h (m_cont xs L 177 pc r ls st Q) := U_invv (mj := 134) (av := [a3, a2, a1, a0]) rfl rfl rfl (Nat.le_of_ble_eq_true rfl)
set_option maxRecDepth 100000 in
theorem J_177_923 : m_jmp 177 923 (5) = b_177_928 := rfl
set_option maxRecDepth 100000 in
theorem J_177_930 : m_jmp 177 930 (15) = b_177_945 := rfl
set_option maxRecDepth 100000 in
theorem J_177_940 : m_jmp 177 940 (5) = b_177_945 := rfl
set_option maxRecDepth 100000 in
theorem J_177_945 : m_jmp 177 945 (950) = b_177_1895 := rfl
theorem I_177_133 {a0 a1 a2 : MV} : m_ok xs L 177 ((pc, .invokestatic 133) :: r) ls (a2 :: a1 :: a0 :: st) h Q ↔ ((st.map m_cat).sum ≤ 8 ∧ [a2, a1, a0].all (fun v => decide (m_cat v = 1)) = true) ∧ m_do xs L 164 [a0, a1, a2] h (m_cont xs L 177 pc r ls st Q) := U_invs (mj := 164) (av := [a2, a1, a0]) rfl rfl rfl (Nat.le_of_ble_eq_true rfl)
theorem I_177_135 {o : Nat} {a0 : MV} : m_ok xs L 177 ((pc, .invokevirtual 135) :: r) ls (a0 :: vR o :: st) h Q ↔ (m_tag h o = some 10 ∧ (st.map m_cat).sum ≤ 8 ∧ [a0].all (fun v => decide (m_cat v = 1)) = true) ∧ m_do xs L 135 [vR o, a0] h (m_cont xs L 177 pc r ls st Q) := U_invv (mj := 135) (av := [a0]) rfl rfl rfl (Nat.le_of_ble_eq_true rfl)
set_option maxRecDepth 100000 in
theorem J_177_979 : m_jmp 177 979 (5) = b_177_984 := rfl
set_option maxRecDepth 100000 in
theorem J_177_986 : m_jmp 177 986 (15) = b_177_1001 := rfl
set_option maxRecDepth 100000 in
theorem J_177_996 : m_jmp 177 996 (5) = b_177_1001 := rfl
set_option maxRecDepth 100000 in
theorem J_177_1001 : m_jmp 177 1001 (894) = b_177_1895 := rfl
theorem I_177_136 {a0 a1 a2 : MV} : m_ok xs L 177 ((pc, .invokestatic 136) :: r) ls (a2 :: a1 :: a0 :: st) h Q ↔ ((st.map m_cat).sum ≤ 8 ∧ [a2, a1, a0].all (fun v => decide (m_cat v = 1)) = true) ∧ m_do xs L 165 [a0, a1, a2] h (m_cont xs L 177 pc r ls st Q) := U_invs (mj := 165) (av := [a2, a1, a0]) rfl rfl rfl (Nat.le_of_ble_eq_true rfl)
theorem I_177_139 {o : Nat} {a0 a1 : MV} : m_ok xs L 177 ((pc, .invokevirtual 139) :: r) ls (a1 :: a0 :: vR o :: st) h Q ↔ (m_tag h o = some 10 ∧ (st.map m_cat).sum ≤ 8 ∧ [a1, a0].all (fun v => decide (m_cat v = 1)) = true) ∧ m_do xs L 137 [vR o, a0, a1] h (m_cont xs L 177 pc r ls st Q) := U_invv (mj := 137) (av := [a1, a0]) rfl rfl rfl (Nat.le_of_ble_eq_true rfl)
set_option maxRecDepth 100000 in
theorem J_177_1044 : m_jmp 177 1044 (5) = b_177_1049 := rfl
set_option maxRecDepth 100000 in
theorem J_177_1049 : m_jmp 177 1049 (846) = b_177_1895 := rfl
theorem I_177_140 {a0 a1 a2 a3 : MV} : m_ok xs L 177 ((pc, .invokestatic 140) :: r) ls (a3 :: a2 :: a1 :: a0 :: st) h Q ↔ ((st.map m_cat).sum ≤ 8 ∧ [a3, a2, a1, a0].all (fun v => decide (m_cat v = 1)) = true) ∧ m_do xs L 166 [a0, a1, a2, a3] h (m_cont xs L 177 pc r ls st Q) := U_invs (mj := 166) (av := [a3, a2, a1, a0]) rfl rfl rfl (Nat.le_of_ble_eq_true rfl)
theorem I_177_142 {o : Nat} {a0 a1 : MV} : m_ok xs L 177 ((pc, .invokevirtual 142) :: r) ls (a1 :: a0 :: vR o :: st) h Q ↔ (m_tag h o = some 10 ∧ (st.map m_cat).sum ≤ 8 ∧ [a1, a0].all (fun v => decide (m_cat v = 1)) = true) ∧ m_do xs L 138 [vR o, a0, a1] h (m_cont xs L 177 pc r ls st Q) := U_invv (mj := 138) (av := [a1, a0]) rfl rfl rfl (Nat.le_of_ble_eq_true rfl)
set_option maxRecDepth 100000 in
theorem J_177_1095 : m_jmp 177 1095 (5) = b_177_1100 := rfl
set_option maxRecDepth 100000 in
theorem J_177_1102 : m_jmp 177 1102 (15) = b_177_1117 := rfl
set_option maxRecDepth 100000 in
theorem J_177_1112 : m_jmp 177 1112 (5) = b_177_1117 := rfl
set_option maxRecDepth 100000 in
theorem J_177_1117 : m_jmp 177 1117 (778) = b_177_1895 := rfl
theorem I_177_143 {a0 a1 a2 a3 : MV} : m_ok xs L 177 ((pc, .invokestatic 143) :: r) ls (a3 :: a2 :: a1 :: a0 :: st) h Q ↔ ((st.map m_cat).sum ≤ 8 ∧ [a3, a2, a1, a0].all (fun v => decide (m_cat v = 1)) = true) ∧ m_do xs L 167 [a0, a1, a2, a3] h (m_cont xs L 177 pc r ls st Q) := U_invs (mj := 167) (av := [a3, a2, a1, a0]) rfl rfl rfl (Nat.le_of_ble_eq_true rfl)
theorem I_177_145 {o : Nat} {a0 a1 : MV} : m_ok xs L 177 ((pc, .invokevirtual 145) :: r) ls (a1 :: a0 :: vR o :: st) h Q ↔ (m_tag h o = some 10 ∧ (st.map m_cat).sum ≤ 8 ∧ [a1, a0].all (fun v => decide (m_cat v = 1)) = true) ∧ m_do xs L 139 [vR o, a0, a1] h (m_cont xs L 177 pc r ls st Q) := U_invv (mj := 139) (av := [a1, a0]) rfl rfl rfl (Nat.le_of_ble_eq_true rfl)
set_option maxRecDepth 100000 in
theorem J_177_1163 : m_jmp 177 1163 (5) = b_177_1168 := rfl
set_option maxRecDepth 100000 in
theorem J_177_1170 : m_jmp 177 1170 (15) = b_177_1185 := rfl
set_option maxRecDepth 100000 in
theorem J_177_1180 : m_jmp 177 1180 (5) = b_177_1185 := rfl
set_option maxRecDepth 100000 in
theorem J_177_1185 : m_jmp 177 1185 (710) = b_177_1895 := rfl
theorem I_177_146 {a0 a1 a2 a3 : MV} : m_ok xs L 177 ((pc, .invokestatic 146) :: r) ls (a3 :: a2 :: a1 :: a0 :: st) h Q ↔ ((st.map m_cat).sum ≤ 8 ∧ [a3, a2, a1, a0].all (fun v => decide (m_cat v = 1)) = true) ∧ m_do xs L 168 [a0, a1, a2, a3] h (m_cont xs L 177 pc r ls st Q) := U_invs (mj := 168) (av := [a3, a2, a1, a0]) rfl rfl rfl (Nat.le_of_ble_eq_true rfl)
theorem I_177_148 {o : Nat} {a0 a1 : MV} : m_ok xs L 177 ((pc, .invokevirtual 148) :: r) ls (a1 :: a0 :: vR o :: st) h Q ↔ (m_tag h o = some 10 ∧ (st.map m_cat).sum ≤ 8 ∧ [a1, a0].all (fun v => decide (m_cat v = 1)) = true) ∧ m_do xs L 140 [vR o, a0, a1] h (m_cont xs L 177 pc r ls st Q) := U_invv (mj := 140) (av := [a1, a0]) rfl rfl rfl (Nat.le_of_ble_eq_true rfl)
set_option maxRecDepth 100000 in
theorem J_177_1231 : m_jmp 177 1231 (5) = b_177_1236 := rfl
set_option maxRecDepth 100000 in
theorem J_177_1238 : m_jmp 177 1238 (15) = b_177_1253 := rfl
set_option maxRecDepth 100000 in
theorem J_177_1248 : m_jmp 177 1248 (5) = b_177_1253 := rfl
set_option maxRecDepth 100000 in
theorem J_177_1253 : m_jmp 177 1253 (642) = b_177_1895 := rfl
theorem I_177_149 {a0 a1 a2 a3 a4 : MV} : m_ok xs L 177 ((pc, .invokestatic 149) :: r) ls (a4 :: a3 :: a2 :: a1 :: a0 :: st) h Q ↔ ((st.map m_cat).sum ≤ 8 ∧ [a4, a3, a2, a1, a0].all (fun v => decide (m_cat v = 1)) = true) ∧ m_do xs L 169 [a0, a1, a2, a3, a4] h (m_cont xs L 177 pc r ls st Q) := U_invs (mj := 169) (av := [a4, a3, a2, a1, a0]) rfl rfl rfl (Nat.le_of_ble_eq_true rfl)
theorem I_177_151 {o : Nat} {a0 a1 a2 : MV} : m_ok xs L 177 ((pc, .invokevirtual 151) :: r) ls (a2 :: a1 :: a0 :: vR o :: st) h Q ↔ (m_tag h o = some 10 ∧ (st.map m_cat).sum ≤ 8 ∧ [a2, a1, a0].all (fun v => decide (m_cat v = 1)) = true) ∧ m_do xs L 141 [vR o, a0, a1, a2] h (m_cont xs L 177 pc r ls st Q) := U_invv (mj := 141) (av := [a2, a1, a0]) rfl rfl rfl (Nat.le_of_ble_eq_true rfl)
set_option maxRecDepth 100000 in
theorem J_177_1311 : m_jmp 177 1311 (5) = b_177_1316 := rfl
set_option maxRecDepth 100000 in
theorem J_177_1318 : m_jmp 177 1318 (15) = b_177_1333 := rfl
set_option maxRecDepth 100000 in
theorem J_177_1328 : m_jmp 177 1328 (5) = b_177_1333 := rfl
set_option maxRecDepth 100000 in
theorem J_177_1333 : m_jmp 177 1333 (562) = b_177_1895 := rfl
theorem I_177_152 {a0 a1 a2 a3 : MV} : m_ok xs L 177 ((pc, .invokestatic 152) :: r) ls (a3 :: a2 :: a1 :: a0 :: st) h Q ↔ ((st.map m_cat).sum ≤ 8 ∧ [a3, a2, a1, a0].all (fun v => decide (m_cat v = 1)) = true) ∧ m_do xs L 170 [a0, a1, a2, a3] h (m_cont xs L 177 pc r ls st Q) := U_invs (mj := 170) (av := [a3, a2, a1, a0]) rfl rfl rfl (Nat.le_of_ble_eq_true rfl)
theorem I_177_155 {o : Nat} {a0 a1 : MV} : m_ok xs L 177 ((pc, .invokevirtual 155) :: r) ls (a1 :: a0 :: vR o :: st) h Q ↔ (m_tag h o = some 10 ∧ (st.map m_cat).sum ≤ 8 ∧ [a1, a0].all (fun v => decide (m_cat v = 1)) = true) ∧ m_do xs L 142 [vR o, a0, a1] h (m_cont xs L 177 pc r ls st Q) := U_invv (mj := 142) (av := [a1, a0]) rfl rfl rfl (Nat.le_of_ble_eq_true rfl)
set_option maxRecDepth 100000 in
theorem J_177_1380 : m_jmp 177 1380 (5) = b_177_1385 := rfl
set_option maxRecDepth 100000 in
theorem J_177_1387 : m_jmp 177 1387 (36) = b_177_1423 := rfl
set_option maxRecDepth 100000 in
theorem J_177_1398 : m_jmp 177 1398 (25) = b_177_1423 := rfl
set_option maxRecDepth 100000 in
theorem J_177_1410 : m_jmp 177 1410 (11) = b_177_1421 := rfl
set_option maxRecDepth 100000 in
theorem J_177_1418 : m_jmp 177 1418 (5) = b_177_1423 := rfl
set_option maxRecDepth 100000 in
theorem J_177_1423 : m_jmp 177 1423 (472) = b_177_1895 := rfl
theorem I_177_156 {a0 a1 a2 a3 : MV} : m_ok xs L 177 ((pc, .invokestatic 156) :: r) ls (a3 :: a2 :: a1 :: a0 :: st) h Q ↔ ((st.map m_cat).sum ≤ 8 ∧ [a3, a2, a1, a0].all (fun v => decide (m_cat v = 1)) = true) ∧ m_do xs L 171 [a0, a1, a2, a3] h (m_cont xs L 177 pc r ls st Q) := U_invs (mj := 171) (av := [a3, a2, a1, a0]) rfl rfl rfl (Nat.le_of_ble_eq_true rfl)
theorem I_177_158 {o : Nat} {a0 a1 : MV} : m_ok xs L 177 ((pc, .invokevirtual 158) :: r) ls (a1 :: a0 :: vR o :: st) h Q ↔ (m_tag h o = some 10 ∧ (st.map m_cat).sum ≤ 8 ∧ [a1, a0].all (fun v => decide (m_cat v = 1)) = true) ∧ m_do xs L 143 [vR o, a0, a1] h (m_cont xs L 177 pc r ls st Q) := U_invv (mj := 143) (av := [a1, a0]) rfl rfl rfl (Nat.le_of_ble_eq_true rfl)
set_option maxRecDepth 100000 in
theorem J_177_1469 : m_jmp 177 1469 (5) = b_177_1474 := rfl
set_option maxRecDepth 100000 in
theorem J_177_1476 : m_jmp 177 1476 (15) = b_177_1491 := rfl
set_option maxRecDepth 100000 in
theorem J_177_1486 : m_jmp 177 1486 (5) = b_177_1491 := rfl
set_option maxRecDepth 100000 in
theorem J_177_1491 : m_jmp 177 1491 (404) = b_177_1895 := rfl
theorem I_177_159 {a0 a1 a2 a3 : MV} : m_ok xs L 177 ((pc, .invokestatic 159) :: r) ls (a3 :: a2 :: a1 :: a0 :: st) h Q ↔ ((st.map m_cat).sum ≤ 8 ∧ [a3, a2, a1, a0].all (fun v => decide (m_cat v = 1)) = true) ∧ m_do xs L 172 [a0, a1, a2, a3] h (m_cont xs L 177 pc r ls st Q) := U_invs (mj := 172) (av := [a3, a2, a1, a0]) rfl rfl rfl (Nat.le_of_ble_eq_true rfl)
theorem I_177_161 {o : Nat} {a0 a1 : MV} : m_ok xs L 177 ((pc, .invokevirtual 161) :: r) ls (a1 :: a0 :: vR o :: st) h Q ↔ (m_tag h o = some 10 ∧ (st.map m_cat).sum ≤ 8 ∧ [a1, a0].all (fun v => decide (m_cat v = 1)) = true) ∧ m_do xs L 146 [vR o, a0, a1] h (m_cont xs L 177 pc r ls st Q) := U_invv (mj := 146) (av := [a1, a0]) rfl rfl rfl (Nat.le_of_ble_eq_true rfl)
set_option maxRecDepth 100000 in
theorem J_177_1537 : m_jmp 177 1537 (5) = b_177_1542 := rfl
set_option maxRecDepth 100000 in
theorem J_177_1544 : m_jmp 177 1544 (15) = b_177_1559 := rfl
set_option maxRecDepth 100000 in
theorem J_177_1554 : m_jmp 177 1554 (5) = b_177_1559 := rfl
set_option maxRecDepth 100000 in
theorem J_177_1559 : m_jmp 177 1559 (336) = b_177_1895 := rfl
theorem I_177_162 {o : Nat} : m_ok xs L 177 ((pc, .invokevirtual 162) :: r) ls (vR o :: st) h Q ↔ (m_tag h o = some 9 ∧ (st.map m_cat).sum ≤ 8 ∧ [].all (fun v => decide (m_cat v = 1)) = true) ∧ m_do xs L 82 [vR o] h (m_cont xs L 177 pc r ls st Q) := U_invv (mj := 82) (av := []) rfl rfl rfl (Nat.le_of_ble_eq_true rfl)
theorem I_177_165 {o : Nat} : m_ok xs L 177 ((pc, .invokevirtual 165) :: r) ls (vR o :: st) h Q ↔ (m_tag h o = some 10 ∧ (st.map m_cat).sum ≤ 8 ∧ [].all (fun v => decide (m_cat v = 1)) = true) ∧ m_do xs L 147 [vR o] h (m_cont xs L 177 pc r ls st Q) := U_invv (mj := 147) (av := []) rfl rfl rfl (Nat.le_of_ble_eq_true rfl)
set_option maxRecDepth 100000 in
theorem J_177_1570 : m_jmp 177 1570 (325) = b_177_1895 := rfl
theorem I_177_166 {a0 a1 a2 : MV} : m_ok xs L 177 ((pc, .invokestatic 166) :: r) ls (a2 :: a1 :: a0 :: st) h Q ↔ ((st.map m_cat).sum ≤ 8 ∧ [a2, a1, a0].all (fun v => decide (m_cat v = 1)) = true) ∧ m_do xs L 173 [a0, a1, a2] h (m_cont xs L 177 pc r ls st Q) := U_invs (mj := 173) (av := [a2, a1, a0]) rfl rfl rfl (Nat.le_of_ble_eq_true rfl)
theorem I_177_168 {o : Nat} {a0 : MV} : m_ok xs L 177 ((pc, .invokevirtual 168) :: r) ls (a0 :: vR o :: st) h Q ↔ (m_tag h o = some 10 ∧ (st.map m_cat).sum ≤ 8 ∧ [a0].all (fun v => decide (m_cat v = 1)) = true) ∧ m_do xs L 148 [vR o, a0] h (m_cont xs L 177 pc r ls st Q) := U_invv (mj := 148) (av := [a0]) rfl rfl rfl (Nat.le_of_ble_eq_true rfl)
set_option maxRecDepth 100000 in
theorem J_177_1606 : m_jmp 177 1606 (5) = b_177_1611 := rfl
set_option maxRecDepth 100000 in
theorem J_177_1613 : m_jmp 177 1613 (15) = b_177_1628 := rfl
set_option maxRecDepth 100000 in
theorem J_177_1623 : m_jmp 177 1623 (5) = b_177_1628 := rfl
set_option maxRecDepth 100000 in
theorem J_177_1628 : m_jmp 177 1628 (267) = b_177_1895 := rfl
theorem I_177_169 {a0 a1 a2 a3 : MV} : m_ok xs L 177 ((pc, .invokestatic 169) :: r) ls (a3 :: a2 :: a1 :: a0 :: st) h Q ↔ ((st.map m_cat).sum ≤ 8 ∧ [a3, a2, a1, a0].all (fun v => decide (m_cat v = 1)) = true) ∧ m_do xs L 174 [a0, a1, a2, a3] h (m_cont xs L 177 pc r ls st Q) := U_invs (mj := 174) (av := [a3, a2, a1, a0]) rfl rfl rfl (Nat.le_of_ble_eq_true rfl)
theorem I_177_171 {o : Nat} {a0 a1 : MV} : m_ok xs L 177 ((pc, .invokevirtual 171) :: r) ls (a1 :: a0 :: vR o :: st) h Q ↔ (m_tag h o = some 10 ∧ (st.map m_cat).sum ≤ 8 ∧ [a1, a0].all (fun v => decide (m_cat v = 1)) = true) ∧ m_do xs L 149 [vR o, a0, a1] h (m_cont xs L 177 pc r ls st Q) := U_invv (mj := 149) (av := [a1, a0]) rfl rfl rfl (Nat.le_of_ble_eq_true rfl)
set_option maxRecDepth 100000 in
theorem J_177_1674 : m_jmp 177 1674 (5) = b_177_1679 := rfl
set_option maxRecDepth 100000 in
theorem J_177_1681 : m_jmp 177 1681 (15) = b_177_1696 := rfl
set_option maxRecDepth 100000 in
theorem J_177_1691 : m_jmp 177 1691 (5) = b_177_1696 := rfl
set_option maxRecDepth 100000 in
theorem J_177_1696 : m_jmp 177 1696 (199) = b_177_1895 := rfl
theorem I_177_172 {a0 a1 a2 a3 a4 : MV} : m_ok xs L 177 ((pc, .invokestatic 172) :: r) ls (a4 :: a3 :: a2 :: a1 :: a0 :: st) h Q ↔ ((st.map m_cat).sum ≤ 8 ∧ [a4, a3, a2, a1, a0].all (fun v => decide (m_cat v = 1)) = true) ∧ m_do xs L 175 [a0, a1, a2, a3, a4] h (m_cont xs L 177 pc r ls st Q) := U_invs (mj := 175) (av := [a4, a3, a2, a1, a0]) rfl rfl rfl (Nat.le_of_ble_eq_true rfl)
theorem I_177_174 {o : Nat} {a0 a1 a2 : MV} : m_ok xs L 177 ((pc, .invokevirtual 174) :: r) ls (a2 :: a1 :: a0 :: vR o :: st) h Q ↔ (m_tag h o = some 10 ∧ (st.map m_cat).sum ≤ 8 ∧ [a2, a1, a0].all (fun v => decide (m_cat v = 1)) = true) ∧ m_do xs L 150 [vR o, a0, a1, a2] h (m_cont xs L 177 pc r ls st Q) := U_invv (mj := 150) (av := [a2, a1, a0]) rfl rfl rfl (Nat.le_of_ble_eq_true rfl)
set_option maxRecDepth 100000 in
theorem J_177_1754 : m_jmp 177 1754 (5) = b_177_1759 := rfl
set_option maxRecDepth 100000 in
theorem J_177_1761 : m_jmp 177 1761 (15) = b_177_1776 := rfl
set_option maxRecDepth 100000 in
theorem J_177_1771 : m_jmp 177 1771 (5) = b_177_1776 := rfl
set_option maxRecDepth 100000 in
theorem J_177_1776 : m_jmp 177 1776 (119) = b_177_1895 := rfl
set_option maxRecDepth 100000 in
theorem J_177_1792 : m_jmp 177 1792 (7) = b_177_1799 := rfl
set_option maxRecDepth 100000 in
theorem J_177_1796 : m_jmp 177 1796 (4) = b_177_1800 := rfl
theorem I_177_175 {a0 a1 a2 a3 a4 : MV} : m_ok xs L 177 ((pc, .invokestatic 175) :: r) ls (a4 :: a3 :: a2 :: a1 :: a0 :: st) h Q ↔ ((st.map m_cat).sum ≤ 8 ∧ [a4, a3, a2, a1, a0].all (fun v => decide (m_cat v = 1)) = true) ∧ m_do xs L 176 [a0, a1, a2, a3, a4] h (m_cont xs L 177 pc r ls st Q) := U_invs (mj := 176) (av := [a4, a3, a2, a1, a0]) rfl rfl rfl (Nat.le_of_ble_eq_true rfl)
set_option maxRecDepth 100000 in
theorem J_177_1825 : m_jmp 177 1825 (7) = b_177_1832 := rfl
set_option maxRecDepth 100000 in
theorem J_177_1829 : m_jmp 177 1829 (4) = b_177_1833 := rfl
theorem I_177_178 {o : Nat} {a0 a1 a2 : MV} : m_ok xs L 177 ((pc, .invokevirtual 178) :: r) ls (a2 :: a1 :: a0 :: vR o :: st) h Q ↔ (m_tag h o = some 10 ∧ (st.map m_cat).sum ≤ 8 ∧ [a2, a1, a0].all (fun v => decide (m_cat v = 1)) = true) ∧ m_do xs L 151 [vR o, a0, a1, a2] h (m_cont xs L 177 pc r ls st Q) := U_invv (mj := 151) (av := [a2, a1, a0]) rfl rfl rfl (Nat.le_of_ble_eq_true rfl)
set_option maxRecDepth 100000 in
theorem J_177_1850 : m_jmp 177 1850 (5) = b_177_1855 := rfl
set_option maxRecDepth 100000 in
theorem J_177_1857 : m_jmp 177 1857 (22) = b_177_1879 := rfl
set_option maxRecDepth 100000 in
theorem J_177_1865 : m_jmp 177 1865 (7) = b_177_1872 := rfl
set_option maxRecDepth 100000 in
theorem J_177_1869 : m_jmp 177 1869 (4) = b_177_1873 := rfl
set_option maxRecDepth 100000 in
theorem J_177_1874 : m_jmp 177 1874 (5) = b_177_1879 := rfl
set_option maxRecDepth 100000 in
theorem J_177_1879 : m_jmp 177 1879 (16) = b_177_1895 := rfl
theorem I_177_179 {o : Nat} : m_ok xs L 177 ((pc, .invokevirtual 179) :: r) ls (vR o :: st) h Q ↔ (m_tag h o = some 9 ∧ (st.map m_cat).sum ≤ 8 ∧ [].all (fun v => decide (m_cat v = 1)) = true) ∧ m_do xs L 87 [vR o] h (m_cont xs L 177 pc r ls st Q) := U_invv (mj := 87) (av := []) rfl rfl rfl (Nat.le_of_ble_eq_true rfl)
theorem I_177_182 {o : Nat} : m_ok xs L 177 ((pc, .invokevirtual 182) :: r) ls (vR o :: st) h Q ↔ (m_tag h o = some 10 ∧ (st.map m_cat).sum ≤ 8 ∧ [].all (fun v => decide (m_cat v = 1)) = true) ∧ m_do xs L 152 [vR o] h (m_cont xs L 177 pc r ls st Q) := U_invv (mj := 152) (av := []) rfl rfl rfl (Nat.le_of_ble_eq_true rfl)
set_option maxRecDepth 100000 in
theorem J_177_1890 : m_jmp 177 1890 (5) = b_177_1895 := rfl
set_option maxRecDepth 100000 in
theorem J_177_1898 : m_jmp 177 1898 (-1870) = b_177_28 := rfl
end V
