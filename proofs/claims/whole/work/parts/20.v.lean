/-! ===== an instruction at the head of the code, rewritten ===== -/
theorem m_step_free {xs ys : Nat → Int32} {L mi : Nat} {c : MCfg} {a : MAct} (hs : m_step xs 0 mi c = some a) : m_step ys L mi c = some a := by
  obtain ⟨cd, ls, st, h⟩ := c
  cases cd with
  | nil => exact hs
  | cons x r =>
    obtain ⟨pc, i⟩ := x
    cases i <;> first | exact hs | skip
    case cons.iaload =>
      simp only [m_step, m_act, m_iald] at hs ⊢
      split at hs
      · exact hs
      · rename_i z hz
        rw [if_neg (by omega)] at hs
        cases hs
      · cases hs
    case cons.arraylength =>
      simp only [m_step, m_act, m_alen] at hs ⊢
      split at hs
      · exact hs
      · rw [if_neg (by omega)] at hs
        cases hs
      · cases hs
    case cons.newarray t => cases t <;> exact hs
theorem m_run_free {xs ys : Nat → Int32} {L : Nat} : ∀ {n mi : Nat} {c : MCfg} {o : MOut × MHp}, m_run xs 0 n mi c = some o → m_run ys L n mi c = some o
  | 0, _, _, _, h => by cases h
  | n + 1, mi, c, o, h => by
    rw [m_run_succ] at h ⊢
    unfold m_stepF at h ⊢
    cases hs : m_step xs 0 mi c with
    | none => rw [hs] at h; cases h
    | some a =>
      rw [hs] at h
      rw [m_step_free hs]
      rcases a with c2 | ⟨q, c2, pc⟩ | o2
      · exact m_run_free h
      · simp only at h ⊢
        cases hq : m_run xs 0 n q.1 (m_entry q.1 q.2 c2.2.2.2) with
        | none => rw [hq] at h; cases h
        | some o1 =>
          rw [hq] at h
          rw [m_run_free hq]
          exact m_back_mono (fun _ _ _ => m_run_free) h
      · exact h
section V
variable {xs : Nat → Int32} {L mi pc : Nat} {r : MCode} {ls st : List MV} {h : MHp} {Q : MOut → MHp → Prop}
theorem m_istore_eq {k : Nat} {a : Int} (hk : k < ls.length) : m_istore k r ls (vI a :: st) h = m_nx r (ls.set k (vI a)) st h := by
  simp only [m_istore, if_pos hk]
theorem m_astore_eq {k : Nat} {a : Nat} (hk : k < ls.length) : m_astore k r ls (vR a :: st) h = m_nx r (ls.set k (vR a)) st h := by
  simp only [m_astore, if_pos hk]
theorem m_fstore_eq {k : Nat} {a : UInt32} (hk : k < ls.length) : m_fstore k r ls (vF a :: st) h = m_nx r (ls.set k (vF a)) st h := by
  simp only [m_fstore, if_pos hk]
theorem V_iconst {n : Int} : m_ok xs L mi ((pc, .iconst n) :: r) ls st h Q ↔ (-2147483648 ≤ n ∧ n < 2147483648) ∧ m_ok xs L mi r ls (vI n :: st) h Q := by
  rw [m_ok_step]
  simp only [m_step, m_act, m_inD, decide_eq_true_eq, m_nx]
  split
  · rename_i hc; exact ⟨fun k => ⟨hc, k⟩, fun k => k.2⟩
  · rename_i hc; exact ⟨fun k => k.elim, fun k => absurd k.1 hc⟩
theorem V_bipush {n : Int} : m_ok xs L mi ((pc, .bipush n) :: r) ls st h Q ↔ (-128 ≤ n ∧ n < 128) ∧ m_ok xs L mi r ls (vI n :: st) h Q := by
  rw [m_ok_step]
  simp only [m_step, m_act, m_nx]
  split
  · rename_i hc; exact ⟨fun k => ⟨hc, k⟩, fun k => k.2⟩
  · rename_i hc; exact ⟨fun k => k.elim, fun k => absurd k.1 hc⟩
theorem V_sipush {n : Int} : m_ok xs L mi ((pc, .sipush n) :: r) ls st h Q ↔ (-32768 ≤ n ∧ n < 32768) ∧ m_ok xs L mi r ls (vI n :: st) h Q := by
  rw [m_ok_step]
  simp only [m_step, m_act, m_nx]
  split
  · rename_i hc; exact ⟨fun k => ⟨hc, k⟩, fun k => k.2⟩
  · rename_i hc; exact ⟨fun k => k.elim, fun k => absurd k.1 hc⟩
theorem V_lconst {k : Fin 2} : m_ok xs L mi ((pc, .lconst k) :: r) ls st h Q ↔ m_ok xs L mi r ls (vL (Int64.ofNat k) :: st) h Q := m_ok_step
theorem V_fconst : m_ok xs L mi ((pc, .fconst 0) :: r) ls st h Q ↔ m_ok xs L mi r ls (vF 0 :: st) h Q := m_ok_step
theorem V_ldc {k : Nat} {v : MV} (hk : lR (m_own mi) k = some v) : m_ok xs L mi ((pc, .ldc k) :: r) ls st h Q ↔ m_ok xs L mi r ls (v :: st) h Q := by
  rw [m_ok_step]
  simp only [m_step, m_act, hk, m_ld, m_nx, m_go]
theorem V_ldc_w {k : Nat} {v : MV} (hk : lR (m_own mi) k = some v) : m_ok xs L mi ((pc, .ldc_w k) :: r) ls st h Q ↔ m_ok xs L mi r ls (v :: st) h Q := by
  rw [m_ok_step]
  simp only [m_step, m_act, hk, m_ld, m_nx, m_go]
theorem V_iloadn0 {a : Int} : m_ok xs L mi ((pc, .iload_n 0) :: r) (vI a :: ls) st h Q ↔ m_ok xs L mi r (vI a :: ls) (vI a :: st) h Q := m_ok_step
theorem V_aloadn0 {a : Nat} : m_ok xs L mi ((pc, .aload_n 0) :: r) (vR a :: ls) st h Q ↔ m_ok xs L mi r (vR a :: ls) (vR a :: st) h Q := m_ok_step
theorem V_sloadn0 : m_ok xs L mi ((pc, .aload_n 0) :: r) (vS :: ls) st h Q ↔ m_ok xs L mi r (vS :: ls) (vS :: st) h Q := m_ok_step
theorem V_floadn0 {a : UInt32} : m_ok xs L mi ((pc, .fload_n 0) :: r) (vF a :: ls) st h Q ↔ m_ok xs L mi r (vF a :: ls) (vF a :: st) h Q := m_ok_step
theorem V_istoren0 {v : MV} {a : Int} : m_ok xs L mi ((pc, .istore_n 0) :: r) (v :: ls) (vI a :: st) h Q ↔ m_ok xs L mi r (vI a :: ls) st h Q := m_ok_step.trans (iff_of_eq (congrArg (m_go xs L mi Q) (m_istore_eq (k := 0) (r := r) (ls := (v :: ls)) (a := a) (st := st) (h := h) (by simp only [List.length_cons]; omega))))
theorem V_astoren0 {v : MV} {a : Nat} : m_ok xs L mi ((pc, .astore_n 0) :: r) (v :: ls) (vR a :: st) h Q ↔ m_ok xs L mi r (vR a :: ls) st h Q := m_ok_step.trans (iff_of_eq (congrArg (m_go xs L mi Q) (m_astore_eq (k := 0) (r := r) (ls := (v :: ls)) (a := a) (st := st) (h := h) (by simp only [List.length_cons]; omega))))
theorem V_fstoren0 {v : MV} {a : UInt32} : m_ok xs L mi ((pc, .fstore_n 0) :: r) (v :: ls) (vF a :: st) h Q ↔ m_ok xs L mi r (vF a :: ls) st h Q := m_ok_step.trans (iff_of_eq (congrArg (m_go xs L mi Q) (m_fstore_eq (k := 0) (r := r) (ls := (v :: ls)) (a := a) (st := st) (h := h) (by simp only [List.length_cons]; omega))))
theorem V_iload0 {a : Int} : m_ok xs L mi ((pc, .iload 0) :: r) (vI a :: ls) st h Q ↔ m_ok xs L mi r (vI a :: ls) (vI a :: st) h Q := m_ok_step
theorem V_aload0 {a : Nat} : m_ok xs L mi ((pc, .aload 0) :: r) (vR a :: ls) st h Q ↔ m_ok xs L mi r (vR a :: ls) (vR a :: st) h Q := m_ok_step
theorem V_sload0 : m_ok xs L mi ((pc, .aload 0) :: r) (vS :: ls) st h Q ↔ m_ok xs L mi r (vS :: ls) (vS :: st) h Q := m_ok_step
theorem V_fload0 {a : UInt32} : m_ok xs L mi ((pc, .fload 0) :: r) (vF a :: ls) st h Q ↔ m_ok xs L mi r (vF a :: ls) (vF a :: st) h Q := m_ok_step
theorem V_istore0 {v : MV} {a : Int} : m_ok xs L mi ((pc, .istore 0) :: r) (v :: ls) (vI a :: st) h Q ↔ m_ok xs L mi r (vI a :: ls) st h Q := m_ok_step.trans (iff_of_eq (congrArg (m_go xs L mi Q) (m_istore_eq (k := 0) (r := r) (ls := (v :: ls)) (a := a) (st := st) (h := h) (by simp only [List.length_cons]; omega))))
theorem V_astore0 {v : MV} {a : Nat} : m_ok xs L mi ((pc, .astore 0) :: r) (v :: ls) (vR a :: st) h Q ↔ m_ok xs L mi r (vR a :: ls) st h Q := m_ok_step.trans (iff_of_eq (congrArg (m_go xs L mi Q) (m_astore_eq (k := 0) (r := r) (ls := (v :: ls)) (a := a) (st := st) (h := h) (by simp only [List.length_cons]; omega))))
theorem V_fstore0 {v : MV} {a : UInt32} : m_ok xs L mi ((pc, .fstore 0) :: r) (v :: ls) (vF a :: st) h Q ↔ m_ok xs L mi r (vF a :: ls) st h Q := m_ok_step.trans (iff_of_eq (congrArg (m_go xs L mi Q) (m_fstore_eq (k := 0) (r := r) (ls := (v :: ls)) (a := a) (st := st) (h := h) (by simp only [List.length_cons]; omega))))
theorem V_iinc0 {a n : Int} : m_ok xs L mi ((pc, .iinc 0 n) :: r) (vI a :: ls) st h Q ↔ m_ok xs L mi r (vI (m_add a n) :: ls) st h Q := m_ok_step
theorem V_iloadn1 {v0 : MV} {a : Int} : m_ok xs L mi ((pc, .iload_n 1) :: r) (v0 :: vI a :: ls) st h Q ↔ m_ok xs L mi r (v0 :: vI a :: ls) (vI a :: st) h Q := m_ok_step
theorem V_aloadn1 {v0 : MV} {a : Nat} : m_ok xs L mi ((pc, .aload_n 1) :: r) (v0 :: vR a :: ls) st h Q ↔ m_ok xs L mi r (v0 :: vR a :: ls) (vR a :: st) h Q := m_ok_step
theorem V_floadn1 {v0 : MV} {a : UInt32} : m_ok xs L mi ((pc, .fload_n 1) :: r) (v0 :: vF a :: ls) st h Q ↔ m_ok xs L mi r (v0 :: vF a :: ls) (vF a :: st) h Q := m_ok_step
theorem V_istoren1 {v0 : MV} {v : MV} {a : Int} : m_ok xs L mi ((pc, .istore_n 1) :: r) (v0 :: v :: ls) (vI a :: st) h Q ↔ m_ok xs L mi r (v0 :: vI a :: ls) st h Q := m_ok_step.trans (iff_of_eq (congrArg (m_go xs L mi Q) (m_istore_eq (k := 1) (r := r) (ls := (v0 :: v :: ls)) (a := a) (st := st) (h := h) (by simp only [List.length_cons]; omega))))
theorem V_astoren1 {v0 : MV} {v : MV} {a : Nat} : m_ok xs L mi ((pc, .astore_n 1) :: r) (v0 :: v :: ls) (vR a :: st) h Q ↔ m_ok xs L mi r (v0 :: vR a :: ls) st h Q := m_ok_step.trans (iff_of_eq (congrArg (m_go xs L mi Q) (m_astore_eq (k := 1) (r := r) (ls := (v0 :: v :: ls)) (a := a) (st := st) (h := h) (by simp only [List.length_cons]; omega))))
theorem V_fstoren1 {v0 : MV} {v : MV} {a : UInt32} : m_ok xs L mi ((pc, .fstore_n 1) :: r) (v0 :: v :: ls) (vF a :: st) h Q ↔ m_ok xs L mi r (v0 :: vF a :: ls) st h Q := m_ok_step.trans (iff_of_eq (congrArg (m_go xs L mi Q) (m_fstore_eq (k := 1) (r := r) (ls := (v0 :: v :: ls)) (a := a) (st := st) (h := h) (by simp only [List.length_cons]; omega))))
theorem V_iload1 {v0 : MV} {a : Int} : m_ok xs L mi ((pc, .iload 1) :: r) (v0 :: vI a :: ls) st h Q ↔ m_ok xs L mi r (v0 :: vI a :: ls) (vI a :: st) h Q := m_ok_step
theorem V_aload1 {v0 : MV} {a : Nat} : m_ok xs L mi ((pc, .aload 1) :: r) (v0 :: vR a :: ls) st h Q ↔ m_ok xs L mi r (v0 :: vR a :: ls) (vR a :: st) h Q := m_ok_step
theorem V_fload1 {v0 : MV} {a : UInt32} : m_ok xs L mi ((pc, .fload 1) :: r) (v0 :: vF a :: ls) st h Q ↔ m_ok xs L mi r (v0 :: vF a :: ls) (vF a :: st) h Q := m_ok_step
theorem V_istore1 {v0 : MV} {v : MV} {a : Int} : m_ok xs L mi ((pc, .istore 1) :: r) (v0 :: v :: ls) (vI a :: st) h Q ↔ m_ok xs L mi r (v0 :: vI a :: ls) st h Q := m_ok_step.trans (iff_of_eq (congrArg (m_go xs L mi Q) (m_istore_eq (k := 1) (r := r) (ls := (v0 :: v :: ls)) (a := a) (st := st) (h := h) (by simp only [List.length_cons]; omega))))
theorem V_astore1 {v0 : MV} {v : MV} {a : Nat} : m_ok xs L mi ((pc, .astore 1) :: r) (v0 :: v :: ls) (vR a :: st) h Q ↔ m_ok xs L mi r (v0 :: vR a :: ls) st h Q := m_ok_step.trans (iff_of_eq (congrArg (m_go xs L mi Q) (m_astore_eq (k := 1) (r := r) (ls := (v0 :: v :: ls)) (a := a) (st := st) (h := h) (by simp only [List.length_cons]; omega))))
theorem V_fstore1 {v0 : MV} {v : MV} {a : UInt32} : m_ok xs L mi ((pc, .fstore 1) :: r) (v0 :: v :: ls) (vF a :: st) h Q ↔ m_ok xs L mi r (v0 :: vF a :: ls) st h Q := m_ok_step.trans (iff_of_eq (congrArg (m_go xs L mi Q) (m_fstore_eq (k := 1) (r := r) (ls := (v0 :: v :: ls)) (a := a) (st := st) (h := h) (by simp only [List.length_cons]; omega))))
theorem V_iinc1 {v0 : MV} {a n : Int} : m_ok xs L mi ((pc, .iinc 1 n) :: r) (v0 :: vI a :: ls) st h Q ↔ m_ok xs L mi r (v0 :: vI (m_add a n) :: ls) st h Q := m_ok_step
theorem V_iloadn2 {v0 v1 : MV} {a : Int} : m_ok xs L mi ((pc, .iload_n 2) :: r) (v0 :: v1 :: vI a :: ls) st h Q ↔ m_ok xs L mi r (v0 :: v1 :: vI a :: ls) (vI a :: st) h Q := m_ok_step
theorem V_aloadn2 {v0 v1 : MV} {a : Nat} : m_ok xs L mi ((pc, .aload_n 2) :: r) (v0 :: v1 :: vR a :: ls) st h Q ↔ m_ok xs L mi r (v0 :: v1 :: vR a :: ls) (vR a :: st) h Q := m_ok_step
theorem V_floadn2 {v0 v1 : MV} {a : UInt32} : m_ok xs L mi ((pc, .fload_n 2) :: r) (v0 :: v1 :: vF a :: ls) st h Q ↔ m_ok xs L mi r (v0 :: v1 :: vF a :: ls) (vF a :: st) h Q := m_ok_step
theorem V_istoren2 {v0 v1 : MV} {v : MV} {a : Int} : m_ok xs L mi ((pc, .istore_n 2) :: r) (v0 :: v1 :: v :: ls) (vI a :: st) h Q ↔ m_ok xs L mi r (v0 :: v1 :: vI a :: ls) st h Q := m_ok_step.trans (iff_of_eq (congrArg (m_go xs L mi Q) (m_istore_eq (k := 2) (r := r) (ls := (v0 :: v1 :: v :: ls)) (a := a) (st := st) (h := h) (by simp only [List.length_cons]; omega))))
theorem V_astoren2 {v0 v1 : MV} {v : MV} {a : Nat} : m_ok xs L mi ((pc, .astore_n 2) :: r) (v0 :: v1 :: v :: ls) (vR a :: st) h Q ↔ m_ok xs L mi r (v0 :: v1 :: vR a :: ls) st h Q := m_ok_step.trans (iff_of_eq (congrArg (m_go xs L mi Q) (m_astore_eq (k := 2) (r := r) (ls := (v0 :: v1 :: v :: ls)) (a := a) (st := st) (h := h) (by simp only [List.length_cons]; omega))))
theorem V_fstoren2 {v0 v1 : MV} {v : MV} {a : UInt32} : m_ok xs L mi ((pc, .fstore_n 2) :: r) (v0 :: v1 :: v :: ls) (vF a :: st) h Q ↔ m_ok xs L mi r (v0 :: v1 :: vF a :: ls) st h Q := m_ok_step.trans (iff_of_eq (congrArg (m_go xs L mi Q) (m_fstore_eq (k := 2) (r := r) (ls := (v0 :: v1 :: v :: ls)) (a := a) (st := st) (h := h) (by simp only [List.length_cons]; omega))))
theorem V_iload2 {v0 v1 : MV} {a : Int} : m_ok xs L mi ((pc, .iload 2) :: r) (v0 :: v1 :: vI a :: ls) st h Q ↔ m_ok xs L mi r (v0 :: v1 :: vI a :: ls) (vI a :: st) h Q := m_ok_step
theorem V_aload2 {v0 v1 : MV} {a : Nat} : m_ok xs L mi ((pc, .aload 2) :: r) (v0 :: v1 :: vR a :: ls) st h Q ↔ m_ok xs L mi r (v0 :: v1 :: vR a :: ls) (vR a :: st) h Q := m_ok_step
theorem V_fload2 {v0 v1 : MV} {a : UInt32} : m_ok xs L mi ((pc, .fload 2) :: r) (v0 :: v1 :: vF a :: ls) st h Q ↔ m_ok xs L mi r (v0 :: v1 :: vF a :: ls) (vF a :: st) h Q := m_ok_step
theorem V_istore2 {v0 v1 : MV} {v : MV} {a : Int} : m_ok xs L mi ((pc, .istore 2) :: r) (v0 :: v1 :: v :: ls) (vI a :: st) h Q ↔ m_ok xs L mi r (v0 :: v1 :: vI a :: ls) st h Q := m_ok_step.trans (iff_of_eq (congrArg (m_go xs L mi Q) (m_istore_eq (k := 2) (r := r) (ls := (v0 :: v1 :: v :: ls)) (a := a) (st := st) (h := h) (by simp only [List.length_cons]; omega))))
theorem V_astore2 {v0 v1 : MV} {v : MV} {a : Nat} : m_ok xs L mi ((pc, .astore 2) :: r) (v0 :: v1 :: v :: ls) (vR a :: st) h Q ↔ m_ok xs L mi r (v0 :: v1 :: vR a :: ls) st h Q := m_ok_step.trans (iff_of_eq (congrArg (m_go xs L mi Q) (m_astore_eq (k := 2) (r := r) (ls := (v0 :: v1 :: v :: ls)) (a := a) (st := st) (h := h) (by simp only [List.length_cons]; omega))))
theorem V_fstore2 {v0 v1 : MV} {v : MV} {a : UInt32} : m_ok xs L mi ((pc, .fstore 2) :: r) (v0 :: v1 :: v :: ls) (vF a :: st) h Q ↔ m_ok xs L mi r (v0 :: v1 :: vF a :: ls) st h Q := m_ok_step.trans (iff_of_eq (congrArg (m_go xs L mi Q) (m_fstore_eq (k := 2) (r := r) (ls := (v0 :: v1 :: v :: ls)) (a := a) (st := st) (h := h) (by simp only [List.length_cons]; omega))))
theorem V_iinc2 {v0 v1 : MV} {a n : Int} : m_ok xs L mi ((pc, .iinc 2 n) :: r) (v0 :: v1 :: vI a :: ls) st h Q ↔ m_ok xs L mi r (v0 :: v1 :: vI (m_add a n) :: ls) st h Q := m_ok_step
theorem V_iloadn3 {v0 v1 v2 : MV} {a : Int} : m_ok xs L mi ((pc, .iload_n 3) :: r) (v0 :: v1 :: v2 :: vI a :: ls) st h Q ↔ m_ok xs L mi r (v0 :: v1 :: v2 :: vI a :: ls) (vI a :: st) h Q := m_ok_step
theorem V_aloadn3 {v0 v1 v2 : MV} {a : Nat} : m_ok xs L mi ((pc, .aload_n 3) :: r) (v0 :: v1 :: v2 :: vR a :: ls) st h Q ↔ m_ok xs L mi r (v0 :: v1 :: v2 :: vR a :: ls) (vR a :: st) h Q := m_ok_step
theorem V_floadn3 {v0 v1 v2 : MV} {a : UInt32} : m_ok xs L mi ((pc, .fload_n 3) :: r) (v0 :: v1 :: v2 :: vF a :: ls) st h Q ↔ m_ok xs L mi r (v0 :: v1 :: v2 :: vF a :: ls) (vF a :: st) h Q := m_ok_step
theorem V_istoren3 {v0 v1 v2 : MV} {v : MV} {a : Int} : m_ok xs L mi ((pc, .istore_n 3) :: r) (v0 :: v1 :: v2 :: v :: ls) (vI a :: st) h Q ↔ m_ok xs L mi r (v0 :: v1 :: v2 :: vI a :: ls) st h Q := m_ok_step.trans (iff_of_eq (congrArg (m_go xs L mi Q) (m_istore_eq (k := 3) (r := r) (ls := (v0 :: v1 :: v2 :: v :: ls)) (a := a) (st := st) (h := h) (by simp only [List.length_cons]; omega))))
theorem V_astoren3 {v0 v1 v2 : MV} {v : MV} {a : Nat} : m_ok xs L mi ((pc, .astore_n 3) :: r) (v0 :: v1 :: v2 :: v :: ls) (vR a :: st) h Q ↔ m_ok xs L mi r (v0 :: v1 :: v2 :: vR a :: ls) st h Q := m_ok_step.trans (iff_of_eq (congrArg (m_go xs L mi Q) (m_astore_eq (k := 3) (r := r) (ls := (v0 :: v1 :: v2 :: v :: ls)) (a := a) (st := st) (h := h) (by simp only [List.length_cons]; omega))))
theorem V_fstoren3 {v0 v1 v2 : MV} {v : MV} {a : UInt32} : m_ok xs L mi ((pc, .fstore_n 3) :: r) (v0 :: v1 :: v2 :: v :: ls) (vF a :: st) h Q ↔ m_ok xs L mi r (v0 :: v1 :: v2 :: vF a :: ls) st h Q := m_ok_step.trans (iff_of_eq (congrArg (m_go xs L mi Q) (m_fstore_eq (k := 3) (r := r) (ls := (v0 :: v1 :: v2 :: v :: ls)) (a := a) (st := st) (h := h) (by simp only [List.length_cons]; omega))))
theorem V_iload3 {v0 v1 v2 : MV} {a : Int} : m_ok xs L mi ((pc, .iload 3) :: r) (v0 :: v1 :: v2 :: vI a :: ls) st h Q ↔ m_ok xs L mi r (v0 :: v1 :: v2 :: vI a :: ls) (vI a :: st) h Q := m_ok_step
theorem V_aload3 {v0 v1 v2 : MV} {a : Nat} : m_ok xs L mi ((pc, .aload 3) :: r) (v0 :: v1 :: v2 :: vR a :: ls) st h Q ↔ m_ok xs L mi r (v0 :: v1 :: v2 :: vR a :: ls) (vR a :: st) h Q := m_ok_step
theorem V_fload3 {v0 v1 v2 : MV} {a : UInt32} : m_ok xs L mi ((pc, .fload 3) :: r) (v0 :: v1 :: v2 :: vF a :: ls) st h Q ↔ m_ok xs L mi r (v0 :: v1 :: v2 :: vF a :: ls) (vF a :: st) h Q := m_ok_step
theorem V_istore3 {v0 v1 v2 : MV} {v : MV} {a : Int} : m_ok xs L mi ((pc, .istore 3) :: r) (v0 :: v1 :: v2 :: v :: ls) (vI a :: st) h Q ↔ m_ok xs L mi r (v0 :: v1 :: v2 :: vI a :: ls) st h Q := m_ok_step.trans (iff_of_eq (congrArg (m_go xs L mi Q) (m_istore_eq (k := 3) (r := r) (ls := (v0 :: v1 :: v2 :: v :: ls)) (a := a) (st := st) (h := h) (by simp only [List.length_cons]; omega))))
theorem V_astore3 {v0 v1 v2 : MV} {v : MV} {a : Nat} : m_ok xs L mi ((pc, .astore 3) :: r) (v0 :: v1 :: v2 :: v :: ls) (vR a :: st) h Q ↔ m_ok xs L mi r (v0 :: v1 :: v2 :: vR a :: ls) st h Q := m_ok_step.trans (iff_of_eq (congrArg (m_go xs L mi Q) (m_astore_eq (k := 3) (r := r) (ls := (v0 :: v1 :: v2 :: v :: ls)) (a := a) (st := st) (h := h) (by simp only [List.length_cons]; omega))))
theorem V_fstore3 {v0 v1 v2 : MV} {v : MV} {a : UInt32} : m_ok xs L mi ((pc, .fstore 3) :: r) (v0 :: v1 :: v2 :: v :: ls) (vF a :: st) h Q ↔ m_ok xs L mi r (v0 :: v1 :: v2 :: vF a :: ls) st h Q := m_ok_step.trans (iff_of_eq (congrArg (m_go xs L mi Q) (m_fstore_eq (k := 3) (r := r) (ls := (v0 :: v1 :: v2 :: v :: ls)) (a := a) (st := st) (h := h) (by simp only [List.length_cons]; omega))))
theorem V_iinc3 {v0 v1 v2 : MV} {a n : Int} : m_ok xs L mi ((pc, .iinc 3 n) :: r) (v0 :: v1 :: v2 :: vI a :: ls) st h Q ↔ m_ok xs L mi r (v0 :: v1 :: v2 :: vI (m_add a n) :: ls) st h Q := m_ok_step
theorem V_iload4 {v0 v1 v2 v3 : MV} {a : Int} : m_ok xs L mi ((pc, .iload 4) :: r) (v0 :: v1 :: v2 :: v3 :: vI a :: ls) st h Q ↔ m_ok xs L mi r (v0 :: v1 :: v2 :: v3 :: vI a :: ls) (vI a :: st) h Q := m_ok_step
theorem V_aload4 {v0 v1 v2 v3 : MV} {a : Nat} : m_ok xs L mi ((pc, .aload 4) :: r) (v0 :: v1 :: v2 :: v3 :: vR a :: ls) st h Q ↔ m_ok xs L mi r (v0 :: v1 :: v2 :: v3 :: vR a :: ls) (vR a :: st) h Q := m_ok_step
theorem V_fload4 {v0 v1 v2 v3 : MV} {a : UInt32} : m_ok xs L mi ((pc, .fload 4) :: r) (v0 :: v1 :: v2 :: v3 :: vF a :: ls) st h Q ↔ m_ok xs L mi r (v0 :: v1 :: v2 :: v3 :: vF a :: ls) (vF a :: st) h Q := m_ok_step
theorem V_istore4 {v0 v1 v2 v3 : MV} {v : MV} {a : Int} : m_ok xs L mi ((pc, .istore 4) :: r) (v0 :: v1 :: v2 :: v3 :: v :: ls) (vI a :: st) h Q ↔ m_ok xs L mi r (v0 :: v1 :: v2 :: v3 :: vI a :: ls) st h Q := m_ok_step.trans (iff_of_eq (congrArg (m_go xs L mi Q) (m_istore_eq (k := 4) (r := r) (ls := (v0 :: v1 :: v2 :: v3 :: v :: ls)) (a := a) (st := st) (h := h) (by simp only [List.length_cons]; omega))))
theorem V_astore4 {v0 v1 v2 v3 : MV} {v : MV} {a : Nat} : m_ok xs L mi ((pc, .astore 4) :: r) (v0 :: v1 :: v2 :: v3 :: v :: ls) (vR a :: st) h Q ↔ m_ok xs L mi r (v0 :: v1 :: v2 :: v3 :: vR a :: ls) st h Q := m_ok_step.trans (iff_of_eq (congrArg (m_go xs L mi Q) (m_astore_eq (k := 4) (r := r) (ls := (v0 :: v1 :: v2 :: v3 :: v :: ls)) (a := a) (st := st) (h := h) (by simp only [List.length_cons]; omega))))
theorem V_fstore4 {v0 v1 v2 v3 : MV} {v : MV} {a : UInt32} : m_ok xs L mi ((pc, .fstore 4) :: r) (v0 :: v1 :: v2 :: v3 :: v :: ls) (vF a :: st) h Q ↔ m_ok xs L mi r (v0 :: v1 :: v2 :: v3 :: vF a :: ls) st h Q := m_ok_step.trans (iff_of_eq (congrArg (m_go xs L mi Q) (m_fstore_eq (k := 4) (r := r) (ls := (v0 :: v1 :: v2 :: v3 :: v :: ls)) (a := a) (st := st) (h := h) (by simp only [List.length_cons]; omega))))
theorem V_iinc4 {v0 v1 v2 v3 : MV} {a n : Int} : m_ok xs L mi ((pc, .iinc 4 n) :: r) (v0 :: v1 :: v2 :: v3 :: vI a :: ls) st h Q ↔ m_ok xs L mi r (v0 :: v1 :: v2 :: v3 :: vI (m_add a n) :: ls) st h Q := m_ok_step
theorem V_iload5 {v0 v1 v2 v3 v4 : MV} {a : Int} : m_ok xs L mi ((pc, .iload 5) :: r) (v0 :: v1 :: v2 :: v3 :: v4 :: vI a :: ls) st h Q ↔ m_ok xs L mi r (v0 :: v1 :: v2 :: v3 :: v4 :: vI a :: ls) (vI a :: st) h Q := m_ok_step
theorem V_aload5 {v0 v1 v2 v3 v4 : MV} {a : Nat} : m_ok xs L mi ((pc, .aload 5) :: r) (v0 :: v1 :: v2 :: v3 :: v4 :: vR a :: ls) st h Q ↔ m_ok xs L mi r (v0 :: v1 :: v2 :: v3 :: v4 :: vR a :: ls) (vR a :: st) h Q := m_ok_step
theorem V_istore5 {v0 v1 v2 v3 v4 : MV} {v : MV} {a : Int} : m_ok xs L mi ((pc, .istore 5) :: r) (v0 :: v1 :: v2 :: v3 :: v4 :: v :: ls) (vI a :: st) h Q ↔ m_ok xs L mi r (v0 :: v1 :: v2 :: v3 :: v4 :: vI a :: ls) st h Q := m_ok_step.trans (iff_of_eq (congrArg (m_go xs L mi Q) (m_istore_eq (k := 5) (r := r) (ls := (v0 :: v1 :: v2 :: v3 :: v4 :: v :: ls)) (a := a) (st := st) (h := h) (by simp only [List.length_cons]; omega))))
theorem V_astore5 {v0 v1 v2 v3 v4 : MV} {v : MV} {a : Nat} : m_ok xs L mi ((pc, .astore 5) :: r) (v0 :: v1 :: v2 :: v3 :: v4 :: v :: ls) (vR a :: st) h Q ↔ m_ok xs L mi r (v0 :: v1 :: v2 :: v3 :: v4 :: vR a :: ls) st h Q := m_ok_step.trans (iff_of_eq (congrArg (m_go xs L mi Q) (m_astore_eq (k := 5) (r := r) (ls := (v0 :: v1 :: v2 :: v3 :: v4 :: v :: ls)) (a := a) (st := st) (h := h) (by simp only [List.length_cons]; omega))))
theorem V_iinc5 {v0 v1 v2 v3 v4 : MV} {a n : Int} : m_ok xs L mi ((pc, .iinc 5 n) :: r) (v0 :: v1 :: v2 :: v3 :: v4 :: vI a :: ls) st h Q ↔ m_ok xs L mi r (v0 :: v1 :: v2 :: v3 :: v4 :: vI (m_add a n) :: ls) st h Q := m_ok_step
theorem V_iload6 {v0 v1 v2 v3 v4 v5 : MV} {a : Int} : m_ok xs L mi ((pc, .iload 6) :: r) (v0 :: v1 :: v2 :: v3 :: v4 :: v5 :: vI a :: ls) st h Q ↔ m_ok xs L mi r (v0 :: v1 :: v2 :: v3 :: v4 :: v5 :: vI a :: ls) (vI a :: st) h Q := m_ok_step
theorem V_aload6 {v0 v1 v2 v3 v4 v5 : MV} {a : Nat} : m_ok xs L mi ((pc, .aload 6) :: r) (v0 :: v1 :: v2 :: v3 :: v4 :: v5 :: vR a :: ls) st h Q ↔ m_ok xs L mi r (v0 :: v1 :: v2 :: v3 :: v4 :: v5 :: vR a :: ls) (vR a :: st) h Q := m_ok_step
theorem V_istore6 {v0 v1 v2 v3 v4 v5 : MV} {v : MV} {a : Int} : m_ok xs L mi ((pc, .istore 6) :: r) (v0 :: v1 :: v2 :: v3 :: v4 :: v5 :: v :: ls) (vI a :: st) h Q ↔ m_ok xs L mi r (v0 :: v1 :: v2 :: v3 :: v4 :: v5 :: vI a :: ls) st h Q := m_ok_step.trans (iff_of_eq (congrArg (m_go xs L mi Q) (m_istore_eq (k := 6) (r := r) (ls := (v0 :: v1 :: v2 :: v3 :: v4 :: v5 :: v :: ls)) (a := a) (st := st) (h := h) (by simp only [List.length_cons]; omega))))
theorem V_astore6 {v0 v1 v2 v3 v4 v5 : MV} {v : MV} {a : Nat} : m_ok xs L mi ((pc, .astore 6) :: r) (v0 :: v1 :: v2 :: v3 :: v4 :: v5 :: v :: ls) (vR a :: st) h Q ↔ m_ok xs L mi r (v0 :: v1 :: v2 :: v3 :: v4 :: v5 :: vR a :: ls) st h Q := m_ok_step.trans (iff_of_eq (congrArg (m_go xs L mi Q) (m_astore_eq (k := 6) (r := r) (ls := (v0 :: v1 :: v2 :: v3 :: v4 :: v5 :: v :: ls)) (a := a) (st := st) (h := h) (by simp only [List.length_cons]; omega))))
theorem V_iinc6 {v0 v1 v2 v3 v4 v5 : MV} {a n : Int} : m_ok xs L mi ((pc, .iinc 6 n) :: r) (v0 :: v1 :: v2 :: v3 :: v4 :: v5 :: vI a :: ls) st h Q ↔ m_ok xs L mi r (v0 :: v1 :: v2 :: v3 :: v4 :: v5 :: vI (m_add a n) :: ls) st h Q := m_ok_step
theorem V_iload7 {v0 v1 v2 v3 v4 v5 v6 : MV} {a : Int} : m_ok xs L mi ((pc, .iload 7) :: r) (v0 :: v1 :: v2 :: v3 :: v4 :: v5 :: v6 :: vI a :: ls) st h Q ↔ m_ok xs L mi r (v0 :: v1 :: v2 :: v3 :: v4 :: v5 :: v6 :: vI a :: ls) (vI a :: st) h Q := m_ok_step
theorem V_aload7 {v0 v1 v2 v3 v4 v5 v6 : MV} {a : Nat} : m_ok xs L mi ((pc, .aload 7) :: r) (v0 :: v1 :: v2 :: v3 :: v4 :: v5 :: v6 :: vR a :: ls) st h Q ↔ m_ok xs L mi r (v0 :: v1 :: v2 :: v3 :: v4 :: v5 :: v6 :: vR a :: ls) (vR a :: st) h Q := m_ok_step
theorem V_istore7 {v0 v1 v2 v3 v4 v5 v6 : MV} {v : MV} {a : Int} : m_ok xs L mi ((pc, .istore 7) :: r) (v0 :: v1 :: v2 :: v3 :: v4 :: v5 :: v6 :: v :: ls) (vI a :: st) h Q ↔ m_ok xs L mi r (v0 :: v1 :: v2 :: v3 :: v4 :: v5 :: v6 :: vI a :: ls) st h Q := m_ok_step.trans (iff_of_eq (congrArg (m_go xs L mi Q) (m_istore_eq (k := 7) (r := r) (ls := (v0 :: v1 :: v2 :: v3 :: v4 :: v5 :: v6 :: v :: ls)) (a := a) (st := st) (h := h) (by simp only [List.length_cons]; omega))))
theorem V_astore7 {v0 v1 v2 v3 v4 v5 v6 : MV} {v : MV} {a : Nat} : m_ok xs L mi ((pc, .astore 7) :: r) (v0 :: v1 :: v2 :: v3 :: v4 :: v5 :: v6 :: v :: ls) (vR a :: st) h Q ↔ m_ok xs L mi r (v0 :: v1 :: v2 :: v3 :: v4 :: v5 :: v6 :: vR a :: ls) st h Q := m_ok_step.trans (iff_of_eq (congrArg (m_go xs L mi Q) (m_astore_eq (k := 7) (r := r) (ls := (v0 :: v1 :: v2 :: v3 :: v4 :: v5 :: v6 :: v :: ls)) (a := a) (st := st) (h := h) (by simp only [List.length_cons]; omega))))
theorem V_iinc7 {v0 v1 v2 v3 v4 v5 v6 : MV} {a n : Int} : m_ok xs L mi ((pc, .iinc 7 n) :: r) (v0 :: v1 :: v2 :: v3 :: v4 :: v5 :: v6 :: vI a :: ls) st h Q ↔ m_ok xs L mi r (v0 :: v1 :: v2 :: v3 :: v4 :: v5 :: v6 :: vI (m_add a n) :: ls) st h Q := m_ok_step
theorem V_iload8 {v0 v1 v2 v3 v4 v5 v6 v7 : MV} {a : Int} : m_ok xs L mi ((pc, .iload 8) :: r) (v0 :: v1 :: v2 :: v3 :: v4 :: v5 :: v6 :: v7 :: vI a :: ls) st h Q ↔ m_ok xs L mi r (v0 :: v1 :: v2 :: v3 :: v4 :: v5 :: v6 :: v7 :: vI a :: ls) (vI a :: st) h Q := m_ok_step
theorem V_aload8 {v0 v1 v2 v3 v4 v5 v6 v7 : MV} {a : Nat} : m_ok xs L mi ((pc, .aload 8) :: r) (v0 :: v1 :: v2 :: v3 :: v4 :: v5 :: v6 :: v7 :: vR a :: ls) st h Q ↔ m_ok xs L mi r (v0 :: v1 :: v2 :: v3 :: v4 :: v5 :: v6 :: v7 :: vR a :: ls) (vR a :: st) h Q := m_ok_step
theorem V_istore8 {v0 v1 v2 v3 v4 v5 v6 v7 : MV} {v : MV} {a : Int} : m_ok xs L mi ((pc, .istore 8) :: r) (v0 :: v1 :: v2 :: v3 :: v4 :: v5 :: v6 :: v7 :: v :: ls) (vI a :: st) h Q ↔ m_ok xs L mi r (v0 :: v1 :: v2 :: v3 :: v4 :: v5 :: v6 :: v7 :: vI a :: ls) st h Q := m_ok_step.trans (iff_of_eq (congrArg (m_go xs L mi Q) (m_istore_eq (k := 8) (r := r) (ls := (v0 :: v1 :: v2 :: v3 :: v4 :: v5 :: v6 :: v7 :: v :: ls)) (a := a) (st := st) (h := h) (by simp only [List.length_cons]; omega))))
theorem V_astore8 {v0 v1 v2 v3 v4 v5 v6 v7 : MV} {v : MV} {a : Nat} : m_ok xs L mi ((pc, .astore 8) :: r) (v0 :: v1 :: v2 :: v3 :: v4 :: v5 :: v6 :: v7 :: v :: ls) (vR a :: st) h Q ↔ m_ok xs L mi r (v0 :: v1 :: v2 :: v3 :: v4 :: v5 :: v6 :: v7 :: vR a :: ls) st h Q := m_ok_step.trans (iff_of_eq (congrArg (m_go xs L mi Q) (m_astore_eq (k := 8) (r := r) (ls := (v0 :: v1 :: v2 :: v3 :: v4 :: v5 :: v6 :: v7 :: v :: ls)) (a := a) (st := st) (h := h) (by simp only [List.length_cons]; omega))))
theorem V_iinc8 {v0 v1 v2 v3 v4 v5 v6 v7 : MV} {a n : Int} : m_ok xs L mi ((pc, .iinc 8 n) :: r) (v0 :: v1 :: v2 :: v3 :: v4 :: v5 :: v6 :: v7 :: vI a :: ls) st h Q ↔ m_ok xs L mi r (v0 :: v1 :: v2 :: v3 :: v4 :: v5 :: v6 :: v7 :: vI (m_add a n) :: ls) st h Q := m_ok_step
theorem V_iload9 {v0 v1 v2 v3 v4 v5 v6 v7 v8 : MV} {a : Int} : m_ok xs L mi ((pc, .iload 9) :: r) (v0 :: v1 :: v2 :: v3 :: v4 :: v5 :: v6 :: v7 :: v8 :: vI a :: ls) st h Q ↔ m_ok xs L mi r (v0 :: v1 :: v2 :: v3 :: v4 :: v5 :: v6 :: v7 :: v8 :: vI a :: ls) (vI a :: st) h Q := m_ok_step
theorem V_aload9 {v0 v1 v2 v3 v4 v5 v6 v7 v8 : MV} {a : Nat} : m_ok xs L mi ((pc, .aload 9) :: r) (v0 :: v1 :: v2 :: v3 :: v4 :: v5 :: v6 :: v7 :: v8 :: vR a :: ls) st h Q ↔ m_ok xs L mi r (v0 :: v1 :: v2 :: v3 :: v4 :: v5 :: v6 :: v7 :: v8 :: vR a :: ls) (vR a :: st) h Q := m_ok_step
theorem V_istore9 {v0 v1 v2 v3 v4 v5 v6 v7 v8 : MV} {v : MV} {a : Int} : m_ok xs L mi ((pc, .istore 9) :: r) (v0 :: v1 :: v2 :: v3 :: v4 :: v5 :: v6 :: v7 :: v8 :: v :: ls) (vI a :: st) h Q ↔ m_ok xs L mi r (v0 :: v1 :: v2 :: v3 :: v4 :: v5 :: v6 :: v7 :: v8 :: vI a :: ls) st h Q := m_ok_step.trans (iff_of_eq (congrArg (m_go xs L mi Q) (m_istore_eq (k := 9) (r := r) (ls := (v0 :: v1 :: v2 :: v3 :: v4 :: v5 :: v6 :: v7 :: v8 :: v :: ls)) (a := a) (st := st) (h := h) (by simp only [List.length_cons]; omega))))
theorem V_astore9 {v0 v1 v2 v3 v4 v5 v6 v7 v8 : MV} {v : MV} {a : Nat} : m_ok xs L mi ((pc, .astore 9) :: r) (v0 :: v1 :: v2 :: v3 :: v4 :: v5 :: v6 :: v7 :: v8 :: v :: ls) (vR a :: st) h Q ↔ m_ok xs L mi r (v0 :: v1 :: v2 :: v3 :: v4 :: v5 :: v6 :: v7 :: v8 :: vR a :: ls) st h Q := m_ok_step.trans (iff_of_eq (congrArg (m_go xs L mi Q) (m_astore_eq (k := 9) (r := r) (ls := (v0 :: v1 :: v2 :: v3 :: v4 :: v5 :: v6 :: v7 :: v8 :: v :: ls)) (a := a) (st := st) (h := h) (by simp only [List.length_cons]; omega))))
theorem V_iinc9 {v0 v1 v2 v3 v4 v5 v6 v7 v8 : MV} {a n : Int} : m_ok xs L mi ((pc, .iinc 9 n) :: r) (v0 :: v1 :: v2 :: v3 :: v4 :: v5 :: v6 :: v7 :: v8 :: vI a :: ls) st h Q ↔ m_ok xs L mi r (v0 :: v1 :: v2 :: v3 :: v4 :: v5 :: v6 :: v7 :: v8 :: vI (m_add a n) :: ls) st h Q := m_ok_step
theorem V_iload10 {v0 v1 v2 v3 v4 v5 v6 v7 v8 v9 : MV} {a : Int} : m_ok xs L mi ((pc, .iload 10) :: r) (v0 :: v1 :: v2 :: v3 :: v4 :: v5 :: v6 :: v7 :: v8 :: v9 :: vI a :: ls) st h Q ↔ m_ok xs L mi r (v0 :: v1 :: v2 :: v3 :: v4 :: v5 :: v6 :: v7 :: v8 :: v9 :: vI a :: ls) (vI a :: st) h Q := m_ok_step
theorem V_aload10 {v0 v1 v2 v3 v4 v5 v6 v7 v8 v9 : MV} {a : Nat} : m_ok xs L mi ((pc, .aload 10) :: r) (v0 :: v1 :: v2 :: v3 :: v4 :: v5 :: v6 :: v7 :: v8 :: v9 :: vR a :: ls) st h Q ↔ m_ok xs L mi r (v0 :: v1 :: v2 :: v3 :: v4 :: v5 :: v6 :: v7 :: v8 :: v9 :: vR a :: ls) (vR a :: st) h Q := m_ok_step
theorem V_istore10 {v0 v1 v2 v3 v4 v5 v6 v7 v8 v9 : MV} {v : MV} {a : Int} : m_ok xs L mi ((pc, .istore 10) :: r) (v0 :: v1 :: v2 :: v3 :: v4 :: v5 :: v6 :: v7 :: v8 :: v9 :: v :: ls) (vI a :: st) h Q ↔ m_ok xs L mi r (v0 :: v1 :: v2 :: v3 :: v4 :: v5 :: v6 :: v7 :: v8 :: v9 :: vI a :: ls) st h Q := m_ok_step.trans (iff_of_eq (congrArg (m_go xs L mi Q) (m_istore_eq (k := 10) (r := r) (ls := (v0 :: v1 :: v2 :: v3 :: v4 :: v5 :: v6 :: v7 :: v8 :: v9 :: v :: ls)) (a := a) (st := st) (h := h) (by simp only [List.length_cons]; omega))))
theorem V_astore10 {v0 v1 v2 v3 v4 v5 v6 v7 v8 v9 : MV} {v : MV} {a : Nat} : m_ok xs L mi ((pc, .astore 10) :: r) (v0 :: v1 :: v2 :: v3 :: v4 :: v5 :: v6 :: v7 :: v8 :: v9 :: v :: ls) (vR a :: st) h Q ↔ m_ok xs L mi r (v0 :: v1 :: v2 :: v3 :: v4 :: v5 :: v6 :: v7 :: v8 :: v9 :: vR a :: ls) st h Q := m_ok_step.trans (iff_of_eq (congrArg (m_go xs L mi Q) (m_astore_eq (k := 10) (r := r) (ls := (v0 :: v1 :: v2 :: v3 :: v4 :: v5 :: v6 :: v7 :: v8 :: v9 :: v :: ls)) (a := a) (st := st) (h := h) (by simp only [List.length_cons]; omega))))
theorem V_iinc10 {v0 v1 v2 v3 v4 v5 v6 v7 v8 v9 : MV} {a n : Int} : m_ok xs L mi ((pc, .iinc 10 n) :: r) (v0 :: v1 :: v2 :: v3 :: v4 :: v5 :: v6 :: v7 :: v8 :: v9 :: vI a :: ls) st h Q ↔ m_ok xs L mi r (v0 :: v1 :: v2 :: v3 :: v4 :: v5 :: v6 :: v7 :: v8 :: v9 :: vI (m_add a n) :: ls) st h Q := m_ok_step
theorem V_iload11 {v0 v1 v2 v3 v4 v5 v6 v7 v8 v9 v10 : MV} {a : Int} : m_ok xs L mi ((pc, .iload 11) :: r) (v0 :: v1 :: v2 :: v3 :: v4 :: v5 :: v6 :: v7 :: v8 :: v9 :: v10 :: vI a :: ls) st h Q ↔ m_ok xs L mi r (v0 :: v1 :: v2 :: v3 :: v4 :: v5 :: v6 :: v7 :: v8 :: v9 :: v10 :: vI a :: ls) (vI a :: st) h Q := m_ok_step
theorem V_aload11 {v0 v1 v2 v3 v4 v5 v6 v7 v8 v9 v10 : MV} {a : Nat} : m_ok xs L mi ((pc, .aload 11) :: r) (v0 :: v1 :: v2 :: v3 :: v4 :: v5 :: v6 :: v7 :: v8 :: v9 :: v10 :: vR a :: ls) st h Q ↔ m_ok xs L mi r (v0 :: v1 :: v2 :: v3 :: v4 :: v5 :: v6 :: v7 :: v8 :: v9 :: v10 :: vR a :: ls) (vR a :: st) h Q := m_ok_step
theorem V_istore11 {v0 v1 v2 v3 v4 v5 v6 v7 v8 v9 v10 : MV} {v : MV} {a : Int} : m_ok xs L mi ((pc, .istore 11) :: r) (v0 :: v1 :: v2 :: v3 :: v4 :: v5 :: v6 :: v7 :: v8 :: v9 :: v10 :: v :: ls) (vI a :: st) h Q ↔ m_ok xs L mi r (v0 :: v1 :: v2 :: v3 :: v4 :: v5 :: v6 :: v7 :: v8 :: v9 :: v10 :: vI a :: ls) st h Q := m_ok_step.trans (iff_of_eq (congrArg (m_go xs L mi Q) (m_istore_eq (k := 11) (r := r) (ls := (v0 :: v1 :: v2 :: v3 :: v4 :: v5 :: v6 :: v7 :: v8 :: v9 :: v10 :: v :: ls)) (a := a) (st := st) (h := h) (by simp only [List.length_cons]; omega))))
theorem V_astore11 {v0 v1 v2 v3 v4 v5 v6 v7 v8 v9 v10 : MV} {v : MV} {a : Nat} : m_ok xs L mi ((pc, .astore 11) :: r) (v0 :: v1 :: v2 :: v3 :: v4 :: v5 :: v6 :: v7 :: v8 :: v9 :: v10 :: v :: ls) (vR a :: st) h Q ↔ m_ok xs L mi r (v0 :: v1 :: v2 :: v3 :: v4 :: v5 :: v6 :: v7 :: v8 :: v9 :: v10 :: vR a :: ls) st h Q := m_ok_step.trans (iff_of_eq (congrArg (m_go xs L mi Q) (m_astore_eq (k := 11) (r := r) (ls := (v0 :: v1 :: v2 :: v3 :: v4 :: v5 :: v6 :: v7 :: v8 :: v9 :: v10 :: v :: ls)) (a := a) (st := st) (h := h) (by simp only [List.length_cons]; omega))))
theorem V_iinc11 {v0 v1 v2 v3 v4 v5 v6 v7 v8 v9 v10 : MV} {a n : Int} : m_ok xs L mi ((pc, .iinc 11 n) :: r) (v0 :: v1 :: v2 :: v3 :: v4 :: v5 :: v6 :: v7 :: v8 :: v9 :: v10 :: vI a :: ls) st h Q ↔ m_ok xs L mi r (v0 :: v1 :: v2 :: v3 :: v4 :: v5 :: v6 :: v7 :: v8 :: v9 :: v10 :: vI (m_add a n) :: ls) st h Q := m_ok_step
theorem V_iload12 {v0 v1 v2 v3 v4 v5 v6 v7 v8 v9 v10 v11 : MV} {a : Int} : m_ok xs L mi ((pc, .iload 12) :: r) (v0 :: v1 :: v2 :: v3 :: v4 :: v5 :: v6 :: v7 :: v8 :: v9 :: v10 :: v11 :: vI a :: ls) st h Q ↔ m_ok xs L mi r (v0 :: v1 :: v2 :: v3 :: v4 :: v5 :: v6 :: v7 :: v8 :: v9 :: v10 :: v11 :: vI a :: ls) (vI a :: st) h Q := m_ok_step
theorem V_aload12 {v0 v1 v2 v3 v4 v5 v6 v7 v8 v9 v10 v11 : MV} {a : Nat} : m_ok xs L mi ((pc, .aload 12) :: r) (v0 :: v1 :: v2 :: v3 :: v4 :: v5 :: v6 :: v7 :: v8 :: v9 :: v10 :: v11 :: vR a :: ls) st h Q ↔ m_ok xs L mi r (v0 :: v1 :: v2 :: v3 :: v4 :: v5 :: v6 :: v7 :: v8 :: v9 :: v10 :: v11 :: vR a :: ls) (vR a :: st) h Q := m_ok_step
theorem V_istore12 {v0 v1 v2 v3 v4 v5 v6 v7 v8 v9 v10 v11 : MV} {v : MV} {a : Int} : m_ok xs L mi ((pc, .istore 12) :: r) (v0 :: v1 :: v2 :: v3 :: v4 :: v5 :: v6 :: v7 :: v8 :: v9 :: v10 :: v11 :: v :: ls) (vI a :: st) h Q ↔ m_ok xs L mi r (v0 :: v1 :: v2 :: v3 :: v4 :: v5 :: v6 :: v7 :: v8 :: v9 :: v10 :: v11 :: vI a :: ls) st h Q := m_ok_step.trans (iff_of_eq (congrArg (m_go xs L mi Q) (m_istore_eq (k := 12) (r := r) (ls := (v0 :: v1 :: v2 :: v3 :: v4 :: v5 :: v6 :: v7 :: v8 :: v9 :: v10 :: v11 :: v :: ls)) (a := a) (st := st) (h := h) (by simp only [List.length_cons]; omega))))
theorem V_astore12 {v0 v1 v2 v3 v4 v5 v6 v7 v8 v9 v10 v11 : MV} {v : MV} {a : Nat} : m_ok xs L mi ((pc, .astore 12) :: r) (v0 :: v1 :: v2 :: v3 :: v4 :: v5 :: v6 :: v7 :: v8 :: v9 :: v10 :: v11 :: v :: ls) (vR a :: st) h Q ↔ m_ok xs L mi r (v0 :: v1 :: v2 :: v3 :: v4 :: v5 :: v6 :: v7 :: v8 :: v9 :: v10 :: v11 :: vR a :: ls) st h Q := m_ok_step.trans (iff_of_eq (congrArg (m_go xs L mi Q) (m_astore_eq (k := 12) (r := r) (ls := (v0 :: v1 :: v2 :: v3 :: v4 :: v5 :: v6 :: v7 :: v8 :: v9 :: v10 :: v11 :: v :: ls)) (a := a) (st := st) (h := h) (by simp only [List.length_cons]; omega))))
theorem V_iinc12 {v0 v1 v2 v3 v4 v5 v6 v7 v8 v9 v10 v11 : MV} {a n : Int} : m_ok xs L mi ((pc, .iinc 12 n) :: r) (v0 :: v1 :: v2 :: v3 :: v4 :: v5 :: v6 :: v7 :: v8 :: v9 :: v10 :: v11 :: vI a :: ls) st h Q ↔ m_ok xs L mi r (v0 :: v1 :: v2 :: v3 :: v4 :: v5 :: v6 :: v7 :: v8 :: v9 :: v10 :: v11 :: vI (m_add a n) :: ls) st h Q := m_ok_step
theorem V_iload13 {v0 v1 v2 v3 v4 v5 v6 v7 v8 v9 v10 v11 v12 : MV} {a : Int} : m_ok xs L mi ((pc, .iload 13) :: r) (v0 :: v1 :: v2 :: v3 :: v4 :: v5 :: v6 :: v7 :: v8 :: v9 :: v10 :: v11 :: v12 :: vI a :: ls) st h Q ↔ m_ok xs L mi r (v0 :: v1 :: v2 :: v3 :: v4 :: v5 :: v6 :: v7 :: v8 :: v9 :: v10 :: v11 :: v12 :: vI a :: ls) (vI a :: st) h Q := m_ok_step
theorem V_aload13 {v0 v1 v2 v3 v4 v5 v6 v7 v8 v9 v10 v11 v12 : MV} {a : Nat} : m_ok xs L mi ((pc, .aload 13) :: r) (v0 :: v1 :: v2 :: v3 :: v4 :: v5 :: v6 :: v7 :: v8 :: v9 :: v10 :: v11 :: v12 :: vR a :: ls) st h Q ↔ m_ok xs L mi r (v0 :: v1 :: v2 :: v3 :: v4 :: v5 :: v6 :: v7 :: v8 :: v9 :: v10 :: v11 :: v12 :: vR a :: ls) (vR a :: st) h Q := m_ok_step
theorem V_istore13 {v0 v1 v2 v3 v4 v5 v6 v7 v8 v9 v10 v11 v12 : MV} {v : MV} {a : Int} : m_ok xs L mi ((pc, .istore 13) :: r) (v0 :: v1 :: v2 :: v3 :: v4 :: v5 :: v6 :: v7 :: v8 :: v9 :: v10 :: v11 :: v12 :: v :: ls) (vI a :: st) h Q ↔ m_ok xs L mi r (v0 :: v1 :: v2 :: v3 :: v4 :: v5 :: v6 :: v7 :: v8 :: v9 :: v10 :: v11 :: v12 :: vI a :: ls) st h Q := m_ok_step.trans (iff_of_eq (congrArg (m_go xs L mi Q) (m_istore_eq (k := 13) (r := r) (ls := (v0 :: v1 :: v2 :: v3 :: v4 :: v5 :: v6 :: v7 :: v8 :: v9 :: v10 :: v11 :: v12 :: v :: ls)) (a := a) (st := st) (h := h) (by simp only [List.length_cons]; omega))))
theorem V_astore13 {v0 v1 v2 v3 v4 v5 v6 v7 v8 v9 v10 v11 v12 : MV} {v : MV} {a : Nat} : m_ok xs L mi ((pc, .astore 13) :: r) (v0 :: v1 :: v2 :: v3 :: v4 :: v5 :: v6 :: v7 :: v8 :: v9 :: v10 :: v11 :: v12 :: v :: ls) (vR a :: st) h Q ↔ m_ok xs L mi r (v0 :: v1 :: v2 :: v3 :: v4 :: v5 :: v6 :: v7 :: v8 :: v9 :: v10 :: v11 :: v12 :: vR a :: ls) st h Q := m_ok_step.trans (iff_of_eq (congrArg (m_go xs L mi Q) (m_astore_eq (k := 13) (r := r) (ls := (v0 :: v1 :: v2 :: v3 :: v4 :: v5 :: v6 :: v7 :: v8 :: v9 :: v10 :: v11 :: v12 :: v :: ls)) (a := a) (st := st) (h := h) (by simp only [List.length_cons]; omega))))
theorem V_iinc13 {v0 v1 v2 v3 v4 v5 v6 v7 v8 v9 v10 v11 v12 : MV} {a n : Int} : m_ok xs L mi ((pc, .iinc 13 n) :: r) (v0 :: v1 :: v2 :: v3 :: v4 :: v5 :: v6 :: v7 :: v8 :: v9 :: v10 :: v11 :: v12 :: vI a :: ls) st h Q ↔ m_ok xs L mi r (v0 :: v1 :: v2 :: v3 :: v4 :: v5 :: v6 :: v7 :: v8 :: v9 :: v10 :: v11 :: v12 :: vI (m_add a n) :: ls) st h Q := m_ok_step
theorem V_iadd {a b : Int} : m_ok xs L mi ((pc, .iadd) :: r) ls (vI b :: vI a :: st) h Q ↔ m_ok xs L mi r ls (vI (m_add a b) :: st) h Q := m_ok_step
theorem V_isub {a b : Int} : m_ok xs L mi ((pc, .isub) :: r) ls (vI b :: vI a :: st) h Q ↔ m_ok xs L mi r ls (vI (m_sub a b) :: st) h Q := m_ok_step
theorem V_imul {a b : Int} : m_ok xs L mi ((pc, .imul) :: r) ls (vI b :: vI a :: st) h Q ↔ m_ok xs L mi r ls (vI (m_mul a b) :: st) h Q := m_ok_step
theorem V_iand {a b : Int} : m_ok xs L mi ((pc, .iand) :: r) ls (vI b :: vI a :: st) h Q ↔ m_ok xs L mi r ls (vI (m_and a b) :: st) h Q := m_ok_step
theorem V_ishr {a b : Int} : m_ok xs L mi ((pc, .ishr) :: r) ls (vI b :: vI a :: st) h Q ↔ m_ok xs L mi r ls (vI (m_shr a b) :: st) h Q := m_ok_step
theorem V_idiv {a b : Int} : m_ok xs L mi ((pc, .idiv) :: r) ls (vI b :: vI a :: st) h Q ↔ b ≠ 0 ∧ m_ok xs L mi r ls (vI (m_div a b) :: st) h Q := by
  rw [m_ok_step]
  simp only [m_step, m_act, m_dbin, m_nx]
  split
  · rename_i hc; exact ⟨fun k => k.elim, fun k => absurd hc k.1⟩
  · rename_i hc; exact ⟨fun k => ⟨hc, k⟩, fun k => k.2⟩
theorem V_irem {a b : Int} : m_ok xs L mi ((pc, .irem) :: r) ls (vI b :: vI a :: st) h Q ↔ b ≠ 0 ∧ m_ok xs L mi r ls (vI (m_rem a b) :: st) h Q := by
  rw [m_ok_step]
  simp only [m_step, m_act, m_dbin, m_nx]
  split
  · rename_i hc; exact ⟨fun k => k.elim, fun k => absurd hc k.1⟩
  · rename_i hc; exact ⟨fun k => ⟨hc, k⟩, fun k => k.2⟩
theorem V_i2l {a : Int} : m_ok xs L mi ((pc, .i2l) :: r) ls (vI a :: st) h Q ↔ m_ok xs L mi r ls (vL (Int32.ofInt a).toInt64 :: st) h Q := m_ok_step
theorem V_i2f {a : Int} : m_ok xs L mi ((pc, .i2f) :: r) ls (vI a :: st) h Q ↔ m_ok xs L mi r ls (vF (FP.i2f (Int32.ofInt a)) :: st) h Q := m_ok_step
theorem V_f2d {a : UInt32} : m_ok xs L mi ((pc, .f2d) :: r) ls (vF a :: st) h Q ↔ m_nn64 (FP.f2d a) = true ∧ m_ok xs L mi r ls (vD (FP.f2d a) :: st) h Q := by
  rw [m_ok_step]
  simp only [m_step, m_act, m_f2d, m_nx]
  split
  · rename_i hc; exact ⟨fun k => ⟨hc, k⟩, fun k => k.2⟩
  · rename_i hc; exact ⟨fun k => k.elim, fun k => absurd k.1 hc⟩
theorem V_fmul {a b : UInt32} : m_ok xs L mi ((pc, .fmul) :: r) ls (vF b :: vF a :: st) h Q ↔ m_nn32 (FP.fmul a b) = true ∧ m_ok xs L mi r ls (vF (FP.fmul a b) :: st) h Q := by
  rw [m_ok_step]
  simp only [m_step, m_act, m_fbin, m_nx]
  split
  · rename_i hc; exact ⟨fun k => ⟨hc, k⟩, fun k => k.2⟩
  · rename_i hc; exact ⟨fun k => k.elim, fun k => absurd k.1 hc⟩
theorem V_fdiv {a b : UInt32} : m_ok xs L mi ((pc, .fdiv) :: r) ls (vF b :: vF a :: st) h Q ↔ m_nn32 (FP.fdiv a b) = true ∧ m_ok xs L mi r ls (vF (FP.fdiv a b) :: st) h Q := by
  rw [m_ok_step]
  simp only [m_step, m_act, m_fbin, m_nx]
  split
  · rename_i hc; exact ⟨fun k => ⟨hc, k⟩, fun k => k.2⟩
  · rename_i hc; exact ⟨fun k => k.elim, fun k => absurd k.1 hc⟩
theorem V_fcmp {op : CmpOp} {a b : UInt32} : m_ok xs L mi ((pc, .fcmp op) :: r) ls (vF b :: vF a :: st) h Q ↔ m_ok xs L mi r ls (vI (Op.cmpValue (FP.fcmp a b) op).toInt :: st) h Q := m_ok_step
theorem V_dcmp {op : CmpOp} {a b : UInt64} : m_ok xs L mi ((pc, .dcmp op) :: r) ls (vD b :: vD a :: st) h Q ↔ m_ok xs L mi r ls (vI (Op.cmpValue (FP.dcmp a b) op).toInt :: st) h Q := m_ok_step
theorem V_lcmp {a b : Int64} : m_ok xs L mi ((pc, .lcmp) :: r) ls (vL b :: vL a :: st) h Q ↔ m_ok xs L mi r ls (vI (lg_cmp a b).toInt :: st) h Q := m_ok_step
theorem V_if_eq {a off : Int} : m_ok xs L mi ((pc, .ifCond .eq off) :: r) ls (vI a :: st) h Q ↔ if a = 0 then m_ok xs L mi (m_jmp mi pc off) ls st h Q else m_ok xs L mi r ls st h Q := by
  rw [m_ok_step]
  simp only [m_step, m_act, m_if, m_holds, decide_eq_true_eq, m_nx]
  by_cases hc : a = 0
  · rw [if_pos hc, if_pos hc]; rfl
  · rw [if_neg hc, if_neg hc]; rfl
theorem V_icmp_eq {a b off : Int} : m_ok xs L mi ((pc, .if_icmp .eq off) :: r) ls (vI b :: vI a :: st) h Q ↔ if a = b then m_ok xs L mi (m_jmp mi pc off) ls st h Q else m_ok xs L mi r ls st h Q := by
  rw [m_ok_step]
  simp only [m_step, m_act, m_icmp, m_holds, decide_eq_true_eq, m_nx]
  by_cases hc : a = b
  · rw [if_pos hc, if_pos hc]; rfl
  · rw [if_neg hc, if_neg hc]; rfl
theorem V_if_ne {a off : Int} : m_ok xs L mi ((pc, .ifCond .ne off) :: r) ls (vI a :: st) h Q ↔ if ¬ a = 0 then m_ok xs L mi (m_jmp mi pc off) ls st h Q else m_ok xs L mi r ls st h Q := by
  rw [m_ok_step]
  simp only [m_step, m_act, m_if, m_holds, decide_eq_true_eq, m_nx]
  by_cases hc : ¬ a = 0
  · rw [if_pos hc, if_pos hc]; rfl
  · rw [if_neg hc, if_neg hc]; rfl
theorem V_icmp_ne {a b off : Int} : m_ok xs L mi ((pc, .if_icmp .ne off) :: r) ls (vI b :: vI a :: st) h Q ↔ if ¬ a = b then m_ok xs L mi (m_jmp mi pc off) ls st h Q else m_ok xs L mi r ls st h Q := by
  rw [m_ok_step]
  simp only [m_step, m_act, m_icmp, m_holds, decide_eq_true_eq, m_nx]
  by_cases hc : ¬ a = b
  · rw [if_pos hc, if_pos hc]; rfl
  · rw [if_neg hc, if_neg hc]; rfl
theorem V_if_lt {a off : Int} : m_ok xs L mi ((pc, .ifCond .lt off) :: r) ls (vI a :: st) h Q ↔ if a < 0 then m_ok xs L mi (m_jmp mi pc off) ls st h Q else m_ok xs L mi r ls st h Q := by
  rw [m_ok_step]
  simp only [m_step, m_act, m_if, m_holds, decide_eq_true_eq, m_nx]
  by_cases hc : a < 0
  · rw [if_pos hc, if_pos hc]; rfl
  · rw [if_neg hc, if_neg hc]; rfl
theorem V_icmp_lt {a b off : Int} : m_ok xs L mi ((pc, .if_icmp .lt off) :: r) ls (vI b :: vI a :: st) h Q ↔ if a < b then m_ok xs L mi (m_jmp mi pc off) ls st h Q else m_ok xs L mi r ls st h Q := by
  rw [m_ok_step]
  simp only [m_step, m_act, m_icmp, m_holds, decide_eq_true_eq, m_nx]
  by_cases hc : a < b
  · rw [if_pos hc, if_pos hc]; rfl
  · rw [if_neg hc, if_neg hc]; rfl
theorem V_if_ge {a off : Int} : m_ok xs L mi ((pc, .ifCond .ge off) :: r) ls (vI a :: st) h Q ↔ if 0 ≤ a then m_ok xs L mi (m_jmp mi pc off) ls st h Q else m_ok xs L mi r ls st h Q := by
  rw [m_ok_step]
  simp only [m_step, m_act, m_if, m_holds, decide_eq_true_eq, m_nx]
  by_cases hc : 0 ≤ a
  · rw [if_pos hc, if_pos hc]; rfl
  · rw [if_neg hc, if_neg hc]; rfl
theorem V_icmp_ge {a b off : Int} : m_ok xs L mi ((pc, .if_icmp .ge off) :: r) ls (vI b :: vI a :: st) h Q ↔ if b ≤ a then m_ok xs L mi (m_jmp mi pc off) ls st h Q else m_ok xs L mi r ls st h Q := by
  rw [m_ok_step]
  simp only [m_step, m_act, m_icmp, m_holds, decide_eq_true_eq, m_nx]
  by_cases hc : b ≤ a
  · rw [if_pos hc, if_pos hc]; rfl
  · rw [if_neg hc, if_neg hc]; rfl
theorem V_if_gt {a off : Int} : m_ok xs L mi ((pc, .ifCond .gt off) :: r) ls (vI a :: st) h Q ↔ if 0 < a then m_ok xs L mi (m_jmp mi pc off) ls st h Q else m_ok xs L mi r ls st h Q := by
  rw [m_ok_step]
  simp only [m_step, m_act, m_if, m_holds, decide_eq_true_eq, m_nx]
  by_cases hc : 0 < a
  · rw [if_pos hc, if_pos hc]; rfl
  · rw [if_neg hc, if_neg hc]; rfl
theorem V_icmp_gt {a b off : Int} : m_ok xs L mi ((pc, .if_icmp .gt off) :: r) ls (vI b :: vI a :: st) h Q ↔ if b < a then m_ok xs L mi (m_jmp mi pc off) ls st h Q else m_ok xs L mi r ls st h Q := by
  rw [m_ok_step]
  simp only [m_step, m_act, m_icmp, m_holds, decide_eq_true_eq, m_nx]
  by_cases hc : b < a
  · rw [if_pos hc, if_pos hc]; rfl
  · rw [if_neg hc, if_neg hc]; rfl
theorem V_if_le {a off : Int} : m_ok xs L mi ((pc, .ifCond .le off) :: r) ls (vI a :: st) h Q ↔ if a ≤ 0 then m_ok xs L mi (m_jmp mi pc off) ls st h Q else m_ok xs L mi r ls st h Q := by
  rw [m_ok_step]
  simp only [m_step, m_act, m_if, m_holds, decide_eq_true_eq, m_nx]
  by_cases hc : a ≤ 0
  · rw [if_pos hc, if_pos hc]; rfl
  · rw [if_neg hc, if_neg hc]; rfl
theorem V_icmp_le {a b off : Int} : m_ok xs L mi ((pc, .if_icmp .le off) :: r) ls (vI b :: vI a :: st) h Q ↔ if a ≤ b then m_ok xs L mi (m_jmp mi pc off) ls st h Q else m_ok xs L mi r ls st h Q := by
  rw [m_ok_step]
  simp only [m_step, m_act, m_icmp, m_holds, decide_eq_true_eq, m_nx]
  by_cases hc : a ≤ b
  · rw [if_pos hc, if_pos hc]; rfl
  · rw [if_neg hc, if_neg hc]; rfl
theorem V_goto {off : Int} : m_ok xs L mi ((pc, .goto off) :: r) ls st h Q ↔ m_ok xs L mi (m_jmp mi pc off) ls st h Q := m_ok_step
theorem V_sw {d lo hi a : Int} {offs : Array Int} : m_ok xs L mi ((pc, .tableswitch d lo hi offs) :: r) ls (vI a :: st) h Q ↔ if a < lo ∨ hi < a then m_ok xs L mi (m_jmp mi pc d) ls st h Q else ∃ off, offs[(a - lo).toNat]? = some off ∧ m_ok xs L mi (m_jmp mi pc off) ls st h Q := by
  rw [m_ok_step]
  simp only [m_step, m_act, m_sw, m_nx]
  split
  · rfl
  · cases offs[(a - lo).toNat]? with
    | none => exact ⟨fun k => k.elim, fun ⟨_, k, _⟩ => by cases k⟩
    | some off => exact ⟨fun k => ⟨off, rfl, k⟩, fun ⟨_, k, k2⟩ => by cases k; exact k2⟩
theorem V_getf {k ci f tk o : Nat} {fin : Bool} {v : MV} (hf : fR (m_own mi) k = some (ci, f, tk, fin)) (hv : m_get h o ci f = some v) : m_ok xs L mi ((pc, .getfield k) :: r) ls (vR o :: st) h Q ↔ m_ok xs L mi r ls (v :: st) h Q := by
  rw [m_ok_step]
  simp only [m_step, m_act, m_getf, hf, hv, m_ld, m_nx, m_go]
theorem V_putf {k ci f tk o : Nat} {fin : Bool} {v v0 : MV} (hf : fR (m_own mi) k = some (ci, f, tk, fin)) (hv : m_get h o ci f = some v0) (hk : m_fit tk v = true) (hfin : fin = false) : m_ok xs L mi ((pc, .putfield k) :: r) ls (v :: vR o :: st) h Q ↔ m_ok xs L mi r ls st (m_set h o f v) Q := by
  subst hfin
  rw [m_ok_step]
  simp only [m_step, m_act, m_putf, hf]
  rw [if_pos ⟨hk, by rw [hv]; rfl, fun z => by cases z⟩]
  rfl
theorem V_iaload {i : Int} {o : Nat} {a : Int} (hv : m_age h o 20 i = some (vI a)) : m_ok xs L mi ((pc, .iaload) :: r) ls (vI i :: vR o :: st) h Q ↔ m_ok xs L mi r ls (vI a :: st) h Q := by
  rw [m_ok_step]
  simp only [m_step, m_act, m_iald, hv, m_ld, m_nx, m_go]
theorem V_baload {i : Int} {o : Nat} {a : Int} (hv : m_age h o 21 i = some (vI a)) : m_ok xs L mi ((pc, .baload) :: r) ls (vI i :: vR o :: st) h Q ↔ m_ok xs L mi r ls (vI a :: st) h Q := by
  rw [m_ok_step]
  simp only [m_step, m_act, m_zald, hv, m_ld, m_nx, m_go]
theorem V_faload {i : Int} {o : Nat} {a : UInt32} (hv : m_age h o 22 i = some (vF a)) : m_ok xs L mi ((pc, .faload) :: r) ls (vI i :: vR o :: st) h Q ↔ m_ok xs L mi r ls (vF a :: st) h Q := by
  rw [m_ok_step]
  simp only [m_step, m_act, m_fald, hv, m_ld, m_nx, m_go]
theorem V_laload {i : Int} {o : Nat} {a : Int64} (hv : m_age h o 23 i = some (vL a)) : m_ok xs L mi ((pc, .laload) :: r) ls (vI i :: vR o :: st) h Q ↔ m_ok xs L mi r ls (vL a :: st) h Q := by
  rw [m_ok_step]
  simp only [m_step, m_act, m_lald, hv, m_ld, m_nx, m_go]
theorem V_daload {i : Int} {o : Nat} {a : UInt64} (hv : m_age h o 24 i = some (vD a)) : m_ok xs L mi ((pc, .daload) :: r) ls (vI i :: vR o :: st) h Q ↔ m_ok xs L mi r ls (vD a :: st) h Q := by
  rw [m_ok_step]
  simp only [m_step, m_act, m_dald, hv, m_ld, m_nx, m_go]
theorem V_saload {i : Int} : m_ok xs L mi ((pc, .iaload) :: r) ls (vI i :: vS :: st) h Q ↔ (0 ≤ i ∧ i + 1 < (L : Int)) ∧ m_ok xs L mi r ls (vI (xs i.toNat).toInt :: st) h Q := by
  rw [m_ok_step]
  simp only [m_step, m_act, m_iald, m_nx]
  split
  · rename_i hc; exact ⟨fun k => ⟨hc, k⟩, fun k => k.2⟩
  · rename_i hc; exact ⟨fun k => k.elim, fun k => absurd k.1 hc⟩
theorem V_aaload {i : Int} {o t q : Nat} (ht : m_tag h o = some t) (hc : 30 ≤ t ∧ m_oa (t - 30) = true) (hv : m_age h o t i = some (vR q)) : m_ok xs L mi ((pc, .aaload) :: r) ls (vI i :: vR o :: st) h Q ↔ m_ok xs L mi r ls (vR q :: st) h Q := by
  rw [m_ok_step]
  simp only [m_step, m_act, m_aald, ht, if_pos hc, hv, m_nx, m_go]
theorem V_iastore {i : Int} {o : Nat} {a : Int} {v0 : MV} (hv : m_age h o 20 i = some v0) : m_ok xs L mi ((pc, .iastore) :: r) ls (vI a :: vI i :: vR o :: st) h Q ↔ m_ok xs L mi r ls st (m_set h o i.toNat (vI a)) Q := by
  rw [m_ok_step]
  simp only [m_step, m_act, m_iast, m_nx]
  rw [if_pos (by rw [hv]; rfl)]
  rfl
theorem V_fastore {i : Int} {o : Nat} {a : UInt32} {v0 : MV} (hv : m_age h o 22 i = some v0) : m_ok xs L mi ((pc, .fastore) :: r) ls (vF a :: vI i :: vR o :: st) h Q ↔ m_ok xs L mi r ls st (m_set h o i.toNat (vF a)) Q := by
  rw [m_ok_step]
  simp only [m_step, m_act, m_fast, m_nx]
  rw [if_pos (by rw [hv]; rfl)]
  rfl
theorem V_lastore {i : Int} {o : Nat} {a : Int64} {v0 : MV} (hv : m_age h o 23 i = some v0) : m_ok xs L mi ((pc, .lastore) :: r) ls (vL a :: vI i :: vR o :: st) h Q ↔ m_ok xs L mi r ls st (m_set h o i.toNat (vL a)) Q := by
  rw [m_ok_step]
  simp only [m_step, m_act, m_last, m_nx]
  rw [if_pos (by rw [hv]; rfl)]
  rfl
theorem V_dastore {i : Int} {o : Nat} {a : UInt64} {v0 : MV} (hv : m_age h o 24 i = some v0) : m_ok xs L mi ((pc, .dastore) :: r) ls (vD a :: vI i :: vR o :: st) h Q ↔ m_ok xs L mi r ls st (m_set h o i.toNat (vD a)) Q := by
  rw [m_ok_step]
  simp only [m_step, m_act, m_dast, m_nx]
  rw [if_pos (by rw [hv]; rfl)]
  rfl
theorem V_bastore {i a : Int} {o : Nat} {v0 : MV} (hv : m_age h o 21 i = some v0) (ha : a = 0 ∨ a = 1) : m_ok xs L mi ((pc, .bastore) :: r) ls (vI a :: vI i :: vR o :: st) h Q ↔ m_ok xs L mi r ls st (m_set h o i.toNat (vI a)) Q := by
  rw [m_ok_step]
  simp only [m_step, m_act, m_zast, m_nx]
  rw [if_pos ⟨ha, by rw [hv]; rfl⟩]
  rfl
theorem V_alen {o n : Nat} (hv : m_len h o = some n) (hn : n < 2147483648) : m_ok xs L mi ((pc, .arraylength) :: r) ls (vR o :: st) h Q ↔ m_ok xs L mi r ls (vI n :: st) h Q := by
  rw [m_ok_step]
  simp only [m_step, m_act, m_alen, hv, if_pos hn, m_nx, m_go]
theorem V_slen : m_ok xs L mi ((pc, .arraylength) :: r) ls (vS :: st) h Q ↔ (0 < L ∧ L ≤ 2147483648) ∧ m_ok xs L mi r ls (vI ((L : Int) - 1) :: st) h Q := by
  rw [m_ok_step]
  simp only [m_step, m_act, m_alen, m_nx]
  split
  · rename_i hc; exact ⟨fun k => ⟨hc, k⟩, fun k => k.2⟩
  · rename_i hc; exact ⟨fun k => k.elim, fun k => absurd k.1 hc⟩
theorem V_throw {k is ic e p1 p2 p3 p4 : Nat} (hk : kR (m_own mi) k = some (1, e)) (hc : cR (m_own mi) ic = some (4, e)) (hs : (sR (m_own mi) is).isSome = true) (h8 : (st.map m_cat).sum ≤ 8) : m_ok xs L mi ((pc, .new k) :: (p1, .dup) :: (p2, .ldc is) :: (p3, .invokespecial ic) :: (p4, .athrow) :: r) ls st h Q ↔ Q (.inr e) (h.1, h.2.1 + 1, h.2.2 + 6) := by
  rw [m_ok_step]
  simp only [m_step, m_act, m_new, hk]
  rw [if_pos ⟨hc, hs, h8⟩]
  rfl
theorem V_throww {k is ic e p1 p2 p3 p4 : Nat} (hk : kR (m_own mi) k = some (1, e)) (hc : cR (m_own mi) ic = some (4, e)) (hs : (sR (m_own mi) is).isSome = true) (h8 : (st.map m_cat).sum ≤ 8) : m_ok xs L mi ((pc, .new k) :: (p1, .dup) :: (p2, .ldc_w is) :: (p3, .invokespecial ic) :: (p4, .athrow) :: r) ls st h Q ↔ Q (.inr e) (h.1, h.2.1 + 1, h.2.2 + 6) := by
  rw [m_ok_step]
  simp only [m_step, m_act, m_new, hk]
  rw [if_pos ⟨hc, hs, h8⟩]
  rfl
theorem V_newo {k ci : Nat} (hk : kR (m_own mi) k = some (0, ci)) : m_ok xs L mi ((pc, .new k) :: r) ls st h Q ↔ m_ok xs L mi r ls (vR h.1.length :: st) (m_push h ci (tD.getD ci [])) Q := by
  rw [m_ok_step]
  simp only [m_step, m_act, m_new, hk, m_nx, m_go]
theorem V_newi {n : Int} : m_ok xs L mi ((pc, .newarray .int) :: r) ls (vI n :: st) h Q ↔ (0 ≤ n ∧ n ≤ 1000) ∧ m_ok xs L mi r ls (vR h.1.length :: st) (m_push h 20 (List.replicate n.toNat (vI 0))) Q := by
  rw [m_ok_step]
  simp only [m_step, m_act, m_newarr, m_nx]
  split
  · rename_i hc; exact ⟨fun k => ⟨hc, k⟩, fun k => k.2⟩
  · rename_i hc; exact ⟨fun k => k.elim, fun k => absurd k.1 hc⟩
theorem V_newz {n : Int} : m_ok xs L mi ((pc, .newarray .boolean) :: r) ls (vI n :: st) h Q ↔ (0 ≤ n ∧ n ≤ 1000) ∧ m_ok xs L mi r ls (vR h.1.length :: st) (m_push h 21 (List.replicate n.toNat (vI 0))) Q := by
  rw [m_ok_step]
  simp only [m_step, m_act, m_newarr, m_nx]
  split
  · rename_i hc; exact ⟨fun k => ⟨hc, k⟩, fun k => k.2⟩
  · rename_i hc; exact ⟨fun k => k.elim, fun k => absurd k.1 hc⟩
theorem V_newf {n : Int} : m_ok xs L mi ((pc, .newarray .float) :: r) ls (vI n :: st) h Q ↔ (0 ≤ n ∧ n ≤ 1000) ∧ m_ok xs L mi r ls (vR h.1.length :: st) (m_push h 22 (List.replicate n.toNat (vF 0))) Q := by
  rw [m_ok_step]
  simp only [m_step, m_act, m_newarr, m_nx]
  split
  · rename_i hc; exact ⟨fun k => ⟨hc, k⟩, fun k => k.2⟩
  · rename_i hc; exact ⟨fun k => k.elim, fun k => absurd k.1 hc⟩
theorem V_newl {n : Int} : m_ok xs L mi ((pc, .newarray .long) :: r) ls (vI n :: st) h Q ↔ (0 ≤ n ∧ n ≤ 1000) ∧ m_ok xs L mi r ls (vR h.1.length :: st) (m_push h 23 (List.replicate n.toNat (vL 0))) Q := by
  rw [m_ok_step]
  simp only [m_step, m_act, m_newarr, m_nx]
  split
  · rename_i hc; exact ⟨fun k => ⟨hc, k⟩, fun k => k.2⟩
  · rename_i hc; exact ⟨fun k => k.elim, fun k => absurd k.1 hc⟩
theorem V_newd {n : Int} : m_ok xs L mi ((pc, .newarray .double) :: r) ls (vI n :: st) h Q ↔ (0 ≤ n ∧ n ≤ 1000) ∧ m_ok xs L mi r ls (vR h.1.length :: st) (m_push h 24 (List.replicate n.toNat (vD 0))) Q := by
  rw [m_ok_step]
  simp only [m_step, m_act, m_newarr, m_nx]
  split
  · rename_i hc; exact ⟨fun k => ⟨hc, k⟩, fun k => k.2⟩
  · rename_i hc; exact ⟨fun k => k.elim, fun k => absurd k.1 hc⟩
theorem V_dup_vI {a : Int} : m_ok xs L mi ((pc, .dup) :: r) ls (vI a :: st) h Q ↔ m_ok xs L mi r ls (vI a :: vI a :: st) h Q := m_ok_step
theorem V_pop_vI {a : Int} : m_ok xs L mi ((pc, .pop) :: r) ls (vI a :: st) h Q ↔ m_ok xs L mi r ls st h Q := m_ok_step
theorem V_dup_vR {a : Nat} : m_ok xs L mi ((pc, .dup) :: r) ls (vR a :: st) h Q ↔ m_ok xs L mi r ls (vR a :: vR a :: st) h Q := m_ok_step
theorem V_pop_vR {a : Nat} : m_ok xs L mi ((pc, .pop) :: r) ls (vR a :: st) h Q ↔ m_ok xs L mi r ls st h Q := m_ok_step
theorem V_dup_vF {a : UInt32} : m_ok xs L mi ((pc, .dup) :: r) ls (vF a :: st) h Q ↔ m_ok xs L mi r ls (vF a :: vF a :: st) h Q := m_ok_step
theorem V_pop_vF {a : UInt32} : m_ok xs L mi ((pc, .pop) :: r) ls (vF a :: st) h Q ↔ m_ok xs L mi r ls st h Q := m_ok_step
theorem V_dup2 {i : Int} {o : Nat} : m_ok xs L mi ((pc, .dup2) :: r) ls (vI i :: vR o :: st) h Q ↔ m_ok xs L mi r ls (vI i :: vR o :: vI i :: vR o :: st) h Q := m_ok_step
theorem V_max {k q : Nat} {a b : Int} (hk : cR (m_own mi) k = some (2, q)) (h8 : (st.map m_cat).sum ≤ 8) : m_ok xs L mi ((pc, .invokestatic k) :: r) ls (vI b :: vI a :: st) h Q ↔ m_ok xs L mi r ls (vI (if a < b then b else a) :: st) h Q := by
  rw [m_ok_step]
  simp only [m_step, m_act, m_invs, hk, if_pos h8, m_nx, m_go]
theorem V_invs {k mj : Nat} {av : List MV} (hk : cR (m_own mi) k = some (1, mj)) (hkd : m_kind mj = 0) (hn : m_narg mj = av.length) (h8 : (st.map m_cat).sum ≤ 8) (h1 : av.all (fun v => decide (m_cat v = 1)) = true) (hm : av.length ≤ m_maxL mj) : m_ok xs L mi ((pc, .invokestatic k) :: r) ls (av ++ st) h Q ↔ m_do xs L mj av.reverse h (m_cont xs L mi pc r ls st Q) := by
  rw [m_ok_step]
  simp only [m_step, m_act, m_invs, hk, m_callA]
  rw [if_pos ⟨hkd, by rw [hn, List.length_append]; omega⟩, hn, List.take_left' rfl, List.drop_left' rfl, if_pos ⟨h8, by rw [List.all_reverse]; exact h1, by rw [List.length_reverse]; exact hm⟩]
  rfl
theorem V_invv {k mj o : Nat} {av : List MV} (hk : cR (m_own mi) k = some (1, mj)) (hkd : m_kind mj = 1) (hn : m_narg mj = av.length) (ht : m_tag h o = some (m_own mj)) (h8 : (st.map m_cat).sum ≤ 8) (h1 : av.all (fun v => decide (m_cat v = 1)) = true) (hm : av.length + 1 ≤ m_maxL mj) : m_ok xs L mi ((pc, .invokevirtual k) :: r) ls (av ++ vR o :: st) h Q ↔ m_do xs L mj (vR o :: av.reverse) h (m_cont xs L mi pc r ls st Q) := by
  rw [m_ok_step]
  simp only [m_step, m_act, m_invv, hk, m_callA]
  rw [hn, List.take_left' rfl, List.drop_left' rfl]
  simp only
  rw [if_pos ⟨hkd, ht⟩, if_pos ⟨h8, by rw [List.all_cons, List.all_reverse, h1]; rfl, by rw [List.length_cons, List.length_reverse]; exact hm⟩]
  rfl
theorem V_invi {k mj o z : Nat} {av : List MV} (hk : cR (m_own mi) k = some (z, mj)) (hz : z = 1 ∨ z = 5) (hkd : m_kind mj = 2) (hn : m_narg mj = av.length) (h8 : (st.map m_cat).sum ≤ 8) (h1 : av.all (fun v => decide (m_cat v = 1)) = true) (hm : av.length + 1 ≤ m_maxL mj) : m_ok xs L mi ((pc, .invokespecial k) :: r) ls (av ++ vR o :: st) h Q ↔ m_do xs L mj (vR o :: av.reverse) h (m_cont xs L mi pc r ls st Q) := by
  rw [m_ok_step]
  rcases hz with rfl | rfl
  all_goals
    simp only [m_step, m_act, m_invi, hk, m_callA]
    rw [hn, List.take_left' rfl, List.drop_left' rfl]
    simp only
    rw [if_pos hkd, if_pos ⟨h8, by rw [List.all_cons, List.all_reverse, h1]; rfl, by rw [List.length_cons, List.length_reverse]; exact hm⟩]
    rfl
theorem V_ireti {a : Int} (hr : m_ret mi = some .int) : m_ok xs L mi ((pc, .ireturn) :: r) ls [vI a] h Q ↔ Q (.inl (some (vI a))) h := by
  rw [m_ok_step]
  simp only [m_step, m_act, m_iret, hr, m_end, m_go]
theorem V_iretz {a : Int} (hr : m_ret mi = some .boolean) : m_ok xs L mi ((pc, .ireturn) :: r) ls [vI a] h Q ↔ (a = 0 ∨ a = 1) ∧ Q (.inl (some (vI a))) h := by
  rw [m_ok_step]
  simp only [m_step, m_act, m_iret, hr, m_end]
  split
  · rename_i hc; exact ⟨fun k => ⟨hc, k⟩, fun k => k.2⟩
  · rename_i hc; exact ⟨fun k => k.elim, fun k => absurd k.1 hc⟩
theorem V_fret {a : UInt32} (hr : m_ret mi = some .float) : m_ok xs L mi ((pc, .freturn) :: r) ls [vF a] h Q ↔ Q (.inl (some (vF a))) h := by
  rw [m_ok_step]
  simp only [m_step, m_act, m_fret, hr, m_end, m_go]
theorem V_aret {o : Nat} {n : String} (hr : m_ret mi = some (.object n)) : m_ok xs L mi ((pc, .areturn) :: r) ls [vR o] h Q ↔ Q (.inl (some (vR o))) h := by
  rw [m_ok_step]
  simp only [m_step, m_act, m_aret, hr, m_end, m_go]
theorem V_vret (hr : m_ret mi = none) : m_ok xs L mi ((pc, .return_) :: r) ls [] h Q ↔ Q (.inl none) h := by
  rw [m_ok_step]
  simp only [m_step, m_act, m_vret, hr, m_end, m_go]
theorem V_cont {v : Option MV} : m_cont xs L mi pc r ls st Q (.inl v) h ↔ m_ok xs L mi r ls (v.toList ++ st) h Q := Iff.rfl
theorem V_contx {e : Nat} (hh : m_hand mi = []) : m_cont xs L mi pc r ls st Q (.inr e) h ↔ Q (.inr e) h := by
  simp only [m_cont, if_pos hh]
end V
