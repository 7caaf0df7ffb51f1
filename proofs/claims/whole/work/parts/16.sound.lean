/-! ===== every run of the small machine is a walk of the machine ===== -/
section G
variable {D : va_G} {Y : Nat → ClassId} {b : Nat} {A0 : Nat → Prop} {xs : Nat → Int32} {L : Nat} {l : Launch}
def m_nxt (xs : Nat → Int32) (L n mi : Nat) (o : MOut) (h' : MHp) : MAct → Prop
  | .inl c => m_run xs L n mi c = some (o, h')
  | .inr (.inl (q, c, pc)) => ∃ o1, m_run xs L n q.1 (m_entry q.1 q.2 c.2.2.2) = some o1 ∧ m_back (m_run xs L n) mi pc c.1 c.2.1 c.2.2.1 o1 = some (o, h')
  | .inr (.inr o2) => o2 = (o, h')
theorem m_nxt_of {n mi : Nat} {o : MOut} {h' : MHp} {c : MCfg} (hrun : m_stepF xs L (m_run xs L n) mi c = some (o, h')) : ∃ a, m_step xs L mi c = some a ∧ m_nxt xs L n mi o h' a := by
  unfold m_stepF at hrun
  split at hrun
  · cases hrun
  · rename_i c2 hc
    exact ⟨_, hc, hrun⟩
  · rename_i q c2 pc hc
    refine ⟨_, hc, ?_⟩
    split at hrun
    · cases hrun
    · rename_i o1 ho1
      exact ⟨o1, ho1, hrun⟩
  · rename_i o2 hc
    exact ⟨_, hc, Option.some.inj hrun⟩
/-- a return -/
theorem g_ret {mi pc : Nat} {i : Instr} {r : MCode} {ls : List MV} {h : MHp} {v : Option MV} (hre : m_RE mi pc v) (hok : m_okL h.1.length v.toList → ∀ w, v = some w → m_okV h.1.length w) : m_G D Y b A0 xs L l (.inl v) h mi ((pc, i) :: r) ls v.toList h := by
  refine ⟨Nat.le_refl _, Nat.le_refl _, ?_⟩
  intro p e R s m args below meth c hC A H locs z1 z2 lsA Q hT hE
  obtain ⟨t1, t2, t3, t4, t5, t6, t7, t8, t9, t10⟩ := id hT
  have k := hE.1 v rfl [] H locs pc lsA (by rw [List.append_nil]; exact t3) t4 (hok t6) hre
  rw [List.append_nil] at k
  exact k
theorem g_alen2 {o : MOut} {h' : MHp} {mi pc q n : Nat} {r : MCode} {ls st : List MV} {h : MHp} (hd : decode (m_cc mi) pc = .ok (.arraylength, 1)) (hg : m_len h q = some n) (hn : n < 2147483648) (K : m_G D Y b A0 xs L l o h' mi r ls (vI n :: st) h) (hp : m_pc r = pc + 1) : m_G D Y b A0 xs L l o h' mi ((pc, .arraylength) :: r) ls (vR q :: st) h := by
  unfold m_len at hg
  split at hg
  · rename_i c hc
    split at hg
    · rename_i h20
      exact g_alen hd ⟨c, hc, Option.some.inj hg, h20⟩ hn K hp
    · cases hg
  · cases hg
theorem m_cat_all {av : List MV} (h : av.all (fun v => decide (m_cat v = 1)) = true) : ∀ v ∈ av, m_cat v = 1 := fun v hv => of_decide_eq_true (List.all_eq_true.mp h v hv)
set_option maxHeartbeats 4000000 in
theorem m_stepSND (hl : l.stackTraces = false) {n : Nat} (ih : m_SND D Y b A0 xs L l n) : m_SND D Y b A0 xs L l (n + 1) := by
  intro mi cd ls st h h' o hrun hmi hvl hlen
  rw [m_run_succ] at hrun
  cases cd with
  | nil => cases hrun
  | cons x r =>
  obtain ⟨pc, i⟩ := x
  obtain ⟨⟨len, hdec, hl2, hnext⟩, hich, hvr⟩ := hvl
  have hd : m_iln i ≠ 0 → decode (m_cc mi) pc = .ok (i, m_iln i) := by
    intro hz
    rcases hl2 with h1 | h1
    · have h1 : m_iln i = len := h1
      rw [h1]; exact hdec
    · exact absurd h1 hz
  have hp0 : r ≠ [] → m_pc r = pc + len := by
    intro hr
    cases r with
    | nil => exact absurd rfl hr
    | cons y t => exact hnext y t rfl
  have hp : m_iln i ≠ 0 → r ≠ [] → m_pc r = pc + m_iln i := by
    intro hz hr
    rcases hl2 with h1 | h1
    · have h1 : m_iln i = len := h1
      rw [h1]; exact hp0 hr
    · exact absurd h1 hz
  have ne : ∀ {c2 : MCode} {ls2 st2 : List MV} {h2 : MHp}, m_run xs L n mi (c2, ls2, st2, h2) = some (o, h') → c2 ≠ [] := by
    intro c2 ls2 st2 h2 hr hz
    rw [hz, m_run_nil] at hr
    cases hr
  obtain ⟨a, hs, hn⟩ := m_nxt_of hrun
  have jo := m_jmp_ok hmi pc
  cases i with
  | iconst n =>
    simp only [m_step, m_act, m_nx, m_ld, m_end] at hs
    split at hs
    · rename_i hc
      cases hs
      exact g_iconst (hd (by simp [m_iln])) (show m_in n from of_decide_eq_true (p := -2147483648 ≤ n ∧ n < 2147483648) hc) (ih _ _ _ _ _ _ _ hn hmi hvr hlen) (hp (by simp [m_iln]) (ne hn))
    · cases hs
  | bipush n =>
    simp only [m_step, m_act, m_nx, m_ld, m_end] at hs
    split at hs
    · rename_i hc
      cases hs
      exact g_bipush (hd (by simp [m_iln])) hc (ih _ _ _ _ _ _ _ hn hmi hvr hlen) (hp (by simp [m_iln]) (ne hn))
    · cases hs
  | sipush n =>
    simp only [m_step, m_act, m_nx, m_ld, m_end] at hs
    split at hs
    · rename_i hc
      cases hs
      exact g_sipush (hd (by simp [m_iln])) hc (ih _ _ _ _ _ _ _ hn hmi hvr hlen) (hp (by simp [m_iln]) (ne hn))
    · cases hs
  | lconst k =>
    simp only [m_step, m_act, m_nx, m_ld, m_end] at hs
    cases hs
    exact g_lconst (hd (by simp [m_iln])) (ih _ _ _ _ _ _ _ hn hmi hvr hlen) (hp (by simp [m_iln]) (ne hn))
  | fconst k =>
    simp only [m_step, m_act, m_nx, m_ld, m_end] at hs
    split at hs
    · rename_i hc
      cases hs
      subst hc
      exact g_fconst (hd (by simp [m_iln])) (ih _ _ _ _ _ _ _ hn hmi hvr hlen) (hp (by simp [m_iln]) (ne hn))
    · cases hs
  | ldc k =>
    simp only [m_step, m_act, m_nx, m_ld, m_end] at hs
    split at hs
    · rename_i v hv
      cases hs
      exact g_ldc (hd (by simp [m_iln])) hv (ih _ _ _ _ _ _ _ hn hmi hvr hlen) (hp (by simp [m_iln]) (ne hn))
    · cases hs
  | ldc_w k =>
    simp only [m_step, m_act, m_nx, m_ld, m_end] at hs
    split at hs
    · rename_i v hv
      cases hs
      exact g_ldcw (hd (by simp [m_iln])) hv (ih _ _ _ _ _ _ _ hn hmi hvr hlen) (hp (by simp [m_iln]) (ne hn))
    · cases hs
  | iload_n k =>
    simp only [m_step, m_act, m_iload, m_nx, m_ld, m_end] at hs
    split at hs
    · rename_i x hv
      cases hs
      exact g_iload_n (hd (by simp [m_iln])) hv (ih _ _ _ _ _ _ _ hn hmi hvr hlen) (hp (by simp [m_iln]) (ne hn))
    · cases hs
  | iload k =>
    simp only [m_step, m_act, m_iload, m_nx, m_ld, m_end] at hs
    split at hs
    · rename_i x hv
      cases hs
      exact g_iload (hd (by simp [m_iln])) hv (ih _ _ _ _ _ _ _ hn hmi hvr hlen) (hp (by simp [m_iln]) (ne hn))
    · cases hs
  | aload_n k =>
    simp only [m_step, m_act, m_aload, m_nx, m_ld, m_end] at hs
    split at hs
    · rename_i x hv
      cases hs
      exact g_aload_n (hd (by simp [m_iln])) hv (ih _ _ _ _ _ _ _ hn hmi hvr hlen) (hp (by simp [m_iln]) (ne hn))
    · rename_i hv
      cases hs
      exact g_sload_n (hd (by simp [m_iln])) hv (ih _ _ _ _ _ _ _ hn hmi hvr hlen) (hp (by simp [m_iln]) (ne hn))
    · cases hs
  | aload k =>
    simp only [m_step, m_act, m_aload, m_nx, m_ld, m_end] at hs
    split at hs
    · rename_i x hv
      cases hs
      exact g_aload (hd (by simp [m_iln])) hv (ih _ _ _ _ _ _ _ hn hmi hvr hlen) (hp (by simp [m_iln]) (ne hn))
    · rename_i hv
      cases hs
      exact g_sload (hd (by simp [m_iln])) hv (ih _ _ _ _ _ _ _ hn hmi hvr hlen) (hp (by simp [m_iln]) (ne hn))
    · cases hs
  | fload_n k =>
    simp only [m_step, m_act, m_fload, m_nx, m_ld, m_end] at hs
    split at hs
    · rename_i x hv
      cases hs
      exact g_fload_n (hd (by simp [m_iln])) hv (ih _ _ _ _ _ _ _ hn hmi hvr hlen) (hp (by simp [m_iln]) (ne hn))
    · cases hs
  | fload k =>
    simp only [m_step, m_act, m_fload, m_nx, m_ld, m_end] at hs
    split at hs
    · rename_i x hv
      cases hs
      exact g_fload (hd (by simp [m_iln])) hv (ih _ _ _ _ _ _ _ hn hmi hvr hlen) (hp (by simp [m_iln]) (ne hn))
    · cases hs
  | istore_n k =>
    simp only [m_step, m_act, m_istore, m_nx, m_ld, m_end] at hs
    split at hs
    · rename_i x st2
      split at hs
      · rename_i hc
        cases hs
        exact g_istore_n (hd (by simp [m_iln])) hc (ih _ _ _ _ _ _ _ hn hmi hvr (by rw [List.length_set]; exact hlen)) (hp (by simp [m_iln]) (ne hn))
      · cases hs
    · cases hs
  | istore k =>
    simp only [m_step, m_act, m_istore, m_nx, m_ld, m_end] at hs
    split at hs
    · rename_i x st2
      split at hs
      · rename_i hc
        cases hs
        exact g_istore (hd (by simp [m_iln])) hc (ih _ _ _ _ _ _ _ hn hmi hvr (by rw [List.length_set]; exact hlen)) (hp (by simp [m_iln]) (ne hn))
      · cases hs
    · cases hs
  | astore_n k =>
    simp only [m_step, m_act, m_astore, m_nx, m_ld, m_end] at hs
    split at hs
    · rename_i x st2
      split at hs
      · rename_i hc
        cases hs
        exact g_astore_n (hd (by simp [m_iln])) hc (ih _ _ _ _ _ _ _ hn hmi hvr (by rw [List.length_set]; exact hlen)) (hp (by simp [m_iln]) (ne hn))
      · cases hs
    · cases hs
  | astore k =>
    simp only [m_step, m_act, m_astore, m_nx, m_ld, m_end] at hs
    split at hs
    · rename_i x st2
      split at hs
      · rename_i hc
        cases hs
        exact g_astore (hd (by simp [m_iln])) hc (ih _ _ _ _ _ _ _ hn hmi hvr (by rw [List.length_set]; exact hlen)) (hp (by simp [m_iln]) (ne hn))
      · cases hs
    · cases hs
  | fstore_n k =>
    simp only [m_step, m_act, m_fstore, m_nx, m_ld, m_end] at hs
    split at hs
    · rename_i x st2
      split at hs
      · rename_i hc
        cases hs
        exact g_fstore_n (hd (by simp [m_iln])) hc (ih _ _ _ _ _ _ _ hn hmi hvr (by rw [List.length_set]; exact hlen)) (hp (by simp [m_iln]) (ne hn))
      · cases hs
    · cases hs
  | fstore k =>
    simp only [m_step, m_act, m_fstore, m_nx, m_ld, m_end] at hs
    split at hs
    · rename_i x st2
      split at hs
      · rename_i hc
        cases hs
        exact g_fstore (hd (by simp [m_iln])) hc (ih _ _ _ _ _ _ _ hn hmi hvr (by rw [List.length_set]; exact hlen)) (hp (by simp [m_iln]) (ne hn))
      · cases hs
    · cases hs
  | iinc k n =>
    simp only [m_step, m_act, m_iinc, m_nx, m_ld, m_end] at hs
    split at hs
    · rename_i x hv
      cases hs
      exact g_iinc (hd (by simp [m_iln])) hv (ih _ _ _ _ _ _ _ hn hmi hvr (by rw [List.length_set]; exact hlen)) (hp (by simp [m_iln]) (ne hn))
    · cases hs
  | iadd =>
    simp only [m_step, m_act, m_bin, m_nx, m_ld, m_end] at hs
    split at hs
    · rename_i x y st2
      cases hs
      exact g_iadd (hd (by simp [m_iln])) (ih _ _ _ _ _ _ _ hn hmi hvr hlen) (hp (by simp [m_iln]) (ne hn))
    · cases hs
  | isub =>
    simp only [m_step, m_act, m_bin, m_nx, m_ld, m_end] at hs
    split at hs
    · rename_i x y st2
      cases hs
      exact g_isub (hd (by simp [m_iln])) (ih _ _ _ _ _ _ _ hn hmi hvr hlen) (hp (by simp [m_iln]) (ne hn))
    · cases hs
  | imul =>
    simp only [m_step, m_act, m_bin, m_nx, m_ld, m_end] at hs
    split at hs
    · rename_i x y st2
      cases hs
      exact g_imul (hd (by simp [m_iln])) (ih _ _ _ _ _ _ _ hn hmi hvr hlen) (hp (by simp [m_iln]) (ne hn))
    · cases hs
  | iand =>
    simp only [m_step, m_act, m_bin, m_nx, m_ld, m_end] at hs
    split at hs
    · rename_i x y st2
      cases hs
      exact g_iand (hd (by simp [m_iln])) (ih _ _ _ _ _ _ _ hn hmi hvr hlen) (hp (by simp [m_iln]) (ne hn))
    · cases hs
  | ishr =>
    simp only [m_step, m_act, m_bin, m_nx, m_ld, m_end] at hs
    split at hs
    · rename_i x y st2
      cases hs
      exact g_ishr (hd (by simp [m_iln])) (ih _ _ _ _ _ _ _ hn hmi hvr hlen) (hp (by simp [m_iln]) (ne hn))
    · cases hs
  | idiv =>
    simp only [m_step, m_act, m_dbin, m_nx, m_ld, m_end] at hs
    split at hs
    · rename_i x y st2
      split at hs
      · cases hs
      · rename_i hc
        cases hs
        exact g_idiv (hd (by simp [m_iln])) hc (ih _ _ _ _ _ _ _ hn hmi hvr hlen) (hp (by simp [m_iln]) (ne hn))
    · cases hs
  | irem =>
    simp only [m_step, m_act, m_dbin, m_nx, m_ld, m_end] at hs
    split at hs
    · rename_i x y st2
      split at hs
      · cases hs
      · rename_i hc
        cases hs
        exact g_irem (hd (by simp [m_iln])) hc (ih _ _ _ _ _ _ _ hn hmi hvr hlen) (hp (by simp [m_iln]) (ne hn))
    · cases hs
  | i2l =>
    simp only [m_step, m_act, m_i2l, m_nx, m_ld, m_end] at hs
    split at hs
    · rename_i x st2
      cases hs
      exact g_i2l (hd (by simp [m_iln])) (ih _ _ _ _ _ _ _ hn hmi hvr hlen) (hp (by simp [m_iln]) (ne hn))
    · cases hs
  | i2f =>
    simp only [m_step, m_act, m_i2f, m_nx, m_ld, m_end] at hs
    split at hs
    · rename_i x st2
      cases hs
      exact g_i2f (hd (by simp [m_iln])) (ih _ _ _ _ _ _ _ hn hmi hvr hlen) (hp (by simp [m_iln]) (ne hn))
    · cases hs
  | f2d =>
    simp only [m_step, m_act, m_f2d, m_nx, m_ld, m_end] at hs
    split at hs
    · rename_i x st2
      split at hs
      · rename_i hc
        cases hs
        exact g_f2d (hd (by simp [m_iln])) hc (ih _ _ _ _ _ _ _ hn hmi hvr hlen) (hp (by simp [m_iln]) (ne hn))
      · cases hs
    · cases hs
  | fmul =>
    simp only [m_step, m_act, m_fbin, m_nx, m_ld, m_end] at hs
    split at hs
    · rename_i x y st2
      split at hs
      · rename_i hc
        cases hs
        exact g_fmul (hd (by simp [m_iln])) hc (ih _ _ _ _ _ _ _ hn hmi hvr hlen) (hp (by simp [m_iln]) (ne hn))
      · cases hs
    · cases hs
  | fdiv =>
    simp only [m_step, m_act, m_fbin, m_nx, m_ld, m_end] at hs
    split at hs
    · rename_i x y st2
      split at hs
      · rename_i hc
        cases hs
        exact g_fdiv (hd (by simp [m_iln])) hc (ih _ _ _ _ _ _ _ hn hmi hvr hlen) (hp (by simp [m_iln]) (ne hn))
      · cases hs
    · cases hs
  | fcmp op =>
    simp only [m_step, m_act, m_fcmp, m_nx, m_ld, m_end] at hs
    split at hs
    · rename_i x y st2
      cases hs
      exact g_fcmp (hd (by simp [m_iln])) (ih _ _ _ _ _ _ _ hn hmi hvr hlen) (hp (by simp [m_iln]) (ne hn))
    · cases hs
  | dcmp op =>
    simp only [m_step, m_act, m_dcmp, m_nx, m_ld, m_end] at hs
    split at hs
    · rename_i x y st2
      cases hs
      exact g_dcmp (hd (by simp [m_iln])) (ih _ _ _ _ _ _ _ hn hmi hvr hlen) (hp (by simp [m_iln]) (ne hn))
    · cases hs
  | lcmp =>
    simp only [m_step, m_act, m_lcmp, m_nx, m_ld, m_end] at hs
    split at hs
    · rename_i x y st2
      cases hs
      exact g_lcmp (hd (by simp [m_iln])) (ih _ _ _ _ _ _ _ hn hmi hvr hlen) (hp (by simp [m_iln]) (ne hn))
    · cases hs
  | ifCond c off =>
    simp only [m_step, m_act, m_if, m_nx, m_ld, m_end] at hs
    split at hs
    · rename_i x st2
      split at hs
      · rename_i hc
        cases hs
        exact g_if_t (hd (by simp [m_iln])) hc (ih _ _ _ _ _ _ _ hn hmi (jo off).1 hlen) ((jo off).2 (ne hn))
      · rename_i hc
        cases hs
        exact g_if_f (j := [(((pc : Int) + off).toNat, Instr.nop)]) (hd (by simp [m_iln])) hc (ih _ _ _ _ _ _ _ hn hmi hvr hlen) (hp (by simp [m_iln]) (ne hn)) (Int.toNat_of_nonneg (of_decide_eq_true hich)).symm
    · cases hs
  | if_icmp c off =>
    simp only [m_step, m_act, m_icmp, m_nx, m_ld, m_end] at hs
    split at hs
    · rename_i x y st2
      split at hs
      · rename_i hc
        cases hs
        exact g_icmp_t (hd (by simp [m_iln])) hc (ih _ _ _ _ _ _ _ hn hmi (jo off).1 hlen) ((jo off).2 (ne hn))
      · rename_i hc
        cases hs
        exact g_icmp_f (j := [(((pc : Int) + off).toNat, Instr.nop)]) (hd (by simp [m_iln])) hc (ih _ _ _ _ _ _ _ hn hmi hvr hlen) (hp (by simp [m_iln]) (ne hn)) (Int.toNat_of_nonneg (of_decide_eq_true hich)).symm
    · cases hs
  | goto off =>
    simp only [m_step, m_act, m_nx, m_ld, m_end] at hs
    cases hs
    exact g_goto (hd (by simp [m_iln])) (ih _ _ _ _ _ _ _ hn hmi (jo off).1 hlen) ((jo off).2 (ne hn))
  | tableswitch d lo hi offs =>
    simp only [m_step, m_act, m_sw, m_nx, m_ld, m_end] at hs
    split at hs
    · rename_i x st2
      split at hs
      · rename_i hc
        cases hs
        exact g_sw_out hdec hc (ih _ _ _ _ _ _ _ hn hmi (jo d).1 hlen) ((jo d).2 (ne hn))
      · rename_i hc
        split at hs
        · rename_i off ho
          cases hs
          exact g_sw_in hdec hc ho (ih _ _ _ _ _ _ _ hn hmi (jo off).1 hlen) ((jo off).2 (ne hn))
        · cases hs
    · cases hs
  | getfield k =>
    simp only [m_step, m_act, m_getf, m_nx, m_ld, m_end] at hs
    split at hs
    · rename_i ci f tk fin q st2 hf
      split at hs
      · rename_i v hv
        cases hs
        exact g_getf (hd (by simp [m_iln])) hf hv (ih _ _ _ _ _ _ _ hn hmi hvr hlen) (hp (by simp [m_iln]) (ne hn))
      · cases hs
    · cases hs
  | putfield k =>
    simp only [m_step, m_act, m_putf, m_nx, m_ld, m_end] at hs
    split at hs
    · rename_i ci f tk fin v q st2 hf
      split at hs
      · rename_i hc
        cases hs
        exact g_putf (hd (by simp [m_iln])) hf hc.1 hc.2.1 hc.2.2 (by
      cases fin with
      | false => exact Or.inr rfl
      | true =>
        refine Or.inl (Nat.lt_of_le_of_ne (by omega) (fun z => ?_))
        have h9 := (hc.2.2 rfl).1
        rw [z] at h9
        exact absurd h9 (by decide +kernel)) (ih _ _ _ _ _ _ _ hn hmi hvr hlen) (hp (by simp [m_iln]) (ne hn))
      · cases hs
    · cases hs
  | iaload =>
    simp only [m_step, m_act, m_iald, m_nx, m_ld, m_end] at hs
    split at hs
    · rename_i x q st2
      split at hs
      · rename_i v hv
        cases hs
        exact g_iald (hd (by simp [m_iln])) hv (ih _ _ _ _ _ _ _ hn hmi hvr hlen) (hp (by simp [m_iln]) (ne hn))
      · cases hs
    · rename_i x st2
      split at hs
      · rename_i hc
        cases hs
        exact g_sald (hd (by simp [m_iln])) hc.1 hc.2 (ih _ _ _ _ _ _ _ hn hmi hvr hlen) (hp (by simp [m_iln]) (ne hn))
      · cases hs
    · cases hs
  | baload =>
    simp only [m_step, m_act, m_zald, m_nx, m_ld, m_end] at hs
    split at hs
    · rename_i x q st2
      split at hs
      · rename_i v hv
        cases hs
        exact g_zald (hd (by simp [m_iln])) hv (ih _ _ _ _ _ _ _ hn hmi hvr hlen) (hp (by simp [m_iln]) (ne hn))
      · cases hs
    · cases hs
  | faload =>
    simp only [m_step, m_act, m_fald, m_nx, m_ld, m_end] at hs
    split at hs
    · rename_i x q st2
      split at hs
      · rename_i v hv
        cases hs
        exact g_fald (hd (by simp [m_iln])) hv (ih _ _ _ _ _ _ _ hn hmi hvr hlen) (hp (by simp [m_iln]) (ne hn))
      · cases hs
    · cases hs
  | laload =>
    simp only [m_step, m_act, m_lald, m_nx, m_ld, m_end] at hs
    split at hs
    · rename_i x q st2
      split at hs
      · rename_i v hv
        cases hs
        exact g_lald (hd (by simp [m_iln])) hv (ih _ _ _ _ _ _ _ hn hmi hvr hlen) (hp (by simp [m_iln]) (ne hn))
      · cases hs
    · cases hs
  | daload =>
    simp only [m_step, m_act, m_dald, m_nx, m_ld, m_end] at hs
    split at hs
    · rename_i x q st2
      split at hs
      · rename_i v hv
        cases hs
        exact g_dald (hd (by simp [m_iln])) hv (ih _ _ _ _ _ _ _ hn hmi hvr hlen) (hp (by simp [m_iln]) (ne hn))
      · cases hs
    · cases hs
  | aaload =>
    simp only [m_step, m_act, m_aald, m_nx, m_ld, m_end] at hs
    split at hs
    · rename_i x q st2
      split at hs
      · rename_i t ht
        split at hs
        · rename_i hc
          split at hs
          · rename_i z hv
            cases hs
            exact g_aald (hd (by simp [m_iln])) hc.1 hc.2 hv (ih _ _ _ _ _ _ _ hn hmi hvr hlen) (hp (by simp [m_iln]) (ne hn))
          · cases hs
        · cases hs
      · cases hs
    · cases hs
  | iastore =>
    simp only [m_step, m_act, m_iast, m_nx, m_ld, m_end] at hs
    split at hs
    · rename_i x y q st2
      split at hs
      · rename_i hc
        cases hs
        exact g_iast (hd (by simp [m_iln])) hc (ih _ _ _ _ _ _ _ hn hmi hvr hlen) (hp (by simp [m_iln]) (ne hn))
      · cases hs
    · cases hs
  | fastore =>
    simp only [m_step, m_act, m_fast, m_nx, m_ld, m_end] at hs
    split at hs
    · rename_i x y q st2
      split at hs
      · rename_i hc
        cases hs
        exact g_fast (hd (by simp [m_iln])) hc (ih _ _ _ _ _ _ _ hn hmi hvr hlen) (hp (by simp [m_iln]) (ne hn))
      · cases hs
    · cases hs
  | lastore =>
    simp only [m_step, m_act, m_last, m_nx, m_ld, m_end] at hs
    split at hs
    · rename_i x y q st2
      split at hs
      · rename_i hc
        cases hs
        exact g_last (hd (by simp [m_iln])) hc (ih _ _ _ _ _ _ _ hn hmi hvr hlen) (hp (by simp [m_iln]) (ne hn))
      · cases hs
    · cases hs
  | dastore =>
    simp only [m_step, m_act, m_dast, m_nx, m_ld, m_end] at hs
    split at hs
    · rename_i x y q st2
      split at hs
      · rename_i hc
        cases hs
        exact g_dast (hd (by simp [m_iln])) hc (ih _ _ _ _ _ _ _ hn hmi hvr hlen) (hp (by simp [m_iln]) (ne hn))
      · cases hs
    · cases hs
  | bastore =>
    simp only [m_step, m_act, m_zast, m_nx, m_ld, m_end] at hs
    split at hs
    · rename_i x y q st2
      split at hs
      · rename_i hc
        cases hs
        exact g_zast (hd (by simp [m_iln])) hc.1 hc.2 (ih _ _ _ _ _ _ _ hn hmi hvr hlen) (hp (by simp [m_iln]) (ne hn))
      · cases hs
    · cases hs
  | aastore =>
    simp only [m_step, m_act, m_aast, m_nx, m_ld, m_end] at hs
    split at hs
    · rename_i z x q st2
      split at hs
      · rename_i t ht
        split at hs
        · rename_i hc
          cases hs
          exact g_aast (hd (by simp [m_iln])) ht hc.1 hc.2 (ih _ _ _ _ _ _ _ hn hmi hvr hlen) (hp (by simp [m_iln]) (ne hn))
        · cases hs
      · cases hs
    · cases hs
  | arraylength =>
    simp only [m_step, m_act, m_alen, m_nx, m_ld, m_end] at hs
    split at hs
    · rename_i q st2
      split at hs
      · rename_i nn hv
        split at hs
        · rename_i hc
          cases hs
          exact g_alen2 (hd (by simp [m_iln])) hv hc (ih _ _ _ _ _ _ _ hn hmi hvr hlen) (hp (by simp [m_iln]) (ne hn))
        · cases hs
      · cases hs
    · rename_i st2
      split at hs
      · rename_i hc
        cases hs
        exact g_slen (hd (by simp [m_iln])) hc.1 hc.2 (ih _ _ _ _ _ _ _ hn hmi hvr hlen) (hp (by simp [m_iln]) (ne hn))
      · cases hs
    · cases hs
  | newarray at0 =>
    cases at0 <;> simp only [m_step, m_act, m_newarr, m_nx] at hs
    · split at hs
      · rename_i x st2
        split at hs
        · rename_i hc
          cases hs
          exact g_newz (hd (by simp [m_iln])) hc (ih _ _ _ _ _ _ _ hn hmi hvr hlen) (hp (by simp [m_iln]) (ne hn))
        · cases hs
      · cases hs
    · cases hs
    · split at hs
      · rename_i x st2
        split at hs
        · rename_i hc
          cases hs
          exact g_newf (hd (by simp [m_iln])) hc (ih _ _ _ _ _ _ _ hn hmi hvr hlen) (hp (by simp [m_iln]) (ne hn))
        · cases hs
      · cases hs
    · split at hs
      · rename_i x st2
        split at hs
        · rename_i hc
          cases hs
          exact g_newd (hd (by simp [m_iln])) hc (ih _ _ _ _ _ _ _ hn hmi hvr hlen) (hp (by simp [m_iln]) (ne hn))
        · cases hs
      · cases hs
    · cases hs
    · cases hs
    · split at hs
      · rename_i x st2
        split at hs
        · rename_i hc
          cases hs
          exact g_newi (hd (by simp [m_iln])) hc (ih _ _ _ _ _ _ _ hn hmi hvr hlen) (hp (by simp [m_iln]) (ne hn))
        · cases hs
      · cases hs
    · split at hs
      · rename_i x st2
        split at hs
        · rename_i hc
          cases hs
          exact g_newl (hd (by simp [m_iln])) hc (ih _ _ _ _ _ _ _ hn hmi hvr hlen) (hp (by simp [m_iln]) (ne hn))
        · cases hs
      · cases hs
  | anewarray k =>
    simp only [m_step, m_act, m_nx, m_ld, m_end] at hs
    split at hs
    · rename_i ci hk
      split at hs
      · rename_i hoa
        simp only [m_newarr, m_nx] at hs
        split at hs
        · rename_i x st2
          split at hs
          · rename_i hc
            cases hs
            exact g_newq (hd (by simp [m_iln])) hk hoa hc (ih _ _ _ _ _ _ _ hn hmi hvr hlen) (hp (by simp [m_iln]) (ne hn))
          · cases hs
        · cases hs
      · cases hs
    · cases hs
  | new k =>
    simp only [m_step, m_act, m_new, m_nx] at hs
    split at hs
    · rename_i ci hk
      cases hs
      exact g_new (hd (by simp [m_iln])) hk (ih _ _ _ _ _ _ _ hn hmi hvr hlen) (hp (by simp [m_iln]) (ne hn))
    · rename_i ex hk
      split at hs
      · rename_i q1 q2 is q3 ic q4 r4
        split at hs
        · rename_i hc
          cases hs
          have hn : (Sum.inr ex, (h.1, h.2.1 + 1, h.2.2 + 6)) = (o, h') := hn
          cases hn
          obtain ⟨⟨n1, e1, f1, g1⟩, -, ⟨n2, e2, f2, g2⟩, -, ⟨n3, e3, f3, g3⟩, hk3, ⟨n4, e4, f4, -⟩, -⟩ := hvr
          have hpn := hp (by simp [m_iln]) (List.cons_ne_nil _ _)
          have x1 : q1 = pc + 3 := hpn
          have y1 : n1 = 1 := by rcases f1 with z | z <;> cases z; rfl
          have y2 : n2 = 2 := by rcases f2 with z | z <;> cases z; rfl
          have y3 : n3 = 3 := by rcases f3 with z | z <;> cases z; rfl
          subst y1; subst y2; subst y3
          have x2 : q2 = q1 + 1 := g1 _ _ rfl
          have x3 : q3 = q2 + 2 := g2 _ _ rfl
          have x4 : q4 = q3 + 3 := g3 _ _ rfl
          subst x4; subst x3; subst x2; subst x1
          have y4 : n4 = 1 := by rcases f4 with z | z <;> cases z; rfl
          subst y4
          have hkc : m_kchk mi (cR (m_own mi) ic) = true := hk3
          rw [hc.1] at hkc
          simp only [m_kchk, Bool.and_eq_true, decide_eq_true_eq, List.isEmpty_iff] at hkc
          exact g_throw (nl := 2) (hd (by simp [m_iln])) hk hc.1 hc.2.1 hc.2.2 (Or.inl ⟨rfl, rfl⟩) e1 e2 e3 e4 hkc.1 hkc.2 hlen hl
        · cases hs
      · rename_i q1 q2 is q3 ic q4 r4
        split at hs
        · rename_i hc
          cases hs
          have hn : (Sum.inr ex, (h.1, h.2.1 + 1, h.2.2 + 6)) = (o, h') := hn
          cases hn
          obtain ⟨⟨n1, e1, f1, g1⟩, -, ⟨n2, e2, f2, g2⟩, -, ⟨n3, e3, f3, g3⟩, hk3, ⟨n4, e4, f4, -⟩, -⟩ := hvr
          have hpn := hp (by simp [m_iln]) (List.cons_ne_nil _ _)
          have x1 : q1 = pc + 3 := hpn
          have y1 : n1 = 1 := by rcases f1 with z | z <;> cases z; rfl
          have y2 : n2 = 3 := by rcases f2 with z | z <;> cases z; rfl
          have y3 : n3 = 3 := by rcases f3 with z | z <;> cases z; rfl
          have y4 : n4 = 1 := by rcases f4 with z | z <;> cases z; rfl
          subst y1; subst y2; subst y3; subst y4
          have x2 : q2 = q1 + 1 := g1 _ _ rfl
          have x3 : q3 = q2 + 3 := g2 _ _ rfl
          have x4 : q4 = q3 + 3 := g3 _ _ rfl
          subst x4; subst x3; subst x2; subst x1
          have hkc : m_kchk mi (cR (m_own mi) ic) = true := hk3
          rw [hc.1] at hkc
          simp only [m_kchk, Bool.and_eq_true, decide_eq_true_eq, List.isEmpty_iff] at hkc
          exact g_throw (nl := 3) (hd (by simp [m_iln])) hk hc.1 hc.2.1 hc.2.2 (Or.inr ⟨rfl, rfl⟩) e1 e2 e3 e4 hkc.1 hkc.2 hlen hl
        · cases hs
      · cases hs
    · cases hs
  | dup =>
    simp only [m_step, m_act, m_dup, m_nx, m_ld, m_end] at hs
    split at hs
    · rename_i v st2
      split at hs
      · rename_i hc
        cases hs
        exact g_dup (hd (by simp [m_iln])) hc (ih _ _ _ _ _ _ _ hn hmi hvr hlen) (hp (by simp [m_iln]) (ne hn))
      · cases hs
    · cases hs
  | dup2 =>
    simp only [m_step, m_act, m_dup2, m_nx, m_ld, m_end] at hs
    split at hs
    · rename_i v w st2
      split at hs
      · rename_i hc
        cases hs
        exact g_dup2 (hd (by simp [m_iln])) hc.1 hc.2 (ih _ _ _ _ _ _ _ hn hmi hvr hlen) (hp (by simp [m_iln]) (ne hn))
      · cases hs
    · cases hs
  | pop =>
    simp only [m_step, m_act, m_pop, m_nx, m_ld, m_end] at hs
    split at hs
    · rename_i v st2
      split at hs
      · rename_i hc
        cases hs
        exact g_pop (hd (by simp [m_iln])) hc (ih _ _ _ _ _ _ _ hn hmi hvr hlen) (hp (by simp [m_iln]) (ne hn))
      · cases hs
    · cases hs
  | invokestatic k =>
    simp only [m_step, m_act, m_invs, m_callA, m_nx] at hs
    have hich : m_kchk mi (cR (m_own mi) k) = true := hich
    split at hs
    · rename_i mj hk
      rw [hk] at hich
      simp only [m_kchk, decide_eq_true_eq] at hich
      split at hs
      · rename_i hc
        split at hs
        · rename_i hc2
          cases hs
          obtain ⟨o1, hr1, hb1⟩ := hn
          have hav : (st.take (m_narg mj)).reverse.length = m_narg mj := by rw [List.length_reverse, List.length_take]; omega
          have e : st = (st.take (m_narg mj)).reverse.reverse ++ st.drop (m_narg mj) := by rw [List.reverse_reverse, List.take_append_drop]
          rw [e]
          exact g_invs ih (hd (by simp [m_iln])) hk hc.1 hav hich (m_cat_all hc2.2.1) hc2.2.2 hc2.1 hl hmi hlen hvr (hp (by simp [m_iln])) (fun _ => trivial) hr1 hb1 (fun h9 w hw => h9 w (List.mem_append_left _ (List.mem_reverse.mpr hw)))
        · cases hs
      · cases hs
    · rename_i q hk
      rw [hk] at hich
      simp only [m_kchk, decide_eq_true_eq] at hich
      split at hs
      · rename_i x y st2
        split at hs
        · rename_i hc
          cases hs
          exact g_max (hd (by simp [m_iln])) hk hich hc hlen (ih _ _ _ _ _ _ _ hn hmi hvr hlen) (hp (by simp [m_iln]) (ne hn))
        · cases hs
      · cases hs
    · cases hs
  | invokevirtual k =>
    simp only [m_step, m_act, m_invv, m_callA, m_nx] at hs
    have hich : m_kchk mi (cR (m_own mi) k) = true := hich
    split at hs
    · rename_i mj hk
      rw [hk] at hich
      simp only [m_kchk, decide_eq_true_eq] at hich
      split at hs
      · rename_i z st2 hst
        split at hs
        · rename_i hc
          split at hs
          · rename_i hc2
            cases hs
            obtain ⟨o1, hr1, hb1⟩ := hn
            have hle : m_narg mj < st.length := by
              rcases Nat.lt_or_ge (m_narg mj) st.length with h9 | h9
              · exact h9
              · rw [List.drop_eq_nil_of_le h9] at hst; cases hst
            have hav : (st.take (m_narg mj)).reverse.length = m_narg mj := by rw [List.length_reverse, List.length_take]; omega
            have e : st = (st.take (m_narg mj)).reverse.reverse ++ vR z :: st2 := by rw [List.reverse_reverse, ← hst, List.take_append_drop]
            rw [e]
            have hcat := m_cat_all hc2.2.1
            exact g_invv ih (hd (by simp [m_iln])) hk hc.1 hc.2 hav hich (fun v hv => hcat v (List.mem_cons_of_mem _ hv)) hc2.2.2 hc2.1 hl hmi hlen hvr (hp (by simp [m_iln])) hr1 hb1
          · cases hs
        · cases hs
      · cases hs
    · cases hs
  | invokespecial k =>
    simp only [m_step, m_act, m_invi, m_callA, m_nx] at hs
    have hich : m_kchk mi (cR (m_own mi) k) = true := hich
    split at hs
    · rename_i mj hk
      rw [hk] at hich
      simp only [m_kchk, decide_eq_true_eq] at hich
      split at hs
      · rename_i z st2 hst
        split at hs
        · rename_i hc
          split at hs
          · rename_i hc2
            cases hs
            obtain ⟨o1, hr1, hb1⟩ := hn
            have hle : m_narg mj < st.length := by
              rcases Nat.lt_or_ge (m_narg mj) st.length with h9 | h9
              · exact h9
              · rw [List.drop_eq_nil_of_le h9] at hst; cases hst
            have hav : (st.take (m_narg mj)).reverse.length = m_narg mj := by rw [List.length_reverse, List.length_take]; omega
            have e : st = (st.take (m_narg mj)).reverse.reverse ++ vR z :: st2 := by rw [List.reverse_reverse, ← hst, List.take_append_drop]
            rw [e]
            have hcat := m_cat_all hc2.2.1
            exact g_invi ih (hd (by simp [m_iln])) hk (Or.inl rfl) hc hav hich (fun v hv => hcat v (List.mem_cons_of_mem _ hv)) hc2.2.2 hc2.1 hl hmi hlen hvr (hp (by simp [m_iln])) hr1 hb1
          · cases hs
        · cases hs
      · cases hs
    · rename_i mj hk
      rw [hk] at hich
      simp only [m_kchk, decide_eq_true_eq] at hich
      split at hs
      · rename_i z st2 hst
        split at hs
        · rename_i hc
          split at hs
          · rename_i hc2
            cases hs
            obtain ⟨o1, hr1, hb1⟩ := hn
            have hle : m_narg mj < st.length := by
              rcases Nat.lt_or_ge (m_narg mj) st.length with h9 | h9
              · exact h9
              · rw [List.drop_eq_nil_of_le h9] at hst; cases hst
            have hav : (st.take (m_narg mj)).reverse.length = m_narg mj := by rw [List.length_reverse, List.length_take]; omega
            have e : st = (st.take (m_narg mj)).reverse.reverse ++ vR z :: st2 := by rw [List.reverse_reverse, ← hst, List.take_append_drop]
            rw [e]
            have hcat := m_cat_all hc2.2.1
            exact g_invi ih (hd (by simp [m_iln])) hk (Or.inr rfl) hc hav hich (fun v hv => hcat v (List.mem_cons_of_mem _ hv)) hc2.2.2 hc2.1 hl hmi hlen hvr (hp (by simp [m_iln])) hr1 hb1
          · cases hs
        · cases hs
      · cases hs
    · rename_i q hk
      rw [hk] at hich
      simp only [m_kchk, decide_eq_true_eq] at hich
      split at hs
      · rename_i z st2
        split at hs
        · rename_i hc
          cases hs
          exact g_obj (hd (by simp [m_iln])) hk hich hc hlen (ih _ _ _ _ _ _ _ hn hmi hvr hlen) (hp (by simp [m_iln]) (ne hn))
        · cases hs
      · cases hs
    · cases hs
  | ireturn =>
    simp only [m_step, m_act, m_iret, m_end] at hs
    split at hs
    · rename_i x ht
      cases hs
      have hn : (Sum.inl (some (vI x)), h) = (o, h') := hn
      cases hn
      exact g_ret (Or.inl ⟨x, rfl, Or.inl ht, hd (by simp [m_iln])⟩) (fun h2 w hw => by cases hw; exact h2.head)
    · rename_i x ht
      split at hs
      · rename_i hc
        cases hs
        have hn : (Sum.inl (some (vI x)), h) = (o, h') := hn
        cases hn
        exact g_ret (Or.inl ⟨x, rfl, Or.inr ⟨ht, hc⟩, hd (by simp [m_iln])⟩) (fun h2 w hw => by cases hw; exact h2.head)
      · cases hs
    · cases hs
  | freturn =>
    simp only [m_step, m_act, m_fret, m_end] at hs
    split at hs
    · rename_i x ht
      cases hs
      have hn : (Sum.inl (some (vF x)), h) = (o, h') := hn
      cases hn
      exact g_ret (Or.inr (Or.inl ⟨x, rfl, ht, hd (by simp [m_iln])⟩)) (fun h2 w hw => by cases hw; exact h2.head)
    · cases hs
  | areturn =>
    simp only [m_step, m_act, m_aret, m_end] at hs
    split at hs
    · rename_i nn x ht
      cases hs
      have hn : (Sum.inl (some (vR x)), h) = (o, h') := hn
      cases hn
      exact g_ret (Or.inr (Or.inr (Or.inl ⟨x, nn, rfl, ht, hd (by simp [m_iln])⟩))) (fun h2 w hw => by cases hw; exact h2.head)
    · cases hs
  | return_ =>
    simp only [m_step, m_act, m_vret, m_end] at hs
    split at hs
    · rename_i ht
      cases hs
      have hn : (Sum.inl none, h) = (o, h') := hn
      cases hn
      exact g_ret (v := none) (Or.inr (Or.inr (Or.inr ⟨rfl, ht, hd (by simp [m_iln])⟩))) (fun h2 w hw => by cases hw)
    · cases hs
  | _ => cases hs
theorem m_sound (hl : l.stackTraces = false) : ∀ n, m_SND D Y b A0 xs L l n
  | 0 => fun mi cd ls st h h' o hrun => by cases hrun
  | n + 1 => m_stepSND hl (m_sound hl n)
end G
