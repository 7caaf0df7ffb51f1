/-! ===== the small machine, reasoned about: what a run's end keeps ===== -/
theorem m_back_mono {ih ih2 : Nat → MCfg → Option (MOut × MHp)} (H : ∀ mi c o, ih mi c = some o → ih2 mi c = some o) {mi pc : Nat} {r : MCode} {ls st : List MV} {o1 o2 : MOut × MHp} (h : m_back ih mi pc r ls st o1 = some o2) : m_back ih2 mi pc r ls st o1 = some o2 := by
  obtain ⟨o, h1⟩ := o1
  cases o with
  | inl v => exact H _ _ _ h
  | inr e =>
    simp only [m_back] at h ⊢
    split at h
    · rename_i h9
      rw [if_pos h9]; exact h
    · rename_i h9
      rw [if_neg h9]
      split at h
      · exact H _ _ _ h
      · cases h
theorem m_stepF_mono {xs : Nat → Int32} {L : Nat} {ih ih2 : Nat → MCfg → Option (MOut × MHp)} (H : ∀ mi c o, ih mi c = some o → ih2 mi c = some o) {mi : Nat} {c : MCfg} {o : MOut × MHp} (h : m_stepF xs L ih mi c = some o) : m_stepF xs L ih2 mi c = some o := by
  unfold m_stepF at h ⊢
  cases hs : m_step xs L mi c with
  | none => rw [hs] at h; cases h
  | some a =>
    rw [hs] at h
    rcases a with c2 | ⟨q, c2, pc⟩ | o2
    · exact H _ _ _ h
    · simp only at h ⊢
      cases hq : ih q.1 (m_entry q.1 q.2 c2.2.2.2) with
      | none => rw [hq] at h; cases h
      | some o1 =>
        rw [hq] at h
        rw [H _ _ _ hq]
        exact m_back_mono H h
    · exact h
theorem m_run_mono1 (xs : Nat → Int32) (L : Nat) : ∀ n mi c o, m_run xs L n mi c = some o → m_run xs L (n + 1) mi c = some o
  | 0, _, _, _, h => by cases h
  | n + 1, mi, c, o, h => by
    rw [m_run_succ] at h ⊢
    exact m_stepF_mono (m_run_mono1 xs L n) h
theorem m_run_mono {xs : Nat → Int32} {L n n2 mi : Nat} {c : MCfg} {o : MOut × MHp} (h : m_run xs L n mi c = some o) (hn : n ≤ n2) : m_run xs L n2 mi c = some o := by
  obtain ⟨k, rfl⟩ := Nat.le.dest hn
  clear hn
  induction k with
  | zero => exact h
  | succ k ih => exact m_run_mono1 xs L _ mi c o ih
/-- it ends, and the end is as said -/
def m_ok (xs : Nat → Int32) (L mi : Nat) (c : MCode) (ls st : List MV) (h : MHp) (Q : MOut → MHp → Prop) : Prop := ∃ n o, m_run xs L n mi (c, ls, st, h) = some o ∧ Q o.1 o.2
/-- a call ends, and the end is as said -/
def m_do (xs : Nat → Int32) (L mi : Nat) (args : List MV) (h : MHp) (Q : MOut → MHp → Prop) : Prop := m_ok xs L mi (m_entry mi args h).1 (m_entry mi args h).2.1 [] h Q
def m_cont (xs : Nat → Int32) (L mi pc : Nat) (r : MCode) (ls st : List MV) (Q : MOut → MHp → Prop) : MOut → MHp → Prop
  | .inl v, h => m_ok xs L mi r ls (v.toList ++ st) h Q
  | .inr e, h => if m_hand mi = [] then Q (.inr e) h else match m_catch mi pc e ls h with
    | some c => m_ok xs L mi c.1 c.2.1 c.2.2.1 c.2.2.2 Q
    | none => False
def m_go (xs : Nat → Int32) (L mi : Nat) (Q : MOut → MHp → Prop) : Option MAct → Prop
  | some (.inl c) => m_ok xs L mi c.1 c.2.1 c.2.2.1 c.2.2.2 Q
  | some (.inr (.inl (q, c, pc))) => m_do xs L q.1 q.2 c.2.2.2 (m_cont xs L mi pc c.1 c.2.1 c.2.2.1 Q)
  | some (.inr (.inr o)) => Q o.1 o.2
  | none => False
theorem m_ok_step {xs : Nat → Int32} {L mi : Nat} {c : MCode} {ls st : List MV} {h : MHp} {Q : MOut → MHp → Prop} : m_ok xs L mi c ls st h Q ↔ m_go xs L mi Q (m_step xs L mi (c, ls, st, h)) := by
  constructor
  · rintro ⟨n, o, hr, hq⟩
    cases n with
    | zero => cases hr
    | succ n =>
      rw [m_run_succ] at hr
      unfold m_stepF at hr
      cases hs : m_step xs L mi (c, ls, st, h) with
      | none => rw [hs] at hr; cases hr
      | some a =>
        rw [hs] at hr
        rcases a with c2 | ⟨q, c2, pc⟩ | o2
        · exact ⟨n, o, hr, hq⟩
        · simp only at hr
          cases hz : m_run xs L n q.1 (m_entry q.1 q.2 c2.2.2.2) with
          | none => rw [hz] at hr; cases hr
          | some o1 =>
            rw [hz] at hr
            obtain ⟨ov, h1⟩ := o1
            refine ⟨n, (ov, h1), hz, ?_⟩
            cases ov with
            | inl v => exact ⟨n, o, hr, hq⟩
            | inr e =>
              simp only [m_back] at hr
              simp only [m_cont]
              split at hr
              · rename_i h9
                rw [if_pos h9]
                cases hr
                exact hq
              · rename_i h9
                rw [if_neg h9]
                split at hr
                · rename_i c3 hc3
                  rw [hc3]
                  exact ⟨n, o, hr, hq⟩
                · cases hr
        · cases hr
          exact hq
  · intro hg
    cases hs : m_step xs L mi (c, ls, st, h) with
    | none => rw [hs] at hg; exact hg.elim
    | some a =>
      rw [hs] at hg
      rcases a with c2 | ⟨q, c2, pc⟩ | o2
      · obtain ⟨n, o, hr, hq⟩ := hg
        refine ⟨n + 1, o, ?_, hq⟩
        rw [m_run_succ, m_stepF, hs]
        exact hr
      · obtain ⟨n, ⟨ov, h1⟩, hr, hq⟩ := hg
        cases ov with
        | inl v =>
          obtain ⟨n2, o2, hr2, hq2⟩ := hq
          refine ⟨max n n2 + 1, o2, ?_, hq2⟩
          rw [m_run_succ, m_stepF, hs]
          simp only
          rw [show m_run xs L (max n n2) q.1 (m_entry q.1 q.2 c2.2.2.2) = some (.inl v, h1) from m_run_mono hr (Nat.le_max_left _ _)]
          exact m_run_mono hr2 (Nat.le_max_right _ _)
        | inr e =>
          simp only [m_cont] at hq
          split at hq
          · rename_i h9
            refine ⟨n + 1, (.inr e, h1), ?_, hq⟩
            rw [m_run_succ, m_stepF, hs]
            simp only
            rw [show m_run xs L n q.1 (m_entry q.1 q.2 c2.2.2.2) = some (.inr e, h1) from hr]
            simp only [m_back]
            rw [if_pos h9]
          · rename_i h9
            split at hq
            · rename_i c3 hc3
              obtain ⟨n2, o2, hr2, hq2⟩ := hq
              refine ⟨max n n2 + 1, o2, ?_, hq2⟩
              rw [m_run_succ, m_stepF, hs]
              simp only
              rw [show m_run xs L (max n n2) q.1 (m_entry q.1 q.2 c2.2.2.2) = some (.inr e, h1) from m_run_mono hr (Nat.le_max_left _ _)]
              simp only [m_back]
              rw [if_neg h9, hc3]
              exact m_run_mono hr2 (Nat.le_max_right _ _)
            · exact hq.elim
      · refine ⟨1, o2, ?_, hg⟩
        rw [m_run_succ, m_stepF, hs]
theorem m_ok.mono {xs : Nat → Int32} {L mi : Nat} {c : MCode} {ls st : List MV} {h : MHp} {Q Q2 : MOut → MHp → Prop} (k : m_ok xs L mi c ls st h Q) (H : ∀ o h, Q o h → Q2 o h) : m_ok xs L mi c ls st h Q2 := by
  obtain ⟨n, o, h1, h2⟩ := k
  exact ⟨n, o, h1, H _ _ h2⟩
theorem m_do.mono {xs : Nat → Int32} {L mi : Nat} {args : List MV} {h : MHp} {Q Q2 : MOut → MHp → Prop} (k : m_do xs L mi args h Q) (H : ∀ o h, Q o h → Q2 o h) : m_do xs L mi args h Q2 := m_ok.mono k H
/-- what ends once ends there alone -/
theorem m_ok_eq {xs : Nat → Int32} {L mi : Nat} {c : MCode} {ls st : List MV} {h h' : MHp} {o : MOut} (k : m_ok xs L mi c ls st h (fun a b => a = o ∧ b = h')) (Q : MOut → MHp → Prop) : m_ok xs L mi c ls st h Q ↔ Q o h' := by
  obtain ⟨n, ⟨o1, h1⟩, hr, ha, hb⟩ := k
  constructor
  · rintro ⟨n2, ⟨o2, h2⟩, hr2, hq⟩
    have e1 := m_run_mono hr (Nat.le_max_left n n2)
    have e2 := m_run_mono hr2 (Nat.le_max_right n n2)
    rw [e1] at e2
    cases e2
    cases ha; cases hb
    exact hq
  · intro hq
    cases ha; cases hb
    exact ⟨n, _, hr, hq⟩
theorem m_do_eq {xs : Nat → Int32} {L mi : Nat} {args : List MV} {h h' : MHp} {o : MOut} (k : m_do xs L mi args h (fun a b => a = o ∧ b = h')) (Q : MOut → MHp → Prop) : m_do xs L mi args h Q ↔ Q o h' := m_ok_eq k Q
