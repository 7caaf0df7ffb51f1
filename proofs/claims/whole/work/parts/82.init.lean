/-! ===== before the first call ===== -/
theorem S0_z {f i k : Nat} (h : ¬ (f = 16 ∨ f = 40 ∨ f = 78 ∨ f = 1205 ∨ f = 1304 ∨ f = 1305 ∨ f = 1306 ∨ f = 1100 ∨ f = 1300 ∨ f = 1500)) : S0 f i k = 0 := by
  unfold S0
  rw [if_neg (by omega), if_neg (by omega), if_neg (by omega)]
theorem S0_n {f i k : Nat} (h : f = 16 ∨ f = 40 ∨ f = 78 ∨ f = 1205 ∨ f = 1304 ∨ f = 1305 ∨ f = 1306) : S0 f i k = -1 := by
  unfold S0
  rw [if_pos h]
theorem S0_i {f i k : Nat} (h : f = 1100 ∨ f = 1300) : S0 f i k = i := by
  unfold S0
  rw [if_neg (by omega), if_pos h]
theorem S0_6 {i k : Nat} : S0 1500 i k = ((i % 6 : Nat) : Int) := by
  unfold S0
  rw [if_neg (by omega), if_neg (by omega), if_pos rfl]
theorem S0_PS : PS S0 0 0 0 := by
  refine ⟨?_, fun a ha => ?_, fun t ht => ?_, fun t k ht hk => ?_, fun t a ht ha => ?_, fun c hc => ?_, fun c p hc hp => ?_, fun n i hn hi => ?_⟩
  · unfold PS1
    simp (disch := omega) only [S0_z, true_and, and_true, implies_true]
    all_goals omega
  · simp (disch := omega) only [S0_z, true_and, and_true, implies_true]
    all_goals omega
  · simp (disch := omega) only [S0_z, true_and, and_true, implies_true]
    all_goals omega
  · simp (disch := omega) only [S0_z, true_and, and_true, implies_true]
    all_goals omega
  · rw [S0_n (by omega), S0_z (by omega)]
    rfl
  · simp (disch := omega) only [S0_z, S0_i, true_and, and_true, implies_true]
    all_goals omega
  · simp (disch := omega) only [S0_z, true_and, and_true, implies_true]
    all_goals omega
  · rw [S0_6]
    omega
theorem S0_NC : NC S0 0 0 := by
  refine ⟨?_, ?_, ?_, fun z => ?_, fun z => ?_, Or.inl (S0_z (by omega)), fun z => ?_⟩
  · rw [S0_n (by omega), S0_z (by omega)]; decide
  · rw [S0_n (by omega), S0_z (by omega)]; decide
  · rw [S0_z (by omega)]; decide
  · rw [S0_n (by omega), S0_z (by omega)] at z
    exact absurd z (by decide)
  · rw [S0_n (by omega), S0_z (by omega)] at z
    exact absurd z (by decide)
  · rw [S0_z (by omega)] at z
    exact absurd z (by decide)
theorem S0_PP : PPx S0 S0 0 := by
  refine ⟨by omega, fun i hi => ?_, fun i hi => by omega, fun c r b hc hr hb => ⟨by rw [S0_n (by omega), S0_n (by omega)], Or.inl (S0_n (by omega))⟩, S0_z (by omega), fun c r hc hr => Or.inl (fun a b ha hb hn _ => absurd (S0_n (by omega)) hn)⟩
  simp (disch := omega) only [S0_z, S0_i, S0_n, true_and, and_true, implies_true, true_or, and_self]
  all_goals omega
theorem S0_II : II S0 0 0 0 0 0 0 := ⟨S0_PS, S0_NC, S0_z (by omega), S0_z (by omega), S0_PP, by rw [S0_z (by omega)]; decide, Nat.le_refl 0⟩
/-- the law's run: it answers true, for every script -/
theorem law_run (xs : Nat → Int32) (L : Nat) (hL : L ≤ 4096) : ∃ n h', m_run xs (L + 1) n 177 (m_code 177, vS :: List.replicate 7 vU, [], ([], 0, 0)) = some (.inl (some (vI 1)), h') ∧ h'.2.1 ≤ 601024 ∧ h'.2.2 ≤ 7293034 := by
  have k : m_ok xs (L + 1) 177 b_177_0 [vS, vU, vU, vU, vU, vU, vU, vU] [] ([], 0, 0) (fun o h' => o = .inl (some (vI 1)) ∧ h'.2.1 ≤ 601024 ∧ h'.2.2 ≤ 7293034) :=
    law_begin (law_loop (by omega) (fun S2 e2 he => ⟨rfl, by show 343 + e2 ≤ 601024; omega, by show 4862 + 6 * e2 ≤ 7293034; omega⟩) 512 0 0 0 S0 0 0 0 0 vU vU (by omega) (by omega) (by omega) S0_II)
  obtain ⟨n, o, hr, ho, h1, h2⟩ := k
  refine ⟨n, o.2, ?_, h1, h2⟩
  rw [← ho]
  exact hr
/-- from the entry, for every script, the law comes to its end with true -/
theorem whole_start {p : Program} {e : Env} {s : State} {m : MethodId} {below : List Frame} {meth : Method} {c : Code} (l : Launch) (hflags : l.flags = flags0) {b L : Nat} {xs : Nat → Int32} (hL : L ≤ 4096) (C0 : lw_At p s m meth c b L xs) : W p l e room_1 s m #[Value.ref b] below meth c s.heap [] 0 0 (lw_Z below #[Value.ref b] s) (entryFrame m ([Value.ref b] : List Value).toArray 8) := by
  obtain ⟨n, h', hr, h1, h2⟩ := law_run xs L hL
  exact m_start l hflags C0 hr h1 h2
