/-! ===== what is reckoned already ===== -/
/-- the families of nights -/
def niF (f : Nat) : Bool := (Nat.ble 30 f && Nat.ble f 35) || Nat.beq f 1204 || Nat.beq f 1205 || (Nat.ble 1502 f && Nat.ble f 1509) || (Nat.ble 1801 f && Nat.ble f 1804) || (Nat.ble 79 f && Nat.ble f 93) || Nat.beq f 2034
def FN (S S2 : Sg) : Prop := ∀ f i j, niF f = false → S2 f i j = S f i j
theorem FN_refl {S : Sg} : FN S S := fun _ _ _ _ => rfl
theorem FN_trans {S S1 S2 : Sg} (h : FN S S1) (k : FN S1 S2) : FN S S2 := fun f i j hf => (k f i j hf).trans (h f i j hf)
theorem niF_no {f : Nat} (h : niF f = false) : ¬ (30 ≤ f ∧ f ≤ 35) ∧ ¬ f = 1204 ∧ ¬ f = 1205 ∧ ¬ (1502 ≤ f ∧ f ≤ 1509) ∧ ¬ (1801 ≤ f ∧ f ≤ 1804) ∧ ¬ (79 ≤ f ∧ f ≤ 93) ∧ ¬ f = 2034 := by
  unfold niF at h
  simp only [Bool.or_eq_false_iff, Bool.and_eq_false_iff] at h
  have e1 : ∀ a b : Nat, Nat.ble a b = false → ¬ a ≤ b := fun a b hz hle => by rw [Nat.ble_eq.mpr hle] at hz; cases hz
  have e2 : ∀ a b : Nat, Nat.beq a b = false → ¬ a = b := fun a b hz hle => by rw [hle, Nat.beq_refl] at hz; cases hz
  obtain ⟨⟨⟨⟨⟨⟨a1, a2⟩, a3⟩, a4⟩, a5⟩, a6⟩, a7⟩ := h
  refine ⟨fun z => ?_, e2 _ _ a2, e2 _ _ a3, fun z => ?_, fun z => ?_, fun z => ?_, e2 _ _ a7⟩
  · rcases a1 with a1 | a1
    · exact e1 _ _ a1 z.1
    · exact e1 _ _ a1 z.2
  · rcases a4 with a1 | a1
    · exact e1 _ _ a1 z.1
    · exact e1 _ _ a1 z.2
  · rcases a5 with a1 | a1
    · exact e1 _ _ a1 z.1
    · exact e1 _ _ a1 z.2
  · rcases a6 with a1 | a1
    · exact e1 _ _ a1 z.1
    · exact e1 _ _ a1 z.2
theorem psF_yes {f : Nat} (h : psF f = true) : 10 ≤ f ∧ f ≤ 22 ∨ 1100 ≤ f ∧ f ≤ 1110 ∨ f = 1403 ∨ f = 1405 ∨ f = 1500 ∨ 1600 ≤ f ∧ f ≤ 1702 ∨ f = 1401 ∨ 50 ≤ f ∧ f ≤ 71 ∨ f = 2001 ∨ f = 2004 ∨ f = 2014 := by
  unfold psF cpF at h
  simp only [Bool.or_eq_true, Bool.and_eq_true, Nat.ble_eq, Nat.beq_eq] at h
  omega
theorem cpF_yes {f : Nat} (h : cpF f = true) : 10 ≤ f ∧ f ≤ 22 ∨ 1100 ≤ f ∧ f ≤ 1110 ∨ f = 1403 ∨ f = 1405 ∨ f = 1500 ∨ 1600 ≤ f ∧ f ≤ 1702 := by
  unfold cpF at h
  simp only [Bool.or_eq_true, Bool.and_eq_true, Nat.ble_eq, Nat.beq_eq] at h
  omega
theorem psF_niF {f : Nat} (h : psF f = true) : niF f = false := by
  have := psF_yes h
  cases hn : niF f with
  | false => rfl
  | true =>
    unfold niF at hn
    simp only [Bool.or_eq_true, Bool.and_eq_true, Nat.ble_eq, Nat.beq_eq] at hn
    omega
theorem cpF_psF {f : Nat} (h : cpF f = true) : psF f = true := by
  unfold psF
  rw [h]
  rfl
theorem FN_ps {S S2 : Sg} (h : FN S S2) : ∀ f i j, psF f = true → S2 f i j = S f i j := fun f i j hf => h f i j (psF_niF hf)
theorem FC_FN {n : Nat} {S S2 : Sg} (h : FC n S S2) : FN S S2 := fun f i j hf => h f i j (fun z => by
  have := niF_no hf
  unfold fpC at z
  omega)
theorem CR_ext {n T C : Nat} {D S S2 : Sg} {s : St} (h : CR n T C D S S s) (k1 : ∀ f i j, cpF f = true → S2 f i j = S f i j) (k2 : ∀ f i j, fpC n f i → S2 f i j = S f i j) (hn : n < 3) (hT : T ≤ 6) (hC : C ≤ 10) : CR n T C D S2 S2 s := by
  obtain ⟨h1, h2, h3, h4, h5, h6, h7⟩ := h
  refine ⟨PC_ext h1 k1, fun c hc => ?_, fun u hu => RR_ext (h3 u hu) (fun f k hf => k2 _ _ _ (by unfold fpC; omega)) (fun _ _ _ => rfl), fun u hu => RQ_ext (h4 u hu) (fun f k hf => k2 _ _ _ (by unfold fpC; omega)), RO_ext h5 (fun k => k2 _ _ _ (by unfold fpC; omega)) (fun _ => rfl), FC_refl, ?_⟩
  · rw [k2 1801 _ _ (by unfold fpC; omega), k2 1802 _ _ (by unfold fpC; omega), k2 1803 _ _ (by unfold fpC; omega), k2 1804 _ _ (by unfold fpC; omega)]
    exact h2 c hc
  · rw [k2 1204 _ _ (by unfold fpC; omega)]
    exact h7
theorem MR_ext {T : Nat} {D S S2 : Sg} {s : St} (h : MR T D S S s) (hT : T ≤ 6) (k1 : ∀ f i j, (50 ≤ f ∧ f ≤ 71 ∨ 79 ≤ f ∧ f ≤ 93 ∨ f = 2004 ∨ f = 2014) → S2 f i j = S f i j) : MR T D S2 S2 s := by
  obtain ⟨h1, h2, h3, h4⟩ := h
  refine ⟨⟨fun f k hf => ?_, fun k hk hu => ?_⟩, ⟨fun f k hk => ?_, fun k hk hn => ?_⟩, fun u hu => MU_ext (h3 u hu) (k1 _ _ _ (by omega)) (fun j _ => k1 _ _ _ (by omega)), fun _ _ _ _ => rfl⟩
  · rw [k1 f _ _ (by
      unfold plF at hf
      simp only [Bool.or_eq_true, Bool.and_eq_true, Nat.ble_eq, Nat.beq_eq] at hf
      omega)]
    exact h1.1 f k hf
  · rw [k1 50 _ _ (by omega), k1 51 _ _ (by omega)]
    exact h1.2 k hk hu
  · by_cases hf : 79 ≤ f ∧ f ≤ 93
    · rw [k1 f _ _ (by omega)]
      exact h2.1 f k hk
    · exfalso
      unfold lim at hk
      rw [if_neg (by omega), if_neg (by omega), if_neg (by omega), if_neg (by omega)] at hk
      omega
  · rw [k1 85 _ _ (by omega), k1 86 _ _ (by omega)]
    exact h2.2 k hk hn
def NC (S : Sg) (T C : Nat) : Prop := S 1205 0 0 ≤ S 1406 0 0 ∧ S 1205 1 0 ≤ S 1406 0 0 ∧ 0 ≤ S 1406 0 0 ∧ (S 1205 0 0 = S 1406 0 0 → CR 0 T C (nrm S) S S (recA (nrm S))) ∧ (S 1205 1 0 = S 1406 0 0 → CR 1 T C (nrm S) S S (recA (nrm S))) ∧ (S 2034 0 0 = 0 ∨ S 2034 0 0 = 1) ∧ (S 2034 0 0 = 1 → MR T (nrm S) S S (recA (nrm S)))
/-- what is of no night and no plan -/
theorem NC_ext {S S2 : Sg} {A T C : Nat} (ps : PS S A T C) (h : NC S T C) (k : ∀ f i j, (niF f = true ∨ psF f = true ∨ f = 1406) → S2 f i j = S f i j) : NC S2 T C := by
  obtain ⟨h1, h2, h3, h4, h5, h6, h7⟩ := h
  have hT : T ≤ 6 := ps.1.2.2.2.2.2.1
  have hC : C ≤ 10 := ps.1.2.2.2.2.2.2.2.2
  have hD : nrm S2 = nrm S := nrm_ext (fun f i j hf => k f i j (Or.inr (Or.inl hf)))
  have hfp : ∀ n f i j, fpC n f i → S2 f i j = S f i j := fun n f i j hf => k f i j (Or.inl (by
    unfold fpC at hf
    unfold niF
    simp only [Bool.or_eq_true, Bool.and_eq_true, Nat.ble_eq, Nat.beq_eq]
    omega))
  unfold NC
  rw [hD, k 1205 0 0 (Or.inl rfl), k 1205 1 0 (Or.inl rfl), k 1406 0 0 (Or.inr (Or.inr rfl)), k 2034 0 0 (Or.inl rfl)]
  refine ⟨h1, h2, h3, fun z => CR_ext (h4 z) (fun f i j hf => k f i j (Or.inr (Or.inl (cpF_psF hf)))) (hfp 0) (by omega) hT hC, fun z => CR_ext (h5 z) (fun f i j hf => k f i j (Or.inr (Or.inl (cpF_psF hf)))) (hfp 1) (by omega) hT hC, h6, fun z => MR_ext (h7 z) hT (fun f i j hf => k f i j ?_)⟩
  by_cases h9 : 79 ≤ f ∧ f ≤ 93
  · left
    unfold niF
    simp only [Bool.or_eq_true, Bool.and_eq_true, Nat.ble_eq, Nat.beq_eq]
    omega
  · right; left
    unfold psF
    simp only [Bool.or_eq_true, Bool.and_eq_true, Nat.ble_eq, Nat.beq_eq]
    omega
theorem NC_up {S : Sg} {A T C F I K : Nat} {a : Int} (ps : PS S A T C) (h : NC S T C) (h1 : niF F = false) (h2 : psF F = false) (h3 : ¬ F = 1406) : NC (up S F I K a) T C :=
  NC_ext ps h (fun f i j hf => up_f (fun z => by
    rw [z] at hf
    rw [h1, h2] at hf
    rcases hf with hf | hf | hf
    · cases hf
    · cases hf
    · exact h3 hf))
theorem PS_up {S : Sg} {A T C F I K : Nat} {a : Int} (h : PS S A T C) (hF : psF F = false) : PS (up S F I K a) A T C := PS_ext h (fun f i j hf => up_f (fun z => by rw [z, hF] at hf; cases hf))
/-- a night of the class is reckoned -/
theorem NC_night {n : Nat} {S S2 : Sg} {A T C : Nat} (hn : n < 3) (ps : PS S A T C) (h : NC S T C) (fc : FC n S S2) (hr : n < 2 → CR n T C (nrm S) S S2 (recA (nrm S)) ∧ S2 1205 n 0 = S2 1406 0 0) : NC S2 T C := by
  obtain ⟨h1, h2, h3, h4, h5, h6, h7⟩ := h
  have hT : T ≤ 6 := ps.1.2.2.2.2.2.1
  have hC : C ≤ 10 := ps.1.2.2.2.2.2.2.2.2
  have hD : nrm S2 = nrm S := nrm_ext (FN_ps (FC_FN fc))
  have k1406 : S2 1406 0 0 = S 1406 0 0 := fc _ _ _ (by unfold fpC; omega)
  have k2034 : S2 2034 0 0 = S 2034 0 0 := fc _ _ _ (by unfold fpC; omega)
  have hcp : ∀ f i j, cpF f = true → S2 f i j = S f i j := fun f i j hf => FN_ps (FC_FN fc) f i j (cpF_psF hf)
  have hoth : ∀ n2, ¬ n2 = n → CR n2 T C (nrm S) S S (recA (nrm S)) → n2 < 3 → CR n2 T C (nrm S) S2 S2 (recA (nrm S)) := fun n2 h9 hc h10 => CR_ext hc hcp (fun f i j hf => fc f i j (fun z => by unfold fpC at hf z; omega)) h10 hT hC
  have hver : ∀ n2, ¬ n2 = n → S2 1205 n2 0 = S 1205 n2 0 := fun n2 h9 => fc _ _ _ (by unfold fpC; omega)
  have hmr : S 2034 0 0 = 1 → MR T (nrm S) S2 S2 (recA (nrm S)) := fun z => MR_ext (h7 z) hT (fun f i j hf => fc f i j (by unfold fpC; omega))
  unfold NC
  rw [hD, k2034]
  by_cases hn0 : n = 0
  · subst hn0
    obtain ⟨c1, c2⟩ := hr (by omega)
    rw [hver 1 (by decide)]
    rw [k1406] at c2 ⊢
    exact ⟨by omega, h2, h3, fun _ => CR_base c1, fun z => hoth 1 (by decide) (h5 z) (by omega), h6, hmr⟩
  · by_cases hn1 : n = 1
    · subst hn1
      obtain ⟨c1, c2⟩ := hr (by omega)
      rw [hver 0 (by decide)]
      rw [k1406] at c2 ⊢
      exact ⟨h1, by omega, h3, fun z => hoth 0 (by decide) (h4 z) (by omega), fun _ => CR_base c1, h6, hmr⟩
    · rw [hver 0 (by omega), hver 1 (by omega), k1406]
      exact ⟨h1, h2, h3, fun z => hoth 0 (by omega) (h4 z) (by omega), fun z => hoth 1 (by omega) (h5 z) (by omega), h6, hmr⟩
section V
variable {xs : Nat → Int32} {L : Nat} {e : Nat}
theorem n_18 {S : Sg} {A T C : Nat} (ps : PS S A T C) (nc : NC S T C) : ∃ S2, (FN S S2 ∧ NC S2 T C ∧ CR 0 T C (nrm S) S S2 (recA (nrm S))) ∧ ∀ Q, m_do xs L 18 [vR (nt 0)] (mk S e) Q ↔ Q (.inl none) (mk S2 e) := by
  obtain ⟨S2, ⟨c1, c2⟩, i⟩ := r_18 (xs := xs) (L := L) (e := e) (n := 0) (by omega) (PS_WP ps) (PS_PC ps) (PS_1702 ps) nc.2.2.2.1
  exact ⟨S2, ⟨FC_FN c1.2.2.2.2.2.1, NC_night (by omega) ps nc c1.2.2.2.2.2.1 (fun _ => ⟨c1, c2⟩), c1⟩, i⟩
theorem n_19 {S : Sg} {A T C : Nat} (ps : PS S A T C) (nc : NC S T C) : ∃ S2, (FN S S2 ∧ NC S2 T C ∧ CR 1 T C (nrm S) S S2 (recA (nrm S))) ∧ ∀ Q, m_do xs L 19 [vR (nt 1)] (mk S e) Q ↔ Q (.inl none) (mk S2 e) := by
  obtain ⟨S2, ⟨c1, c2⟩, i⟩ := r_19 (xs := xs) (L := L) (e := e) (n := 1) (by omega) (PS_WP ps) (PS_PC ps) (PS_1702 ps) nc.2.2.2.2.1
  exact ⟨S2, ⟨FC_FN c1.2.2.2.2.2.1, NC_night (by omega) ps nc c1.2.2.2.2.2.1 (fun _ => ⟨c1, c2⟩), c1⟩, i⟩
theorem n_20 {S : Sg} {A T C t : Nat} {v : Int} (ps : PS S A T C) (nc : NC S T C) (ht : t < T) (hv : 0 ≤ v ∧ v ≤ 180) : ∃ S2, (FN S S2 ∧ NC S2 T C) ∧ ∀ Q, m_do xs L 20 [vR (nt 2), vI t, vI v] (mk S e) Q ↔ Q (.inl (some (vI (hmA (up (nrm S) 53 0 t v) (recA (up (nrm S) 53 0 t v)).1 C)))) (mk S2 e) := by
  obtain ⟨S2, c1, i⟩ := r_20 (xs := xs) (L := L) (e := e) (n := 2) (v := v) (by omega) (PS_WP ps) (PS_PC ps) (PS_1702 ps) ht hv
  exact ⟨S2, ⟨FC_FN c1, NC_night (by omega) ps nc c1 (fun z => by omega)⟩, i⟩
theorem n_115 {S : Sg} {A T C : Nat} (ps : PS S A T C) (nc : NC S T C) : ∃ S2, (FN S S2 ∧ NC S2 T C ∧ MR T (nrm S) S2 S2 (recA (nrm S)) ∧ S2 2034 0 0 = 1) ∧ ∀ Q, m_do xs L 115 [vR 296] (mk S e) Q ↔ Q (.inl none) (mk S2 e) := by
  obtain ⟨S2, ⟨c1, c2, c3⟩, i⟩ := r_115 (xs := xs) (L := L) (e := e) (PS_WP ps) PS_PM nc.2.2.2.2.2.1 nc.2.2.2.2.2.2
  have hT : T ≤ 6 := ps.1.2.2.2.2.2.1
  have hC : C ≤ 10 := ps.1.2.2.2.2.2.2.2.2
  have fn : FN S S2 := fun f i j hf => by
    have := niF_no hf
    exact c3 f i j (by omega) (by omega)
  have hD : nrm S2 = nrm S := nrm_ext (FN_ps fn)
  refine ⟨S2, ⟨fn, ?_, c1, c2⟩, i⟩
  obtain ⟨h1, h2, h3, h4, h5, h6, h7⟩ := nc
  have hcp : ∀ f i j, cpF f = true → S2 f i j = S f i j := fun f i j hf => FN_ps fn f i j (cpF_psF hf)
  have hfp : ∀ n f i j, fpC n f i → S2 f i j = S f i j := fun n f i j hf => c3 f i j (by unfold fpC at hf; omega) (by unfold fpC at hf; omega)
  unfold NC
  rw [hD, c3 1205 0 0 (by omega) (by omega), c3 1205 1 0 (by omega) (by omega), c3 1406 0 0 (by omega) (by omega)]
  exact ⟨h1, h2, h3, fun z => CR_ext (h4 z) hcp (hfp 0) (by omega) hT hC, fun z => CR_ext (h5 z) hcp (hfp 1) (by omega) hT hC, Or.inr c2, fun _ => c1⟩
end V
