/-! ===== the plans of class and model, side by side ===== -/
/-- stations, trains, coaches -/
def PS1 (S : Sg) (A T C : Nat) : Prop := S 1401 0 0 = A ∧ S 2001 0 0 = A ∧ A ≤ 10 ∧ S 1403 0 0 = T ∧ S 2004 0 0 = T ∧ T ≤ 6 ∧ S 1405 0 0 = C ∧ S 2014 0 0 = C ∧ C ≤ 10
def PS2 (S : Sg) : Prop := ∀ a, a < 10 → S 1600 a 0 = S 50 0 a ∧ S 1601 a 0 = S 51 0 a ∧ 0 ≤ S 50 0 a ∧ S 50 0 a < 6 ∧ 0 ≤ S 51 0 a ∧ S 51 0 a ≤ 1
def PS3 (S : Sg) (T : Nat) : Prop := ∀ t, t < 6 → S 1700 t 0 = S 54 0 t ∧ S 1701 t 0 = S 52 0 t ∧ S 1702 t 0 = S 53 0 t ∧ 0 ≤ S 54 0 t ∧ S 54 0 t ≤ 6 ∧ 0 ≤ S 52 0 t ∧ S 52 0 t ≤ 1000 ∧ 0 ≤ S 53 0 t ∧ S 53 0 t ≤ 180 ∧ (t < T → 1 ≤ S 54 0 t) ∧ (T ≤ t → S 54 0 t = 0)
def PS4 (S : Sg) (A : Nat) : Prop := ∀ t k : Nat, t < 6 → k < 6 → S 10 t k = S 55 0 (6 * t + k) ∧ S 11 t k = S 56 0 (6 * t + k) ∧ S 12 t k = S 57 0 (6 * t + k) ∧ S 13 t k = S 60 0 (6 * t + k) ∧ S 14 t k = S 58 0 (6 * t + k) ∧ S 15 t k = S 59 0 (6 * t + k) ∧ 0 ≤ S 55 0 (6 * t + k) ∧ S 55 0 (6 * t + k) < 10 ∧ 0 ≤ S 56 0 (6 * t + k) ∧ S 56 0 (6 * t + k) ≤ 1439 + 360 * k ∧ 0 ≤ S 57 0 (6 * t + k) ∧ S 57 0 (6 * t + k) ≤ 300 ∧ 0 ≤ S 58 0 (6 * t + k) ∧ S 58 0 (6 * t + k) ≤ 500 ∧ 0 ≤ S 59 0 (6 * t + k) ∧ S 59 0 (6 * t + k) ≤ 60 ∧ 0 ≤ S 60 0 (6 * t + k) ∧ S 60 0 (6 * t + k) ≤ 300 ∧ ((k : Int) < S 54 0 t → S 55 0 (6 * t + k) < A ∧ (0 < k → 1 ≤ S 57 0 (6 * t + k))) ∧ (S 54 0 t ≤ k → S 60 0 (6 * t + k) = 0)
def PS5 (S : Sg) : Prop := ∀ t a, t < 6 → a < 10 → S 16 t a = stopF S t a (S 54 0 t).toNat
def PS6 (S : Sg) (C : Nat) : Prop := ∀ c, c < 10 → S 1100 c 0 = c ∧ S 1101 c 0 = S 61 0 c ∧ S 1102 c 0 = S 62 0 c ∧ S 1103 c 0 = S 63 0 c ∧ S 1104 c 0 = S 64 0 c ∧ S 1105 c 0 = S 65 0 c ∧ S 1106 c 0 = S 66 0 c ∧ S 1107 c 0 = S 67 0 c ∧ S 1108 c 0 = S 68 0 c ∧ S 1109 c 0 = S 69 0 c ∧ 0 ≤ S 61 0 c ∧ S 61 0 c < 10 ∧ 0 ≤ S 62 0 c ∧ S 62 0 c < 6 ∧ 0 ≤ S 63 0 c ∧ S 63 0 c ≤ 2 ∧ 0 ≤ S 64 0 c ∧ S 64 0 c ≤ 80 ∧ 0 ≤ S 65 0 c ∧ S 65 0 c ≤ 80 ∧ 0 ≤ S 66 0 c ∧ S 66 0 c ≤ 63 ∧ 0 ≤ S 67 0 c ∧ S 67 0 c ≤ 1 ∧ 0 ≤ S 68 0 c ∧ S 68 0 c ≤ 1 ∧ 0 ≤ S 69 0 c ∧ S 69 0 c ≤ 3 ∧ (C ≤ c → S 69 0 c = 0)
def PS7 (S : Sg) (T : Nat) : Prop := ∀ c p, c < 10 → p < 3 → S 20 c p = S 70 0 (3 * c + p) ∧ S 22 c p = S 71 0 (3 * c + p) ∧ 0 ≤ S 70 0 (3 * c + p) ∧ S 70 0 (3 * c + p) < 6 ∧ 0 ≤ S 71 0 (3 * c + p) ∧ S 71 0 (3 * c + p) < 10 ∧ ((p : Int) < S 69 0 c → S 21 c p = begP S c p ∧ S 70 0 (3 * c + p) < T)
def PS8 (S : Sg) : Prop := ∀ n i, n < 3 → i < 6 → S 1500 (6 * n + i) 0 = i
def PS (S : Sg) (A T C : Nat) : Prop := PS1 S A T C ∧ PS2 S ∧ PS3 S T ∧ PS4 S A ∧ PS5 S ∧ PS6 S C ∧ PS7 S T ∧ PS8 S
/-- the families that the plans are -/
def psF (f : Nat) : Bool := cpF f || Nat.beq f 1401 || (Nat.ble 50 f && Nat.ble f 71) || Nat.beq f 2001 || Nat.beq f 2004 || Nat.beq f 2014
theorem stopF_x {S D : Sg} {t : Nat} {a : Int} : ∀ k, (∀ j, j < k → S 55 0 (6 * t + j) = D 55 0 (6 * t + j)) → stopF S t a k = stopF D t a k
  | 0, _ => rfl
  | k + 1, h => by
    unfold stopF
    rw [h k (by omega), stopF_x k (fun j hj => h j (by omega))]
theorem PS_ext {S S2 : Sg} {A T C : Nat} (h : PS S A T C) (k : ∀ f i j, psF f = true → S2 f i j = S f i j) : PS S2 A T C := by
  have hs : ∀ (t : Nat) (a : Int) (n : Nat), stopF S2 t a n = stopF S t a n := fun t a n => stopF_x n (fun j _ => k 55 0 _ rfl)
  unfold PS PS1 PS2 PS3 PS4 PS5 PS6 PS7 PS8 begP at h ⊢
  simp only [hs, k 1401 _ _ rfl, k 2001 _ _ rfl, k 1403 _ _ rfl, k 2004 _ _ rfl, k 1405 _ _ rfl, k 2014 _ _ rfl, k 1600 _ _ rfl, k 1601 _ _ rfl, k 50 _ _ rfl, k 51 _ _ rfl, k 1100 _ _ rfl, k 16 _ _ rfl, k 20 _ _ rfl, k 21 _ _ rfl, k 22 _ _ rfl, k 70 _ _ rfl, k 71 _ _ rfl, k 1500 _ _ rfl, k 1700 _ _ rfl, k 54 _ _ rfl, k 1701 _ _ rfl, k 52 _ _ rfl, k 1702 _ _ rfl, k 53 _ _ rfl, k 10 _ _ rfl, k 55 _ _ rfl, k 11 _ _ rfl, k 56 _ _ rfl, k 12 _ _ rfl, k 57 _ _ rfl, k 13 _ _ rfl, k 60 _ _ rfl, k 14 _ _ rfl, k 58 _ _ rfl, k 15 _ _ rfl, k 59 _ _ rfl, k 1101 _ _ rfl, k 61 _ _ rfl, k 1102 _ _ rfl, k 62 _ _ rfl, k 1103 _ _ rfl, k 63 _ _ rfl, k 1104 _ _ rfl, k 64 _ _ rfl, k 1105 _ _ rfl, k 65 _ _ rfl, k 1106 _ _ rfl, k 66 _ _ rfl, k 1107 _ _ rfl, k 67 _ _ rfl, k 1108 _ _ rfl, k 68 _ _ rfl, k 1109 _ _ rfl, k 69 _ _ rfl]
  exact h
/-! ===== the plan that a night reads ===== -/
theorem nrm_p {S : Sg} {f i k : Nat} (h : plF f = true) : nrm S f i k = S f i k := by
  unfold nrm
  have : ¬ (f = 50 ∨ f = 51) := by
    unfold plF at h
    simp only [Bool.or_eq_true, Bool.and_eq_true, Nat.ble_eq, Nat.beq_eq] at h
    omega
  rw [if_neg this, if_pos h]
theorem nrm_u {S : Sg} {k : Nat} : usd (nrm S) k ↔ usd S k := by
  unfold usd
  rw [nrm_p (by rfl), nrm_p (by rfl)]
theorem nrm_l {S : Sg} {f k : Nat} (hf : f = 50 ∨ f = 51) : nrm S f 0 k = if usd S k then S f 0 (S 55 0 k).toNat else 0 := by
  unfold nrm
  rw [if_pos hf]
  by_cases h : usd S k
  · rw [if_pos ⟨rfl, h⟩, if_pos h]
  · rw [if_neg (fun z => h z.2), if_neg h]
theorem PS_PM {S : Sg} : PM (nrm S) S := by
  refine ⟨fun f k hf => (nrm_p hf).symm, fun k hk hu => ?_⟩
  rw [nrm_u] at hu
  rw [nrm_p (by rfl), nrm_l (Or.inl rfl), nrm_l (Or.inr rfl), if_pos hu, if_pos hu]
  exact ⟨rfl, rfl⟩
theorem nrm_st {S : Sg} {t : Nat} {a : Int} : stA (nrm S) t a = stopF S t a (S 54 0 t).toNat := by
  unfold stA
  rw [nrm_p (by rfl)]
  exact stopF_x _ (fun j _ => nrm_p (by rfl))
theorem PS_PC {S : Sg} {A T C : Nat} (h : PS S A T C) : PC (nrm S) S := by
  obtain ⟨h1, h2, h3, h4, h5, h6, h7, h8⟩ := h
  refine ⟨⟨?_, ?_⟩, fun t ht => ?_, fun t k ht hk => ?_, fun t a ht ha => ?_, fun c hc => ?_, fun c p hc hp => ?_, fun k hk hu => ?_, h8⟩
  · rw [nrm_p (by rfl), h1.2.2.2.1, h1.2.2.2.2.1]
  · rw [nrm_p (by rfl), h1.2.2.2.2.2.2.1, h1.2.2.2.2.2.2.2.1]
  · have := h3 t ht
    rw [nrm_p (by rfl), nrm_p (by rfl)]
    exact ⟨this.1, this.2.1⟩
  · have := h4 t k ht hk
    rw [nrm_p (by rfl), nrm_p (by rfl), nrm_p (by rfl), nrm_p (by rfl), nrm_p (by rfl), nrm_p (by rfl)]
    exact ⟨this.1, this.2.1, this.2.2.1, this.2.2.2.1, this.2.2.2.2.1, this.2.2.2.2.2.1⟩
  · rw [nrm_st]
    exact h5 t a ht ha
  · have := h6 c hc
    rw [nrm_p (by rfl), nrm_p (by rfl), nrm_p (by rfl), nrm_p (by rfl), nrm_p (by rfl), nrm_p (by rfl), nrm_p (by rfl), nrm_p (by rfl)]
    exact ⟨this.2.1, this.2.2.1, this.2.2.2.2.1, this.2.2.2.2.2.1, this.2.2.2.2.2.2.1, this.2.2.2.2.2.2.2.1, this.2.2.2.2.2.2.2.2.1, this.2.2.2.2.2.2.2.2.2.1⟩
  · have := h7 c p hc hp
    have hb : begP (nrm S) c p = begP S c p := by
      unfold begP
      rw [nrm_p (by rfl), nrm_p (by rfl)]
    rw [nrm_p (by rfl), nrm_p (by rfl), nrm_p (by rfl), hb]
    exact ⟨this.1, this.2.1, fun hq => (this.2.2.2.2.2.2 hq).1⟩
  · rw [nrm_u] at hu
    have hk6 := h4 (k / 6) (k % 6) (by omega) (by omega)
    rw [show 6 * (k / 6) + k % 6 = k by omega] at hk6
    have h2k := h2 (S 55 0 k).toNat (by omega)
    rw [nrm_p (by rfl), nrm_l (Or.inl rfl), nrm_l (Or.inr rfl), if_pos hu, if_pos hu]
    exact ⟨h2k.1, h2k.2.1⟩
theorem PS_WP {S : Sg} {A T C : Nat} (h : PS S A T C) : WP (nrm S) T C := by
  obtain ⟨h1, h2, h3, h4, h5, h6, h7, h8⟩ := h
  refine ⟨?_, ?_, h1.2.2.2.2.2.1, h1.2.2.2.2.2.2.2.2, fun t ht => ?_, fun k hk => ?_, fun c hc => ?_, fun c p hc hp => ?_, fun c p hc hp => ?_, fun t k ht hk0 hk => ?_⟩
  · rw [nrm_p (by rfl)]; exact h1.2.2.2.2.1
  · rw [nrm_p (by rfl)]; exact h1.2.2.2.2.2.2.2.1
  · have := h3 t ht
    rw [nrm_p (by rfl), nrm_p (by rfl), nrm_p (by rfl)]
    omega
  · have hk6 := h4 (k / 6) (k % 6) (by omega) (by omega)
    rw [show 6 * (k / 6) + k % 6 = k by omega] at hk6
    have h2k := h2 (S 55 0 k).toNat (by omega)
    rw [nrm_p (by rfl), nrm_p (by rfl), nrm_p (by rfl), nrm_p (by rfl), nrm_p (by rfl), nrm_p (by rfl), nrm_l (Or.inl rfl), nrm_l (Or.inr rfl)]
    by_cases hu : usd S k
    · rw [if_pos hu, if_pos hu]
      omega
    · rw [if_neg hu, if_neg hu]
      omega
  · have := h6 c hc
    rw [nrm_p (by rfl), nrm_p (by rfl), nrm_p (by rfl), nrm_p (by rfl), nrm_p (by rfl), nrm_p (by rfl), nrm_p (by rfl), nrm_p (by rfl)]
    omega
  · have := h7 c p hc hp
    rw [nrm_p (by rfl), nrm_p (by rfl)]
    omega
  · rw [nrm_p (by rfl)] at hp
    have h6c := h6 c (by have := h1.2.2.2.2.2.2.2.2; omega)
    have := h7 c p (by have := h1.2.2.2.2.2.2.2.2; omega) (by omega)
    rw [nrm_p (by rfl)]
    exact (this.2.2.2.2.2.2 hp).2
  · rw [nrm_p (by rfl)] at hk
    have h3t := h3 t (by have := h1.2.2.2.2.2.1; omega)
    have := h4 t k (by have := h1.2.2.2.2.2.1; omega) (by omega)
    rw [nrm_p (by rfl)]
    omega
theorem PS_1702 {S : Sg} {A T C : Nat} (h : PS S A T C) : ∀ u, u < 6 → S 1702 u 0 = nrm S 53 0 u := fun u hu => by
  rw [nrm_p (by rfl)]
  exact (h.2.2.1 u hu).2.2.1
/-- what is no plan changes no plan -/
theorem nrm_ext {S S2 : Sg} (k : ∀ f i j, psF f = true → S2 f i j = S f i j) : nrm S2 = nrm S := by
  funext f i j
  have hu : usd S2 j ↔ usd S j := by
    unfold usd
    rw [k 2004 _ _ rfl, k 54 _ _ rfl]
  unfold nrm
  by_cases h5 : f = 50 ∨ f = 51
  · rw [if_pos h5, if_pos h5, k 55 _ _ rfl, k f _ _ (by rcases h5 with rfl | rfl <;> rfl)]
    by_cases h : i = 0 ∧ usd S j
    · rw [if_pos h, if_pos ⟨h.1, hu.mpr h.2⟩]
    · rw [if_neg h, if_neg (fun z => h ⟨z.1, hu.mp z.2⟩)]
  · rw [if_neg h5, if_neg h5]
    by_cases h : plF f = true
    · rw [if_pos h, if_pos h]
      refine k f i j ?_
      unfold plF at h
      unfold psF
      simp only [Bool.or_eq_true, Bool.and_eq_true, Nat.ble_eq, Nat.beq_eq] at h ⊢
      omega
    · rw [if_neg h, if_neg h]
theorem nrm_pat {S : Sg} {t : Nat} {v : Int} : nrm (up S 53 0 t v) = up (nrm S) 53 0 t v := by
  funext f i j
  by_cases h53 : f = 53 ∧ i = 0 ∧ j = t
  · obtain ⟨rfl, rfl, rfl⟩ := h53
    rw [up_s, nrm_p (by rfl), up_s]
  · have e : up (nrm S) 53 0 t v f i j = nrm S f i j := if_neg h53
    have e2 : ∀ g a b, ¬ g = 53 → up S 53 0 t v g a b = S g a b := fun g a b hg => up_f hg
    rw [e]
    have hu : usd (up S 53 0 t v) j ↔ usd S j := by
      unfold usd
      rw [e2 2004 _ _ (by decide), e2 54 _ _ (by decide)]
    unfold nrm
    by_cases h5 : f = 50 ∨ f = 51
    · rw [if_pos h5, if_pos h5, e2 55 _ _ (by decide), e2 f _ _ (by omega)]
      by_cases h : i = 0 ∧ usd S j
      · rw [if_pos h, if_pos ⟨h.1, hu.mpr h.2⟩]
      · rw [if_neg h, if_neg (fun z => h ⟨z.1, hu.mp z.2⟩)]
    · rw [if_neg h5, if_neg h5]
      by_cases h : plF f = true
      · rw [if_pos h, if_pos h]
        exact if_neg h53
      · rw [if_neg h, if_neg h]
