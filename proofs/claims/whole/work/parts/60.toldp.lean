/-! ===== the plans behind each call that tells something ===== -/
theorem PS2_ext {S S2 : Sg} (h : PS2 S) (k : ∀ f i j, (f = 1600 ∨ f = 1601 ∨ f = 50 ∨ f = 51) → S2 f i j = S f i j) : PS2 S2 := by
  unfold PS2 at h ⊢
  simp only [k 1600 _ _ (by omega), k 1601 _ _ (by omega), k 50 _ _ (by omega), k 51 _ _ (by omega)]
  exact h
theorem PS3_ext {S S2 : Sg} {T : Nat} (h : PS3 S T) (k : ∀ f i j, (1700 ≤ f ∧ f ≤ 1702 ∨ 52 ≤ f ∧ f ≤ 54) → S2 f i j = S f i j) : PS3 S2 T := by
  unfold PS3 at h ⊢
  simp only [k 1700 _ _ (by omega), k 1701 _ _ (by omega), k 1702 _ _ (by omega), k 52 _ _ (by omega), k 53 _ _ (by omega), k 54 _ _ (by omega)]
  exact h
theorem PS4_ext {S S2 : Sg} {A : Nat} (h : PS4 S A) (k : ∀ f i j, (10 ≤ f ∧ f ≤ 15 ∨ 54 ≤ f ∧ f ≤ 60) → S2 f i j = S f i j) : PS4 S2 A := by
  unfold PS4 at h ⊢
  simp only [k 10 _ _ (by omega), k 11 _ _ (by omega), k 12 _ _ (by omega), k 13 _ _ (by omega), k 14 _ _ (by omega), k 15 _ _ (by omega), k 54 _ _ (by omega), k 55 _ _ (by omega), k 56 _ _ (by omega), k 57 _ _ (by omega), k 58 _ _ (by omega), k 59 _ _ (by omega), k 60 _ _ (by omega)]
  exact h
theorem PS5_ext {S S2 : Sg} (h : PS5 S) (k : ∀ f i j, (f = 16 ∨ f = 54 ∨ f = 55) → S2 f i j = S f i j) : PS5 S2 := by
  have hs : ∀ (t : Nat) (a : Int) (n : Nat), stopF S2 t a n = stopF S t a n := fun t a n => stopF_x n (fun j _ => k 55 0 _ (by omega))
  unfold PS5 at h ⊢
  simp only [hs, k 16 _ _ (by omega), k 54 _ _ (by omega)]
  exact h
theorem PS6_ext {S S2 : Sg} {C : Nat} (h : PS6 S C) (k : ∀ f i j, (1100 ≤ f ∧ f ≤ 1109 ∨ 61 ≤ f ∧ f ≤ 69) → S2 f i j = S f i j) : PS6 S2 C := by
  unfold PS6 at h ⊢
  simp only [k 1100 _ _ (by omega), k 1101 _ _ (by omega), k 1102 _ _ (by omega), k 1103 _ _ (by omega), k 1104 _ _ (by omega), k 1105 _ _ (by omega), k 1106 _ _ (by omega), k 1107 _ _ (by omega), k 1108 _ _ (by omega), k 1109 _ _ (by omega), k 61 _ _ (by omega), k 62 _ _ (by omega), k 63 _ _ (by omega), k 64 _ _ (by omega), k 65 _ _ (by omega), k 66 _ _ (by omega), k 67 _ _ (by omega), k 68 _ _ (by omega), k 69 _ _ (by omega)]
  exact h
theorem PS7_ext {S S2 : Sg} {T : Nat} (h : PS7 S T) (k : ∀ f i j, (20 ≤ f ∧ f ≤ 22 ∨ f = 61 ∨ 69 ≤ f ∧ f ≤ 71) → S2 f i j = S f i j) : PS7 S2 T := by
  unfold PS7 begP at h ⊢
  simp only [k 20 _ _ (by omega), k 21 _ _ (by omega), k 22 _ _ (by omega), k 61 _ _ (by omega), k 69 _ _ (by omega), k 70 _ _ (by omega), k 71 _ _ (by omega)]
  exact h
theorem PS8_ext {S S2 : Sg} (h : PS8 S) (k : ∀ f i j, (f = 1500) → S2 f i j = S f i j) : PS8 S2 := by
  unfold PS8 at h ⊢
  simp only [k 1500 _ _ (by omega)]
  exact h
theorem p_station {S : Sg} {A T C : Nat} {a b x : Int} (ps : PS S A T C) (hA : A < 10) (ha : 0 ≤ a ∧ a < 6) (hb : 0 ≤ b ∧ b ≤ 1) : PS (up (up (up (up (up (up (up (up (up S 1600 A 0 (a)) 1601 A 0 (b)) 1401 0 0 ((A : Int) + 1)) 1406 0 0 (S 1406 0 0 + 1)) 98 0 0 (x)) 2000 0 0 (0)) 50 0 A (a)) 51 0 A (b)) 2001 0 0 ((A : Int) + 1)) (A + 1) T C ∧ nrm (up (up (up (up (up (up (up (up (up S 1600 A 0 (a)) 1601 A 0 (b)) 1401 0 0 ((A : Int) + 1)) 1406 0 0 (S 1406 0 0 + 1)) 98 0 0 (x)) 2000 0 0 (0)) 50 0 A (a)) 51 0 A (b)) 2001 0 0 ((A : Int) + 1)) = nrm S := by
  obtain ⟨h1, h2, h3, h4, h5, h6, h7, h8⟩ := ps
  refine ⟨⟨?_, fun c hc => ?_, PS3_ext h3 (fun f i j hf => by simp (disch := omega) only [up_f]), ?_, PS5_ext h5 (fun f i j hf => by simp (disch := omega) only [up_f]), PS6_ext h6 (fun f i j hf => by simp (disch := omega) only [up_f]), PS7_ext h7 (fun f i j hf => by simp (disch := omega) only [up_f]), PS8_ext h8 (fun f i j hf => by simp (disch := omega) only [up_f])⟩, ?_⟩
  · unfold PS1 at h1 ⊢
    simp (disch := omega) only [up_f, up_s, true_and, and_true]
    omega
  · have h2c := h2 c hc
    by_cases hcA : c = A
    · subst hcA
      simp (disch := omega) only [up_f, up_s, true_and, and_true]
      omega
    · simp (disch := omega) only [up_f, up_i, up_k]
      exact h2c
  · have h4b := PS4_ext (S2 := (up (up (up (up (up (up (up (up (up S 1600 A 0 (a)) 1601 A 0 (b)) 1401 0 0 ((A : Int) + 1)) 1406 0 0 (S 1406 0 0 + 1)) 98 0 0 (x)) 2000 0 0 (0)) 50 0 A (a)) 51 0 A (b)) 2001 0 0 ((A : Int) + 1))) h4 (fun f i j hf => by simp (disch := omega) only [up_f])
    intro t k ht hk
    have := h4b t k ht hk
    have e := this.2.2.2.2.2.2.2.2.2.2.2.2.2.2.2.2.2.2
    exact ⟨this.1, this.2.1, this.2.2.1, this.2.2.2.1, this.2.2.2.2.1, this.2.2.2.2.2.1, this.2.2.2.2.2.2.1, this.2.2.2.2.2.2.2.1, this.2.2.2.2.2.2.2.2.1, this.2.2.2.2.2.2.2.2.2.1, this.2.2.2.2.2.2.2.2.2.2.1, this.2.2.2.2.2.2.2.2.2.2.2.1, this.2.2.2.2.2.2.2.2.2.2.2.2.1, this.2.2.2.2.2.2.2.2.2.2.2.2.2.1, this.2.2.2.2.2.2.2.2.2.2.2.2.2.2.1, this.2.2.2.2.2.2.2.2.2.2.2.2.2.2.2.1, this.2.2.2.2.2.2.2.2.2.2.2.2.2.2.2.2.1, this.2.2.2.2.2.2.2.2.2.2.2.2.2.2.2.2.2.1, fun z => ⟨by have := (e.1 z).1; omega, (e.1 z).2⟩, e.2⟩
  · funext f i j
    have hne : usd S j → (S 55 0 j).toNat < A := fun hu => by
      unfold usd at hu
      unfold PS1 at h1
      have := h4 (j / 6) (j % 6) (by omega) (by omega)
      rw [show 6 * (j / 6) + j % 6 = j by omega] at this
      have := (this.2.2.2.2.2.2.2.2.2.2.2.2.2.2.2.2.2.2.1 (by omega)).1
      omega
    have hu : usd (up (up (up (up (up (up (up (up (up S 1600 A 0 (a)) 1601 A 0 (b)) 1401 0 0 ((A : Int) + 1)) 1406 0 0 (S 1406 0 0 + 1)) 98 0 0 (x)) 2000 0 0 (0)) 50 0 A (a)) 51 0 A (b)) 2001 0 0 ((A : Int) + 1)) j ↔ usd S j := by
      unfold usd
      simp (disch := omega) only [up_f]
    unfold nrm
    by_cases h5 : f = 50 ∨ f = 51
    · rw [if_pos h5, if_pos h5]
      by_cases h : i = 0 ∧ usd S j
      · have := hne h.2
        rw [if_pos ⟨h.1, hu.mpr h.2⟩, if_pos h]
        rcases h5 with rfl | rfl
        · simp (disch := omega) only [up_f, up_k]
        · simp (disch := omega) only [up_f, up_k]
      · rw [if_neg h, if_neg (fun z => h ⟨z.1, hu.mp z.2⟩)]
    · rw [if_neg h5, if_neg h5]
      by_cases h : plF f = true
      · rw [if_pos h, if_pos h]
        unfold plF at h
        simp only [Bool.or_eq_true, Bool.and_eq_true, Nat.ble_eq, Nat.beq_eq] at h
        simp (disch := omega) only [up_f]
      · rw [if_neg h, if_neg h]
theorem p_train {S : Sg} {A T C a : Nat} {d q x : Int} (ps : PS S A T C) (hT : T < 6) (ha : a < A) (hd : 0 ≤ d ∧ d ≤ 1439) (hq : 0 ≤ q ∧ q ≤ 1000) : PS (up (up (up (up (up (up (up (up (up (up (up (up (up (up (up S 1701 T 0 (q)) 10 T 0 ((a : Int))) 11 T 0 (d)) 16 T a (0)) 1700 T 0 (1)) 1403 0 0 ((T : Int) + 1)) 1406 0 0 (S 1406 0 0 + 1)) 98 0 0 (x)) 2000 0 0 (0)) 55 0 (6 * T) ((a : Int))) 56 0 (6 * T) (d)) 52 0 T (q)) 54 0 T (1)) 2004 0 0 ((T : Int) + 1)) 2034 0 0 (0)) A (T + 1) C := by
  obtain ⟨h1, h2, h3, h4, h5, h6, h7, h8⟩ := ps
  have hA : A ≤ 10 := h1.2.2.1
  refine ⟨?_, PS2_ext h2 (fun f i j hf => by simp (disch := omega) only [up_f]), fun t ht => ?_, fun t k ht hk => ?_, fun t b ht hb => ?_, PS6_ext h6 (fun f i j hf => by simp (disch := omega) only [up_f]), fun c p hc hp => ?_, PS8_ext h8 (fun f i j hf => by simp (disch := omega) only [up_f])⟩
  · unfold PS1 at h1 ⊢
    simp (disch := omega) only [up_f, up_s, true_and, and_true]
    omega
  · have h3t := h3 t ht
    by_cases htT : t = T
    · subst htT
      simp (disch := omega) only [up_f, up_s, true_and, and_true]
      omega
    · simp (disch := omega) only [up_f, up_i, up_k]
      omega
  · have h4t := h4 t k ht hk
    have h3t := h3 t ht
    by_cases htT : t = T
    · subst htT
      by_cases hk0 : k = 0
      · subst hk0
        rw [Nat.add_zero] at h4t ⊢
        simp (disch := omega) only [up_f, up_s, true_and, and_true]
        omega
      · simp (disch := omega) only [up_f, up_s, up_k, true_and, and_true]
        omega
    · simp (disch := omega) only [up_f, up_i, up_k]
      exact h4t
  · have h5t := h5 t b ht hb
    have h3t := h3 t ht
    by_cases htT : t = T
    · subst htT
      have h0 : (S 54 0 t).toNat = 0 := by omega
      rw [h0] at h5t
      simp (disch := omega) only [up_f, up_s, true_and, and_true]
      have e1 : (1 : Int).toNat = 0 + 1 := rfl
      rw [e1]
      unfold stopF
      rw [Nat.add_zero]
      simp (disch := omega) only [up_f, up_s, true_and, and_true]
      by_cases hba : b = a
      · subst hba
        rw [if_pos rfl]
        simp (disch := omega) only [up_s]
        rfl
      · rw [if_neg (by omega)]
        simp (disch := omega) only [up_k, up_f]
        exact h5t
    · have hs : ∀ n, n ≤ 6 → stopF (up (up (up (up (up (up (up (up (up (up (up (up (up (up (up S 1701 T 0 (q)) 10 T 0 ((a : Int))) 11 T 0 (d)) 16 T a (0)) 1700 T 0 (1)) 1403 0 0 ((T : Int) + 1)) 1406 0 0 (S 1406 0 0 + 1)) 98 0 0 (x)) 2000 0 0 (0)) 55 0 (6 * T) ((a : Int))) 56 0 (6 * T) (d)) 52 0 T (q)) 54 0 T (1)) 2004 0 0 ((T : Int) + 1)) 2034 0 0 (0)) t b n = stopF S t b n := fun n hn => stopF_x n (fun j hj => by simp (disch := omega) only [up_f, up_k])
      rw [hs _ (by simp (disch := omega) only [up_f, up_k]; omega)]
      simp (disch := omega) only [up_f, up_i, up_k]
      exact h5t
  · have h7c := PS7_ext (S2 := (up (up (up (up (up (up (up (up (up (up (up (up (up (up (up S 1701 T 0 (q)) 10 T 0 ((a : Int))) 11 T 0 (d)) 16 T a (0)) 1700 T 0 (1)) 1403 0 0 ((T : Int) + 1)) 1406 0 0 (S 1406 0 0 + 1)) 98 0 0 (x)) 2000 0 0 (0)) 55 0 (6 * T) ((a : Int))) 56 0 (6 * T) (d)) 52 0 T (q)) 54 0 T (1)) 2004 0 0 ((T : Int) + 1)) 2034 0 0 (0))) h7 (fun f i j hf => by simp (disch := omega) only [up_f]) c p hc hp
    exact ⟨h7c.1, h7c.2.1, h7c.2.2.1, h7c.2.2.2.1, h7c.2.2.2.2.1, h7c.2.2.2.2.2.1, fun z => ⟨(h7c.2.2.2.2.2.2 z).1, by have := (h7c.2.2.2.2.2.2 z).2; omega⟩⟩
theorem p_stop {S : Sg} {A T C t a k : Nat} {r q y x : Int} (ps : PS S A T C) (ht : t < T) (ha : a < A) (hk : k < 6) (hk0 : 0 < k) (hk2 : S 54 0 t = k) (hr : 1 ≤ r ∧ r ≤ 300) (hq : 1 ≤ q ∧ q ≤ 500) (hy : 0 ≤ y ∧ y ≤ 60) : PS (up (up (up (up (up (up (up (up (up (up (up (up (up (up (up (up (up (up S 1406 0 0 (S 1406 0 0 + 1)) 10 t k ((a : Int))) 12 t k (r)) 14 t k (q)) 15 t k (y)) 11 t k (S 11 t (k - 1) + r + y)) 16 t a ((k : Int))) 1700 t 0 ((k : Int) + 1)) 98 0 0 (x)) 2000 0 0 (0)) 55 0 (6 * t + k) ((a : Int))) 56 0 (6 * t + k) (S 56 0 (6 * t + k - 1) + r + y)) 57 0 (6 * t + k) (r)) 58 0 (6 * t + k) (q)) 59 0 (6 * t + k) (y)) 60 0 (6 * t + k) (0)) 54 0 t ((k : Int) + 1)) 2034 0 0 (0)) A T C := by
  obtain ⟨h1, h2, h3, h4, h5, h6, h7, h8⟩ := ps
  have hA : A ≤ 10 := h1.2.2.1
  have hT : T ≤ 6 := h1.2.2.2.2.2.1
  have ht6 : t < 6 := by omega
  refine ⟨?_, PS2_ext h2 (fun f i j hf => by simp (disch := omega) only [up_f]), fun u hu => ?_, fun u j hu hj => ?_, fun u b hu hb => ?_, PS6_ext h6 (fun f i j hf => by simp (disch := omega) only [up_f]), PS7_ext h7 (fun f i j hf => by simp (disch := omega) only [up_f]), PS8_ext h8 (fun f i j hf => by simp (disch := omega) only [up_f])⟩
  · unfold PS1 at h1 ⊢
    simp (disch := omega) only [up_f, up_s, true_and, and_true]
    omega
  · have h3t := h3 u hu
    by_cases hut : u = t
    · subst hut
      simp (disch := omega) only [up_f, up_s, true_and, and_true]
      omega
    · simp (disch := omega) only [up_f, up_i, up_k]
      omega
  · have h4t := h4 u j hu hj
    have h3t := h3 u hu
    by_cases hut : u = t
    · subst hut
      have h4p := h4 u (k - 1) hu (by omega)
      rw [show 6 * u + (k - 1) = 6 * u + k - 1 by omega] at h4p
      by_cases hjk : j = k
      · subst hjk
        simp (disch := omega) only [up_f, up_s, true_and, and_true]
        omega
      · simp (disch := omega) only [up_f, up_s, up_k, true_and, and_true]
        omega
    · simp (disch := omega) only [up_f, up_i, up_k]
      exact h4t
  · have h5t := h5 u b hu hb
    have h3t := h3 u hu
    by_cases hut : u = t
    · subst hut
      have h0 : (S 54 0 u).toNat = k := by omega
      rw [h0] at h5t
      simp (disch := omega) only [up_f, up_s, true_and, and_true]
      have e1 : ((k : Int) + 1).toNat = k + 1 := by omega
      rw [e1]
      unfold stopF
      simp (disch := omega) only [up_f, up_s, true_and, and_true]
      by_cases hba : b = a
      · subst hba
        rw [if_pos rfl]
        simp (disch := omega) only [up_s]
      · rw [if_neg (by omega)]
        simp (disch := omega) only [up_k, up_f]
        rw [h5t]
        exact (stopF_x k (fun j hj => by simp (disch := omega) only [up_f, up_k])).symm
    · have hs : ∀ n, n ≤ 6 → stopF (up (up (up (up (up (up (up (up (up (up (up (up (up (up (up (up (up (up S 1406 0 0 (S 1406 0 0 + 1)) 10 t k ((a : Int))) 12 t k (r)) 14 t k (q)) 15 t k (y)) 11 t k (S 11 t (k - 1) + r + y)) 16 t a ((k : Int))) 1700 t 0 ((k : Int) + 1)) 98 0 0 (x)) 2000 0 0 (0)) 55 0 (6 * t + k) ((a : Int))) 56 0 (6 * t + k) (S 56 0 (6 * t + k - 1) + r + y)) 57 0 (6 * t + k) (r)) 58 0 (6 * t + k) (q)) 59 0 (6 * t + k) (y)) 60 0 (6 * t + k) (0)) 54 0 t ((k : Int) + 1)) 2034 0 0 (0)) u b n = stopF S u b n := fun n hn => stopF_x n (fun j hj => by simp (disch := omega) only [up_f, up_k])
      rw [hs _ (by simp (disch := omega) only [up_f, up_k]; omega)]
      simp (disch := omega) only [up_f, up_i, up_k]
      exact h5t
theorem p_patience {S : Sg} {A T C t : Nat} {v x : Int} (ps : PS S A T C) (ht : t < T) (hv : 0 ≤ v ∧ v ≤ 180) : PS (up (up (up (up (up (up S 1702 t 0 (v)) 1406 0 0 (S 1406 0 0 + 1)) 98 0 0 (x)) 2000 0 0 (0)) 53 0 t (v)) 2034 0 0 (0)) A T C := by
  obtain ⟨h1, h2, h3, h4, h5, h6, h7, h8⟩ := ps
  refine ⟨?_, PS2_ext h2 (fun f i j hf => by simp (disch := omega) only [up_f]), fun u hu => ?_, PS4_ext h4 (fun f i j hf => by simp (disch := omega) only [up_f]), PS5_ext h5 (fun f i j hf => by simp (disch := omega) only [up_f]), PS6_ext h6 (fun f i j hf => by simp (disch := omega) only [up_f]), PS7_ext h7 (fun f i j hf => by simp (disch := omega) only [up_f]), PS8_ext h8 (fun f i j hf => by simp (disch := omega) only [up_f])⟩
  · unfold PS1 at h1 ⊢
    simp (disch := omega) only [up_f, up_s, true_and, and_true]
    omega
  · have h3t := h3 u hu
    by_cases hut : u = t
    · subst hut
      simp (disch := omega) only [up_f, up_s, true_and, and_true]
      omega
    · simp (disch := omega) only [up_f, up_i, up_k]
      exact h3t
theorem p_late {S : Sg} {A T C t k : Nat} {v x : Int} (ps : PS S A T C) (ht : t < T) (hk : (k : Int) < S 54 0 t) (hv : 0 ≤ v ∧ v ≤ 300) : PS (up (up (up (up (up (up S 13 t k (v)) 1406 0 0 (S 1406 0 0 + 1)) 98 0 0 (x)) 2000 0 0 (0)) 60 0 (6 * t + k) (v)) 2034 0 0 (0)) A T C := by
  obtain ⟨h1, h2, h3, h4, h5, h6, h7, h8⟩ := ps
  have hT : T ≤ 6 := h1.2.2.2.2.2.1
  refine ⟨?_, PS2_ext h2 (fun f i j hf => by simp (disch := omega) only [up_f]), PS3_ext h3 (fun f i j hf => by simp (disch := omega) only [up_f]), fun u j hu hj => ?_, PS5_ext h5 (fun f i j hf => by simp (disch := omega) only [up_f]), PS6_ext h6 (fun f i j hf => by simp (disch := omega) only [up_f]), PS7_ext h7 (fun f i j hf => by simp (disch := omega) only [up_f]), PS8_ext h8 (fun f i j hf => by simp (disch := omega) only [up_f])⟩
  · unfold PS1 at h1 ⊢
    simp (disch := omega) only [up_f, up_s, true_and, and_true]
    omega
  · have h4t := h4 u j hu hj
    have h3t := h3 t (by omega)
    by_cases hut : u = t ∧ j = k
    · obtain ⟨rfl, rfl⟩ := hut
      simp (disch := omega) only [up_f, up_s, true_and, and_true]
      omega
    · have hne : ¬ (6 * u + j = 6 * t + k) := fun z => hut ⟨by omega, by omega⟩
      by_cases hut2 : u = t
      · subst hut2
        have hjk : ¬ j = k := fun z => hut ⟨rfl, z⟩
        simp (disch := omega) only [up_f, up_k]
        exact h4t
      · simp (disch := omega) only [up_f, up_i, up_k]
        exact h4t
theorem p_coach {S : Sg} {A T C a : Nat} {l kd w b ls sl x : Int} (ps : PS S A T C) (hC : C < 10) (ha : a < A) (hl : 0 ≤ l ∧ l ≤ 5) (hkd : 0 ≤ kd ∧ kd ≤ 2) (hw : 20 ≤ w ∧ w ≤ 60) (hb : 0 ≤ b ∧ b ≤ 80) (hls : 0 ≤ ls ∧ ls ≤ 63) (hsl : sl = 0 ∨ sl = 1) : PS (up (up (up (up (up (up (up (up (up (up (up (up (up (up (up (up (up (up (up (up S 1405 0 0 ((C : Int) + 1)) 1406 0 0 (S 1406 0 0 + 1)) 1101 C 0 ((a : Int))) 1102 C 0 (l)) 1103 C 0 (kd)) 1104 C 0 (w)) 1105 C 0 (b)) 1106 C 0 (ls)) 1107 C 0 (sl)) 98 0 0 (x)) 2000 0 0 (0)) 61 0 C ((a : Int))) 62 0 C (l)) 63 0 C (kd)) 64 0 C (w)) 65 0 C (b)) 66 0 C (ls)) 67 0 C (sl)) 2014 0 0 ((C : Int) + 1)) 2034 0 0 (0)) A T (C + 1) := by
  obtain ⟨h1, h2, h3, h4, h5, h6, h7, h8⟩ := ps
  have hA : A ≤ 10 := h1.2.2.1
  refine ⟨?_, PS2_ext h2 (fun f i j hf => by simp (disch := omega) only [up_f]), PS3_ext h3 (fun f i j hf => by simp (disch := omega) only [up_f]), PS4_ext h4 (fun f i j hf => by simp (disch := omega) only [up_f]), PS5_ext h5 (fun f i j hf => by simp (disch := omega) only [up_f]), fun c hc => ?_, fun c p hc hp => ?_, PS8_ext h8 (fun f i j hf => by simp (disch := omega) only [up_f])⟩
  · unfold PS1 at h1 ⊢
    simp (disch := omega) only [up_f, up_s, true_and, and_true]
    omega
  · have h6c := h6 c hc
    by_cases hcC : c = C
    · subst hcC
      simp (disch := omega) only [up_f, up_s, true_and, and_true]
      omega
    · simp (disch := omega) only [up_f, up_i, up_k]
      omega
  · have h7c := h7 c p hc hp
    have h6c := h6 c hc
    unfold begP at h7c ⊢
    by_cases hcC : c = C
    · subst hcC
      have h0 : S 69 0 c = 0 := by omega
      simp (disch := omega) only [up_f]
      refine ⟨h7c.1, h7c.2.1, h7c.2.2.1, h7c.2.2.2.1, h7c.2.2.2.2.1, h7c.2.2.2.2.2.1, fun z => by omega⟩
    · simp (disch := omega) only [up_f, up_i, up_k]
      exact h7c
theorem p_part {S : Sg} {A T C c t a p : Nat} {x : Int} (ps : PS S A T C) (hc : c < C) (ht : t < T) (ha : a < A) (hp : p < 3) (hp2 : S 69 0 c = p) : PS (up (up (up (up (up (up (up (up (up (up (up S 1406 0 0 (S 1406 0 0 + 1)) 20 c p ((t : Int))) 21 c p (begP S c p)) 22 c p ((a : Int))) 1109 c 0 ((p : Int) + 1)) 98 0 0 (x)) 2000 0 0 (0)) 70 0 (3 * c + p) ((t : Int))) 71 0 (3 * c + p) ((a : Int))) 69 0 c ((p : Int) + 1)) 2034 0 0 (0)) A T C := by
  obtain ⟨h1, h2, h3, h4, h5, h6, h7, h8⟩ := ps
  have hA : A ≤ 10 := h1.2.2.1
  have hT : T ≤ 6 := h1.2.2.2.2.2.1
  have hC : C ≤ 10 := h1.2.2.2.2.2.2.2.2
  refine ⟨?_, PS2_ext h2 (fun f i j hf => by simp (disch := omega) only [up_f]), PS3_ext h3 (fun f i j hf => by simp (disch := omega) only [up_f]), PS4_ext h4 (fun f i j hf => by simp (disch := omega) only [up_f]), PS5_ext h5 (fun f i j hf => by simp (disch := omega) only [up_f]), fun d hd => ?_, fun d q hd hq => ?_, PS8_ext h8 (fun f i j hf => by simp (disch := omega) only [up_f])⟩
  · unfold PS1 at h1 ⊢
    simp (disch := omega) only [up_f, up_s, true_and, and_true]
    omega
  · have h6c := h6 d hd
    by_cases hdc : d = c
    · subst hdc
      simp (disch := omega) only [up_f, up_s, true_and, and_true]
      omega
    · simp (disch := omega) only [up_f, up_i, up_k]
      omega
  · have h7c := h7 d q hd hq
    have h6c := h6 d hd
    unfold begP at h7c ⊢
    by_cases hdc : d = c
    · subst hdc
      by_cases hqp : q = p
      · subst hqp
        simp (disch := omega) only [up_f, up_s, true_and, and_true]
        refine ⟨by omega, by omega, by omega, by omega, fun _ => ⟨?_, by omega⟩⟩
        by_cases hq0 : q = 0
        · rw [if_pos hq0, if_pos hq0]
        · rw [if_neg hq0, if_neg hq0, up_k (by omega)]
          simp (disch := omega) only [up_f]
      · simp (disch := omega) only [up_f, up_s, up_k, true_and, and_true]
        refine ⟨h7c.1, h7c.2.1, h7c.2.2.1, h7c.2.2.2.1, h7c.2.2.2.2.1, h7c.2.2.2.2.2.1, fun z => ?_⟩
        have h9 := h7c.2.2.2.2.2.2 (by omega)
        refine ⟨?_, h9.2⟩
        rw [h9.1]
        by_cases hq0 : q = 0
        · rw [if_pos hq0, if_pos hq0]
        · rw [if_neg hq0, if_neg hq0, up_k (by omega)]
          simp (disch := omega) only [up_f]
    · have hne : ∀ j, j < 3 → ¬ 3 * d + j = 3 * c + p := fun j hj z => hdc (by omega)
      have hne2 := hne q hq
      have hne3 : ¬ q = 0 → ¬ 3 * d + q - 1 = 3 * c + p := fun h0 z => hdc (by omega)
      simp (disch := omega) only [up_f, up_i, up_k]
      refine ⟨h7c.1, h7c.2.1, h7c.2.2.1, h7c.2.2.2.1, h7c.2.2.2.2.1, h7c.2.2.2.2.2.1, fun z => ?_⟩
      have h9 := h7c.2.2.2.2.2.2 z
      exact ⟨h9.1, h9.2⟩
