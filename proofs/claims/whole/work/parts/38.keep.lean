/-! ===== a step of the night keeps what it keeps to ===== -/
theorem nodup_len {x : List Nat} {C : Nat} (h : x.Nodup) (hc : ∀ c, c ∈ x → c < C) : x.length ≤ C := by
  have := h.length_le_of_subset (l₂ := List.range C) (fun c hz => List.mem_range.mpr (hc c hz))
  rwa [List.length_range] at this
theorem wsum_nil {D : Sg} {W : Nat} : wsum D W [] = 0 := rfl
theorem wsum_cons {D : Sg} {W c : Nat} {l : List Nat} : wsum D W (c :: l) = D W 0 c + wsum D W l := by
  unfold wsum
  rw [List.map_cons, List.sum_cons]
theorem wsum_ran {D : Sg} {W : Nat} (h : ∀ c, c < 10 → 0 ≤ D W 0 c ∧ D W 0 c ≤ 80) : ∀ l : List Nat, (∀ c, c ∈ l → c < 10) → 0 ≤ wsum D W l ∧ wsum D W l ≤ 80 * l.length
  | [], _ => by simp [wsum_nil]
  | c :: l, hl => by
    have h1 := h c (hl c (by simp))
    have h2 := wsum_ran h l (fun d hd => hl d (by simp [hd]))
    rw [wsum_cons, List.length_cons]
    omega
theorem stopF_ran {S : Sg} {t : Nat} {a : Int} : ∀ k, -1 ≤ stopF S t a k ∧ stopF S t a k < k
  | 0 => by simp [stopF]
  | k + 1 => by
    have h := stopF_ran (S := S) (t := t) (a := a) k
    simp only [stopF]
    split <;> omega
theorem stA_ran {D : Sg} {T C t : Nat} {a : Int} (wp : WP D T C) (ht : t < 6) : -1 ≤ stA D t a ∧ stA D t a < 6 := by
  have h1 := wp.2.2.2.2.1 t ht
  have h2 := stopF_ran (S := D) (t := t) (a := a) (D 54 0 t).toNat
  unfold stA
  omega
theorem m_add_in {a b : Int} : m_in (m_add a b) := by
  unfold m_add m_in
  have h1 := Int32.toInt_lt (Int32.ofInt a + Int32.ofInt b)
  have h2 := Int32.le_toInt (Int32.ofInt a + Int32.ofInt b)
  omega
theorem m_add_0 {a : Int} (h : m_in a) : m_add a 0 = a := by
  unfold m_in at h
  rw [m_add_eq (by omega), Int.add_zero]
theorem WO_seL {D : Sg} {own q : Nat} : ∀ (l : List Nat) (j : Nat) (N : Sg), WO N → WO (seL D own q l j N)
  | [], _, _, h => h
  | c :: l, j, N, h => by
    unfold seL
    refine WO_seL l (j + 1) _ ⟨fun d hd => ?_, fun k hk => ?_⟩
    · unfold seS
      rw [up_f (by decide)]
      simp only [up]
      split
      · exact m_add_in
      · rw [if_neg (fun z => by omega)]; exact h.1 d hd
    · unfold seS
      simp only [up]
      split
      · exact m_add_in
      · rw [if_neg (fun z => by omega), if_neg (fun z => by omega)]; exact h.2 k hk
theorem due_1 {N : Sg} {t : Nat} {m : Int} (h : due N t = m) (hm : m < 2000) : ¬ N 82 0 t = 0 ∧ N 79 0 (6 * t + (N 81 0 t).toNat + 1) = m := by
  unfold due at h
  split at h
  · omega
  · rename_i hz; exact ⟨hz, h⟩
theorem arr_f {D : Sg} {s : St} {t f i k : Nat} {m : Int} (h1 : ¬ f = 88) (h2 : ¬ f = 89) (h3 : ¬ f = 90) : (arr D s t m).1 f i k = up (up s.1 82 0 t 0) 81 0 t ((s.1 81 0 t).toNat + 1 : Nat) f i k := by
  unfold arr
  exact arL_f h1 h2 h3 _ _
theorem dep_f {D : Sg} {s : St} {t f i k : Nat} {m : Int} (h1 : ¬ f = 88) (h2 : ¬ f = 89) (h4 : ¬ f = 87) (h5 : ¬ f = 91) (h6 : ¬ f = 93) :
    (dep D s t m).1 f i k = up (up (up (up (up s.1 80 0 (6 * t + (s.1 81 0 t).toNat) m) 86 0 (6 * t + (s.1 81 0 t).toNat) (wsum D 64 (de3 D s t m).2 + 80)) 85 0 (6 * t + (s.1 81 0 t).toNat) (wsum D 65 (de3 D s t m).2 + 60)) 82 0 t 1) 79 0 (6 * t + (s.1 81 0 t).toNat + 1)
      (m + D 57 0 (6 * t + (s.1 81 0 t).toNat + 1) + D 60 0 (6 * t + (s.1 81 0 t).toNat + 1) + if D 51 0 (6 * t + (s.1 81 0 t).toNat) = D 51 0 (6 * t + (s.1 81 0 t).toNat + 1) then 0 else 15) f i k := by
  unfold dep deN
  simp only [up]
  rw [seL_f h4 h5 h6]
  simp only [up]
  rw [de3_f h1 h2]
theorem dep_c {D : Sg} {s : St} {t f i k : Nat} {m : Int} (h : f = 88 ∨ f = 89 ∨ f = 90) : (dep D s t m).1 f i k = (de3 D s t m).1 f i k := by
  unfold dep deN
  simp only []
  rw [up_f (by omega), up_f (by omega), seL_f (by omega) (by omega) (by omega), up_f (by omega), up_f (by omega), up_f (by omega)]
theorem wp_here {D : Sg} {T C k : Nat} (wp : WP D T C) (hk : k < 36) : 0 ≤ D 55 0 k ∧ D 55 0 k < 10 := by
  have := wp.2.2.2.2.2.1 k hk
  omega
theorem V_of {D : Sg} {T C : Nat} {s : St} (w : WN D T C s) : V D s.1 s.2 T C := ⟨w.2.1, w.2.2.1⟩
theorem V_arr {D : Sg} {T C : Nat} {s : St} {t : Nat} {m : Int} (wp : WP D T C) (ht : t < T) (hm : 0 ≤ m ∧ m < 2000) (hk : (s.1 81 0 t).toNat + 1 < 6) (w : V D s.1 s.2 T C) : V D (arr D s t m).1 (arr D s t m).2 T C := by
  have hT : T ≤ 6 := wp.2.2.1
  unfold arr
  have := V_arL (D := D) (here := D 55 0 (6 * t + ((s.1 81 0 t).toNat + 1))) (m := m) (last := decide ((((s.1 81 0 t).toNat + 1 : Nat) : Int) = D 54 0 t - 1)) (l := s.2) (C := C) ht (wp_here wp (by omega)) hm (s.2 t) [] (up (up s.1 82 0 t 0) 81 0 t ((s.1 81 0 t).toNat + 1 : Nat)) (by
    rw [List.nil_append, setL_self]
    exact V_ext w (fun c => by rw [up_f (by decide), up_f (by decide)]) (fun c => by rw [up_f (by decide), up_f (by decide)]) (fun c => by rw [up_f (by decide), up_f (by decide)]))
  rwa [List.nil_append] at this
theorem V_de1 {D : Sg} {T C : Nat} {s : St} {t : Nat} {m : Int} (wp : WP D T C) (ht : t < T) (hm : 0 ≤ m ∧ m < 2000) (hk : (s.1 81 0 t).toNat < 6) (w : V D s.1 s.2 T C) : V D (de1 D s t m).1 (setL s.2 t (de1 D s t m).2) T C := by
  have hT : T ≤ 6 := wp.2.2.1
  have := V_drL (D := D) (own := 6 * t + (s.1 81 0 t).toNat) (here := D 55 0 (6 * t + (s.1 81 0 t).toNat)) (m := m) (l := s.2) (C := C) ht (wp_here wp (by omega)) hm (s.2 t) [] s.1 (by rw [List.nil_append, setL_self]; exact w)
  rwa [List.nil_append] at this
theorem V_de2 {D : Sg} {T C : Nat} {s : St} {t : Nat} {m : Int} (wp : WP D T C) (ht : t < T) (hm : 0 ≤ m ∧ m < 2000) (hk : (s.1 81 0 t).toNat < 6) (w : V D s.1 s.2 T C) : V D (de2 D s t m).1 (setL s.2 t (de2 D s t m).2) T C := by
  have hT : T ≤ 6 := wp.2.2.1
  have hC : (D 2014 0 0).toNat ≤ C := by have := wp.2.1; omega
  exact V_coL ht (wp_here wp (by omega)) _ _ hC (V_de1 wp ht hm hk w)
theorem V_de3 {D : Sg} {T C : Nat} {s : St} {t : Nat} {m : Int} (wp : WP D T C) (ht : t < T) (hm : 0 ≤ m ∧ m < 2000) (hk : (s.1 81 0 t).toNat < 6) (w : V D s.1 s.2 T C) : V D (de3 D s t m).1 (setL s.2 t (de3 D s t m).2) T C := by
  have hT : T ≤ 6 := wp.2.2.1
  exact V_heL ht (wp_here wp (by omega)) hm _ _ rfl (V_de2 wp ht hm hk w)
theorem V_dep {D : Sg} {T C : Nat} {s : St} {t : Nat} {m : Int} (wp : WP D T C) (ht : t < T) (hm : 0 ≤ m ∧ m < 2000) (hk : (s.1 81 0 t).toNat < 6) (w : V D s.1 s.2 T C) : V D (dep D s t m).1 (dep D s t m).2 T C :=
  V_ext (V_de3 wp ht hm hk w) (fun c => dep_c (by simp)) (fun c => dep_c (by simp)) (fun c => dep_c (by simp))
theorem WL1_len {D N : Sg} {C : Nat} {x : List Nat} (hC : C ≤ 10) (h : WL1 D N C x) : x.length ≤ 10 ∧ ∀ c, c ∈ x → c < 10 := by
  have h1 := nodup_len h.1 (fun c hc => (h.2 c hc).1)
  exact ⟨by omega, fun c hc => by have := (h.2 c hc).1; omega⟩
theorem WN_arr {D : Sg} {T C : Nat} {s : St} {t : Nat} {m : Int} (wp : WP D T C) (ht : t < T) (hm : 0 ≤ m ∧ m < 2000) (hd : due s.1 t = m) (w : WN D T C s) : WN D T C (arr D s t m) := by
  have hT : T ≤ 6 := wp.2.2.1
  obtain ⟨d1, d2⟩ := due_1 hd hm.2
  have w0 := V_of w
  obtain ⟨w1, w2, w3, w4, w5, w6⟩ := w
  have k1 := w1 t ht
  have k2 := wp.2.2.2.2.1 t (by omega)
  have hv := V_arr wp ht hm (by omega) w0
  refine ⟨fun u hu => ?_, hv.1, hv.2, ⟨fun c hc => ?_, fun k hk => ?_⟩, fun u k hu hk => ?_, fun k hk => ?_⟩
  · rw [arr_f (by decide) (by decide) (by decide), arr_f (by decide) (by decide) (by decide)]
    by_cases hut : u = t
    · subst hut
      rw [up_s, up_f (by decide), up_s]
      omega
    · rw [up_k hut, up_f (by decide), up_f (by decide), up_k hut]
      exact w1 u hu
  · rw [arr_f (by decide) (by decide) (by decide), up_f (by decide), up_f (by decide)]
    exact w4.1 c hc
  · rw [arr_f (by decide) (by decide) (by decide), up_f (by decide), up_f (by decide)]
    exact w4.2 k hk
  · rw [arr_f (by decide) (by decide) (by decide), arr_f (by decide) (by decide) (by decide), arr_f (by decide) (by decide) (by decide), up_f (show ¬ 79 = 81 by decide), up_f (show ¬ 79 = 82 by decide), up_f (show ¬ 82 = 81 by decide)]
    have hw := w5 u k hu hk
    by_cases hut : u = t
    · subst hut
      rw [up_s, up_s]
      refine ⟨fun hz => ?_, fun hz => ?_⟩
      · by_cases hkk : (k : Int) ≤ s.1 81 0 u
        · exact hw.1 hkk
        · have e1 : k = (s.1 81 0 u).toNat + 1 := by omega
          subst e1
          rw [← Nat.add_assoc, d2]
          exact hm
      · refine Or.inr ?_
        rcases hw.2 (by omega) with h9 | h9
        · omega
        · exact h9
    · rw [up_k hut, up_f (by decide), up_k hut]
      exact hw
  · rw [arr_f (by decide) (by decide) (by decide), arr_f (by decide) (by decide) (by decide), arr_f (by decide) (by decide) (by decide), up_f (by decide), up_f (by decide), up_f (by decide), up_f (by decide), up_f (by decide), up_f (by decide)]
    exact w6 k hk
theorem WN_dep {D : Sg} {T C : Nat} {s : St} {t : Nat} {m : Int} (wp : WP D T C) (ht : t < T) (hm : 0 ≤ m ∧ m < 2000) (h0 : s.1 82 0 t = 0) (h1 : s.1 81 0 t + 2 ≤ D 54 0 t) (w : WN D T C s) : WN D T C (dep D s t m) := by
  have hT : T ≤ 6 := wp.2.2.1
  have w0 := V_of w
  obtain ⟨w1, w2, w3, w4, w5, w6⟩ := w
  have k1 := w1 t ht
  have k2 := wp.2.2.2.2.1 t (by omega)
  have hv := V_dep wp ht hm (by omega) w0
  have hv3 := V_de3 wp ht hm (by omega) w0
  have hl3 := hv3.1.1 t ht
  rw [setL_s] at hl3
  obtain ⟨hl3a, hl3b⟩ := WL1_len wp.2.2.2.1 hl3
  have hw1 := wsum_ran (D := D) (W := 64) (fun c hc => by have := wp.2.2.2.2.2.2.1 c hc; omega) _ hl3b
  have hw2 := wsum_ran (D := D) (W := 65) (fun c hc => by have := wp.2.2.2.2.2.2.1 c hc; omega) _ hl3b
  have kn := wp.2.2.2.2.2.1 (6 * t + (s.1 81 0 t).toNat + 1) (by omega)
  refine ⟨fun u hu => ?_, hv.1, hv.2, ?_, fun u k hu hk => ?_, fun k hk => ?_⟩
  · rw [dep_f (by decide) (by decide) (by decide) (by decide) (by decide), dep_f (by decide) (by decide) (by decide) (by decide) (by decide)]
    by_cases hut : u = t
    · subst hut
      rw [up_f (by decide), up_f (by decide), up_f (by decide), up_f (by decide), up_f (by decide), up_f (by decide), up_s]
      omega
    · rw [up_f (by decide), up_f (by decide), up_f (by decide), up_f (by decide), up_f (by decide), up_f (by decide), up_k hut, up_f (by decide), up_f (by decide), up_f (by decide)]
      exact w1 u hu
  · have hz : WO (up (up (up (de3 D s t m).1 80 0 (6 * t + (s.1 81 0 t).toNat) m) 86 0 (6 * t + (s.1 81 0 t).toNat) (wsum D 64 (de3 D s t m).2 + 80)) 85 0 (6 * t + (s.1 81 0 t).toNat) (wsum D 65 (de3 D s t m).2 + 60)) := by
      refine ⟨fun c hc => ?_, fun k hk => ?_⟩
      · rw [up_f (by decide), up_f (by decide), up_f (by decide), de3_f (by decide) (by decide)]
        exact w4.1 c hc
      · rw [up_f (by decide), up_f (by decide), up_f (by decide), de3_f (by decide) (by decide)]
        exact w4.2 k hk
    have hz2 := WO_seL (D := D) (own := 6 * t + (s.1 81 0 t).toNat) (q := (de1 D s t m).2.length) (de3 D s t m).2 0 _ hz
    refine ⟨fun c hc => ?_, fun k hk => ?_⟩
    · show m_in (deN D t _ _ m _ 91 0 c)
      unfold deN
      rw [up_f (by decide), up_f (by decide)]
      exact hz2.1 c hc
    · show m_in (deN D t _ _ m _ 93 0 k)
      unfold deN
      rw [up_f (by decide), up_f (by decide)]
      exact hz2.2 k hk
  · rw [dep_f (by decide) (by decide) (by decide) (by decide) (by decide), dep_f (by decide) (by decide) (by decide) (by decide) (by decide), dep_f (by decide) (by decide) (by decide) (by decide) (by decide)]
    rw [up_f (show ¬ 81 = 79 by decide), up_f (show ¬ 81 = 82 by decide), up_f (show ¬ 81 = 85 by decide), up_f (show ¬ 81 = 86 by decide), up_f (show ¬ 81 = 80 by decide), up_f (show ¬ 82 = 79 by decide)]
    have hw := w5 u k hu hk
    by_cases hut : u = t
    · subst hut
      rw [up_s]
      refine ⟨fun hz => ?_, fun hz => ?_⟩
      · rw [up_k (by omega), up_f (by decide), up_f (by decide), up_f (by decide), up_f (by decide)]
        exact hw.1 hz
      · by_cases hkk : (k : Int) = s.1 81 0 u + 1
        · refine Or.inl ⟨rfl, hkk, ?_⟩
          have e1 : 6 * u + k = 6 * u + (s.1 81 0 u).toNat + 1 := by omega
          rw [e1, up_s]
          split <;> omega
        · refine Or.inr ?_
          rw [up_k (by omega), up_f (by decide), up_f (by decide), up_f (by decide), up_f (by decide)]
          rcases hw.2 hz with h9 | h9
          · omega
          · exact h9
    · rw [up_k (by omega), up_f (show ¬ 79 = 82 by decide), up_f (show ¬ 79 = 85 by decide), up_f (show ¬ 79 = 86 by decide), up_f (show ¬ 79 = 80 by decide), up_k hut, up_f (by decide), up_f (by decide), up_f (by decide)]
      exact hw
  · rw [dep_f (by decide) (by decide) (by decide) (by decide) (by decide), dep_f (by decide) (by decide) (by decide) (by decide) (by decide), dep_f (by decide) (by decide) (by decide) (by decide) (by decide)]
    have hw := w6 k hk
    simp only [up]
    by_cases hkk : k = 6 * t + (s.1 81 0 t).toNat
    · subst hkk
      simp
      omega
    · simp [hkk]
      omega
theorem lev_1 {D N : Sg} {t : Nat} {m : Int} (h : lev D N t m) (hm : m < 2000) : N 82 0 t = 0 ∧ N 81 0 t + 2 ≤ D 54 0 t := by
  have h1 := h.1
  unfold rpe at h1
  split at h1
  · rename_i hz; exact ⟨hz.1, by omega⟩
  · omega
/-- the arrivals of a minute -/
theorem WN_arA {D : Sg} {T C : Nat} {m : Int} (wp : WP D T C) (hm : 0 ≤ m ∧ m < 2000) : ∀ (t : Nat) (s : St), t ≤ T → WN D T C s → WN D T C (arA D m t s)
  | 0, _, _, w => w
  | t + 1, s, ht, w => by
    have ih := WN_arA wp hm t s (by omega) w
    unfold arA
    split
    · rename_i hd
      exact WN_arr wp ht hm hd ih
    · exact ih
theorem WN_deA {D : Sg} {T C : Nat} {m : Int} (wp : WP D T C) (hm : 0 ≤ m ∧ m < 2000) : ∀ (t : Nat) (s : St), t ≤ T → WN D T C s → WN D T C (deA D m t s)
  | 0, _, _, w => w
  | t + 1, s, ht, w => by
    have ih := WN_deA wp hm t s (by omega) w
    unfold deA
    split
    · rename_i hd
      obtain ⟨h0, h1⟩ := lev_1 hd hm.2
      exact WN_dep wp ht hm h0 h1 ih
    · exact ih
theorem WN_mnA {D : Sg} {T C : Nat} {m : Int} {s : St} (wp : WP D T C) (hm : 0 ≤ m ∧ m < 2000) (w : WN D T C s) : WN D T C (mnA D m s) := by
  have hT : (D 2004 0 0).toNat ≤ T := by have := wp.1; omega
  exact WN_deA wp hm _ _ hT (WN_arA wp hm _ _ hT w)
theorem WN_beg {D : Sg} {T C : Nat} (wp : WP D T C) : WN D T C (begA D) := by
  have hT : T ≤ 6 := wp.2.2.1
  have hC : C ≤ 10 := wp.2.2.2.1
  refine ⟨fun t ht => ?_, ⟨fun t ht => ⟨List.nodup_nil, fun c hc => by cases hc⟩, fun t u c ht hu hc => by cases hc⟩, fun c hc => ?_, ⟨fun c hc => ?_, fun k hk => ?_⟩, fun t k ht hk => ?_, fun k hk => ?_⟩
  · have := wp.2.2.2.2.1 t (by omega)
    simp [begA, begN]
    omega
  · have := wp.2.2.2.2.2.2.1 c (by omega)
    simp [begA, begN]
    omega
  · simp [begA, begN, m_in]
  · simp [begA, begN, m_in]
  · have hmod : (6 * t + k) % 6 = k := by omega
    simp only [begA, begN, if_true, hmod]
    simp
    refine ⟨fun hz => by rw [if_pos (by omega)]; omega, fun hz => by omega⟩
  · exact Or.inl (by simp [begA, begN])
theorem WN_ruA {D : Sg} {T C : Nat} (wp : WP D T C) : ∀ m : Nat, m ≤ 2000 → WN D T C (ruA D m)
  | 0, _ => WN_beg wp
  | m + 1, h => WN_mnA wp (by omega) (WN_ruA wp m (by omega))
