/-! ===== a train is sent off (class) ===== -/
theorem seL_87 {D : Sg} {own q : Nat} : ∀ (r : List Nat) (i : Nat) (N : Sg) (K : Nat), seL D own q r i N 87 0 K = if 10 * own + i ≤ K ∧ K < 10 * own + i + r.length then ((r.getD (K - (10 * own + i)) 0 : Nat) : Int) else N 87 0 K
  | [], i, N, K => by
    rw [if_neg (by simp only [List.length_nil]; omega)]
    rfl
  | c :: r, i, N, K => by
    unfold seL
    rw [seL_87 r (i + 1) _ K]
    unfold seS
    rw [up_f (by decide), up_f (by decide), List.length_cons]
    by_cases h : K = 10 * own + i
    · subst h
      rw [if_neg (by omega), up_s, if_pos (by omega), Nat.sub_self]
      rfl
    · rw [up_k h]
      by_cases h2 : 10 * own + (i + 1) ≤ K ∧ K < 10 * own + (i + 1) + r.length
      · rw [if_pos h2, if_pos (by omega)]
        rw [show K - (10 * own + i) = (K - (10 * own + (i + 1))) + 1 by omega]
        rfl
      · rw [if_neg h2, if_neg (by omega)]
/-- the row of another train -/
theorem RR_row {n u T : Nat} {D S S2 N N2 : Sg} (h : RR n u D S N) (wt : 0 ≤ N 81 0 u ∧ N 81 0 u + 1 ≤ D 54 0 u ∧ (N 82 0 u = 0 ∨ (N 82 0 u = 1 ∧ N 81 0 u + 2 ≤ D 54 0 u))) (hs : D 54 0 u ≤ 6) (k1 : ∀ f k, (1502 ≤ f ∧ f ≤ 1505 ∨ 32 ≤ f ∧ f ≤ 35) → S2 f (6 * n + u) k = S f (6 * n + u) k)
    (e1 : N2 81 0 u = N 81 0 u) (e2 : N2 82 0 u = N 82 0 u) (e3 : ∀ f k, (f = 79 ∨ f = 80 ∨ f = 85 ∨ f = 86) → k < 6 → N2 f 0 (6 * u + k) = N f 0 (6 * u + k)) (e4 : ∀ k, k < 60 → N2 87 0 (60 * u + k) = N 87 0 (60 * u + k)) : RR n u D S2 N2 := by
  obtain ⟨h1, h2, h3, h4, h5, h6, h7, h8⟩ := h
  refine ⟨?_, ?_, ?_, ?_, fun k hk => ?_, fun k hk => ?_, fun k hk => ?_, fun k hk => ?_⟩
  · rw [k1 _ _ (by decide)]; exact h1
  · rw [k1 _ _ (by decide), e1]; exact h2
  · rw [k1 _ _ (by decide), h3]
    unfold due
    rw [e1, e2]
    by_cases hz : N 82 0 u = 0
    · rw [if_pos hz, if_pos hz]
    · rw [if_neg hz, if_neg hz, Nat.add_assoc, e3 79 _ (by simp) (by omega)]
  · rw [k1 _ _ (by decide), h4]
    unfold rpe
    rw [e1, e2, e3 79 _ (by simp) (by omega)]
  · rw [k1 _ _ (by decide), h5 k hk, e1, e3 79 _ (by simp) hk]
  · rw [k1 _ _ (by decide), h6 k hk, e3 80 _ (by simp) hk]
  · rw [k1 _ _ (by decide), h7 k hk, e3 80 _ (by simp) hk, e3 85 _ (by simp) hk, e3 86 _ (by simp) hk]
  · rw [k1 _ _ (by decide), h8 k hk, e4 k hk]
section V
variable {xs : Nat → Int32} {L : Nat} {e : Nat}
/-- what stands behind sendOff -/
theorem CR_dep {n t T C k : Nat} {D S0 S3 S4 S5 : Sg} {s : St} {m d : Int} (hn : n < 3) (wp : WP D T C) (ht : t < T) (hm : 0 ≤ m ∧ m < 2000) (hk : s.1 81 0 t = k) (h1 : (k : Int) + 2 ≤ D 54 0 t) (w : WN D T C s)
    (ci : CI n T C D S0 S3 (de3 D s t m).1 s.2 t) (rq : RQ n t S3 (de3 D s t m).2) (hab : S3 1204 n 0 = cntA D s.1 T)
    (hp : behP (up S3 35 (6 * n + t) k (FP.fmul 1120403456 (FP.fdiv (FP.i2f (Int32.ofInt (wsum D 65 (de3 D s t m).2 + 60))) (FP.i2f (Int32.ofInt (wsum D 64 (de3 D s t m).2 + 80))))).toNat) S4 (6 * n + t) k (de3 D s t m).2.length (de3 D s t m).2)
    (sj : SJ n C S4 S5 (seL D (6 * t + k) (de1 D s t m).2.length (de3 D s t m).2 0 (up (up (up (de3 D s t m).1 80 0 (6 * t + k) m) 86 0 (6 * t + k) (wsum D 64 (de3 D s t m).2 + 80)) 85 0 (6 * t + k) (wsum D 65 (de3 D s t m).2 + 60))))
    (hd : d = D 57 0 (6 * t + k + 1) + D 60 0 (6 * t + k + 1) + if D 51 0 (6 * t + k) = D 51 0 (6 * t + k + 1) then 0 else 15) :
    CR n T C D S0 (up (up (up S5 33 (6 * n + t) k m) 1504 (6 * n + t) 0 (m + d)) 1505 (6 * n + t) 0 1000000) (dep D s t m) := by
  have hT : T ≤ 6 := wp.2.2.1
  have ht6 : t < 6 := by omega
  have w54 := wp.2.2.2.2.1 t ht6
  have hkn : (s.1 81 0 t).toNat = k := by omega
  obtain ⟨c1, c2, c3, c4, c5, c6⟩ := ci
  have F5 : ∀ f a j, ¬ f = 1804 → ¬ f = 30 → ¬ f = 34 → ¬ f = 35 → S5 f a j = S3 f a j := fun f a j g1 g2 g3 g4 => by
    rw [sj.2.2.2 f a j g1 g2, hp.1 f a j (fun z => g3 z.1), up_f g4]
  have F5i : ∀ f a j, ¬ f = 1804 → ¬ f = 30 → ¬ a = 6 * n + t → S5 f a j = S3 f a j := fun f a j g1 g2 g3 => by
    rw [sj.2.2.2 f a j g1 g2, hp.1 f a j (fun z => g3 z.2)]
    simp only [up]
    rw [if_neg (fun z => g3 z.2.1)]
  have hN6 : ∀ f j, ¬ f = 87 → ¬ f = 91 → ¬ f = 93 → ¬ f = 88 → ¬ f = 89 → (dep D s t m).1 f 0 j = up (up (up (up (up s.1 80 0 (6 * t + k) m) 86 0 (6 * t + k) (wsum D 64 (de3 D s t m).2 + 80)) 85 0 (6 * t + k) (wsum D 65 (de3 D s t m).2 + 60)) 82 0 t 1) 79 0 (6 * t + k + 1) (m + D 57 0 (6 * t + k + 1) + D 60 0 (6 * t + k + 1) + if D 51 0 (6 * t + k) = D 51 0 (6 * t + k + 1) then 0 else 15) f 0 j := fun f j g1 g2 g3 g4 g5 => by
    rw [dep_f g4 g5 g1 g2 g3, hkn]
  have h3f : ∀ f i j, ¬ f = 88 → ¬ f = 89 → (de3 D s t m).1 f i j = s.1 f i j := fun f i j g1 g2 => de3_f g1 g2
  have h87 : ∀ K, (dep D s t m).1 87 0 K = if 10 * (6 * t + k) + 0 ≤ K ∧ K < 10 * (6 * t + k) + 0 + (de3 D s t m).2.length then (((de3 D s t m).2.getD (K - (10 * (6 * t + k) + 0)) 0 : Nat) : Int) else s.1 87 0 K := fun K => by
    show deN D t _ _ m _ 87 0 K = _
    unfold deN
    rw [up_f (by decide), up_f (by decide), seL_87, hkn]
    congr 1
    rw [up_f (by decide), up_f (by decide), up_f (by decide), h3f _ _ _ (by decide) (by decide)]
  have hlen : (de3 D s t m).2.length ≤ 10 := V_len (V_de3 wp ht hm (by omega) (V_of w)) ht wp.2.2.2.1
  have hJ : (dep D s t m).1 = up (up (seL D (6 * t + k) (de1 D s t m).2.length (de3 D s t m).2 0 (up (up (up (de3 D s t m).1 80 0 (6 * t + k) m) 86 0 (6 * t + k) (wsum D 64 (de3 D s t m).2 + 80)) 85 0 (6 * t + k) (wsum D 65 (de3 D s t m).2 + 60))) 82 0 t 1) 79 0 (6 * t + k + 1) (m + D 57 0 (6 * t + k + 1) + D 60 0 (6 * t + k + 1) + if D 51 0 (6 * t + k) = D 51 0 (6 * t + k + 1) then 0 else 15) := by
    unfold dep deN
    rw [hkn]
  refine ⟨?_, ?_, fun u hu => ?_, fun u hu => ?_, ?_, ?_, ?_⟩
  · refine PC_ext c1 (fun f i j hf => ?_)
    have hne : ∀ a : Nat, cpF a = false → ¬ f = a := fun a ha z => by rw [z, ha] at hf; cases hf
    rw [up_f (hne _ rfl), up_f (hne _ rfl), up_f (hne _ rfl)]
    exact F5 f i j (hne _ rfl) (hne _ rfl) (hne _ rfl) (hne _ rfl)
  · rw [hJ]
    exact RW_ext sj.1 (fun f i hf => by simp (disch := omega) only [up_f]) (fun f c hf => by simp (disch := omega) only [up_f])
  · by_cases hut : u = t
    · subst hut
      obtain ⟨z1, z2, z3, z4, z5, z6, z7, z8⟩ := c3 u hu
      have e81 := hN6 81 u (by decide) (by decide) (by decide) (by decide) (by decide)
      have e82 := hN6 82 u (by decide) (by decide) (by decide) (by decide) (by decide)
      simp (disch := omega) only [up_f, up_s] at e81 e82
      refine ⟨?_, ?_, ?_, ?_, fun j hj => ?_, fun j hj => ?_, fun j hj => ?_, fun j hj => ?_⟩
      · simp (disch := omega) only [up_f]
        rw [F5 _ _ _ (by decide) (by decide) (by decide) (by decide)]; exact z1
      · simp (disch := omega) only [up_f]
        rw [F5 _ _ _ (by decide) (by decide) (by decide) (by decide), z2, h3f _ _ _ (by decide) (by decide), e81]
      · unfold due
        rw [e82, e81, hkn, if_neg (by decide), hN6 79 _ (by decide) (by decide) (by decide) (by decide) (by decide), up_s, up_f (by decide), up_s, hd]
        omega
      · unfold rpe
        rw [e82, if_neg (by omega), up_s]
      · rw [up_f (by decide), up_f (by decide), up_f (by decide), F5 _ _ _ (by decide) (by decide) (by decide) (by decide), z5 j hj, h3f _ _ _ (by decide) (by decide), e81, hk]
        by_cases hq : (j : Int) ≤ k
        · rw [if_pos hq, if_pos hq, h3f _ _ _ (by decide) (by decide), hN6 79 _ (by decide) (by decide) (by decide) (by decide) (by decide), up_k (by omega)]
          simp (disch := omega) only [up_f]
        · rw [if_neg hq, if_neg hq]
      · rw [up_f (by decide), up_f (by decide), hN6 80 _ (by decide) (by decide) (by decide) (by decide) (by decide)]
        simp (disch := omega) only [up_f]
        by_cases hjk : j = k
        · subst hjk
          rw [up_s, up_s]
        · rw [up_k hjk, up_k (by omega), F5 _ _ _ (by decide) (by decide) (by decide) (by decide), z6 j hj, h3f _ _ _ (by decide) (by decide)]
      · rw [up_f (by decide), up_f (by decide), up_f (by decide), sj.2.2.2 _ _ _ (by decide) (by decide), hp.1 _ _ _ (by omega), hN6 80 _ (by decide) (by decide) (by decide) (by decide) (by decide), hN6 85 _ (by decide) (by decide) (by decide) (by decide) (by decide), hN6 86 _ (by decide) (by decide) (by decide) (by decide) (by decide)]
        simp (disch := omega) only [up_f]
        by_cases hjk : j = k
        · subst hjk
          rw [up_s, up_s, up_s, up_s, shB, if_neg (by omega)]
        · rw [up_k hjk, up_k (by omega), up_k (by omega), up_k (by omega), z7 j hj, h3f _ _ _ (by decide) (by decide), h3f _ _ _ (by decide) (by decide), h3f _ _ _ (by decide) (by decide)]
          simp (disch := omega) only [up_f]
      · rw [up_f (by decide), up_f (by decide), up_f (by decide), sj.2.2.2 _ _ _ (by decide) (by decide), hp.2 j hj, h87, up_f (by decide), z8 j hj, h3f _ _ _ (by decide) (by decide)]
        by_cases hq : 10 * k ≤ j ∧ j < 10 * k + (de3 D s u m).2.length
        · rw [if_pos hq, if_pos (by omega), show 60 * u + j - (10 * (6 * u + k) + 0) = j - 10 * k by omega]
        · rw [if_neg hq, if_neg (by omega)]
    · have hw := w.1 u hu
      have w54u := wp.2.2.2.2.1 u (by omega)
      have g81 := h3f 81 0 u (by decide) (by decide)
      have g82 := h3f 82 0 u (by decide) (by decide)
      refine RR_row (T := T) (c3 u hu) (by rw [g81, g82]; exact hw) w54u.2.1 (fun f j hf => ?_) ?_ ?_ (fun f j hf hj => ?_) (fun j hj => ?_)
      · simp only [up]
        rw [if_neg (by omega), if_neg (by omega), if_neg (by omega)]
        exact F5i f _ j (by omega) (by omega) (by omega)
      · rw [hN6 81 _ (by decide) (by decide) (by decide) (by decide) (by decide), g81]
        simp (disch := omega) only [up_f]
      · rw [hN6 82 _ (by decide) (by decide) (by decide) (by decide) (by decide), g82]
        simp (disch := omega) only [up_f, up_k]
      · rw [hN6 f _ (by omega) (by omega) (by omega) (by omega) (by omega), h3f f _ _ (by omega) (by omega)]
        simp only [up]
        rw [if_neg (by omega), if_neg (by omega), if_neg (by omega), if_neg (by omega), if_neg (by omega)]
      · rw [h87, if_neg (by omega), h3f _ _ _ (by decide) (by decide)]
  · have hgoal : (dep D s t m).2 u = setL s.2 t (de3 D s t m).2 u := rfl
    rw [hgoal]
    by_cases hut : u = t
    · subst hut
      rw [setL_s]
      exact RQ_ext rq (fun f j hf => by
        simp (disch := omega) only [up_f]
        exact F5 f _ j (by omega) (by omega) (by omega) (by omega))
    · rw [setL_n hut]
      exact RQ_ext (c4 u hu hut) (fun f j hf => by
        simp (disch := omega) only [up_f]
        exact F5 f _ j (by omega) (by omega) (by omega) (by omega))
  · rw [hJ]
    exact RO_ext sj.2.1 (fun j => by simp (disch := omega) only [up_f]) (fun j => by simp (disch := omega) only [up_f])
  · refine FC_up (FC_up (FC_up (FC_trans ?_ sj.2.2.1) (by unfold fpC; omega)) (by unfold fpC; omega)) (by unfold fpC; omega)
    intro f i j hf
    rw [hp.1 f i j (fun z => hf (by unfold fpC; omega))]
    simp only [up]
    rw [if_neg (fun z => hf (by unfold fpC; omega))]
    exact c6 f i j hf
  · simp (disch := omega) only [up_f]
    rw [F5 _ _ _ (by decide) (by decide) (by decide) (by decide), hab]
    exact (cntA_ext T (fun u hu => by
      rw [hN6 81 _ (by decide) (by decide) (by decide) (by decide) (by decide)]
      simp (disch := omega) only [up_f])).symm
theorem r_30 {n t T C : Nat} {D S0 S : Sg} {s : St} {m : Int} (hn : n < 3) (wp : WP D T C) (ht : t < T) (hm : 0 ≤ m ∧ m < 2000) (h1 : s.1 81 0 t + 2 ≤ D 54 0 t) (w : WN D T C s) (cr : CR n T C D S0 S s) :
    m_do xs L 30 [vR (nt n), vR (ru n t), vI m] (mk S e) (fun o h => o = .inl none ∧ ∃ S2, h = mk S2 e ∧ CR n T C D S0 S2 (dep D s t m)) := by
  have hT : T ≤ 6 := wp.2.2.1
  have ht6 : t < 6 := by omega
  have hC : C ≤ 10 := wp.2.2.2.1
  have w1 := w.1 t ht
  have w54 := wp.2.2.2.2.1 t ht6
  obtain ⟨k, hk⟩ : ∃ k : Nat, s.1 81 0 t = k := ⟨(s.1 81 0 t).toNat, by omega⟩
  have hkn : (s.1 81 0 t).toNat = k := by omega
  have hs2 : (k : Int) + 2 ≤ D 54 0 t := by omega
  have hk5 : k < 5 := by omega
  have ci := CR_CI (t := t) cr
  have rr := ci.2.2.1 t ht
  have rq := cr.2.2.2.1 t ht
  have hab := cr.2.2.2.2.2.2
  have h1503 : S 1503 (6 * n + t) 0 = k := by rw [rr.2.1, hk]
  have h1700 := PC_1700 ci.1 ht6
  have h44 : ∀ Q, m_do xs L 44 [vR (ru n t)] (mk S e) Q ↔ Q (.inl (some (vI 0))) (mk S e) := fun Q => by
    rw [s_44 hn ht6 (by omega), if_neg (by omega)]
  have hx : ((k : Int) + 1).toNat = k + 1 := by omega
  have hk0 : (k : Int).toNat = k := by omega
  have h10 := PC_10 ci.1 ht6 (show k < 6 by omega)
  have h10b := PC_10 ci.1 ht6 (show k + 1 < 6 by omega)
  rw [← Nat.add_assoc] at h10b
  have p0 := wp_here wp (show 6 * t + k < 36 by omega)
  have p1 := wp_here wp (show 6 * t + k + 1 < 36 by omega)
  have hm1 : (6 * t + k) / 6 = t := by omega
  have hm2 : (6 * t + k) % 6 = k := by omega
  have hm3 : (6 * t + k + 1) / 6 = t := by omega
  have hm4 : (6 * t + k + 1) % 6 = k + 1 := by omega
  have u0 : usd D (6 * t + k) := by rw [usd, hm1, hm2]; have := wp.1; omega
  have u1 : usd D (6 * t + k + 1) := by rw [usd, hm3, hm4]; have := wp.1; omega
  have hd1 : de1 D s t m = drL D (6 * t + k) (D 55 0 (6 * t + k)) m (s.2 t) s.1 := by unfold de1; rw [hkn]
  have hd2 : de2 D s t m = coL D t (6 * t + k) (D 55 0 (6 * t + k)) m C (de1 D s t m) := by
    unfold de2; rw [hkn, show (D 2014 0 0).toNat = C by have := wp.2.1; omega]
  have hd3 : de3 D s t m = heL D t (D 55 0 (6 * t + k)) m (de2 D s t m).2.length (de2 D s t m) := by unfold de3; rw [hkn]
  have v0 := V_of w
  have v1 := V_de1 wp ht hm (by omega) v0
  have v2 := V_de2 wp ht hm (by omega) v0
  have v3 := V_de3 wp ht hm (by omega) v0
  obtain ⟨S1, ⟨a1, a2, a3⟩, i1⟩ := r_31 (xs := xs) (L := L) (e := e) hn wp ht hm hs2 ci (by rw [setL_self]; exact v0) hk rq
  rw [← hd1] at a1 a2
  obtain ⟨S2, ⟨b1, b2, b3⟩, i2⟩ := r_32 (xs := xs) (L := L) (e := e) hn wp ht hm hs2 a1 v1 (by rw [hd1, drL_f (by decide) (by decide)]; exact hk) a2
  rw [← hd2] at b1 b2
  obtain ⟨S3, ⟨c1, c2, c3, c4, c5⟩, i3⟩ := r_34 (xs := xs) (L := L) (e := e) hn wp ht hm hs2 b1 v2 (by rw [hd2, coL_f (by decide), hd1, drL_f (by decide) (by decide)]; exact hk) b2
  rw [← hd3] at c1 c2 c3 c4
  have v3l := v3.1.1 t ht
  rw [setL_s] at v3l
  obtain ⟨hl3, hb3⟩ := WL1_len hC v3l
  have hw1 := wsum_ran (D := D) (W := 64) (fun c hc => by have := wp.2.2.2.2.2.2.1 c hc; omega) _ hb3
  have hw2 := wsum_ran (D := D) (W := 65) (fun c hc => by have := wp.2.2.2.2.2.2.1 c hc; omega) _ hb3
  have g1503 : S3 1503 (6 * n + t) 0 = k := by rw [(c1.2.2.1 t ht).2.1, de3_f (by decide) (by decide), hk]
  obtain ⟨S4, hp, i4⟩ := r_48 (xs := xs) (L := L) (e := e) hn ht6 (show k < 6 by omega) g1503 c2 hl3 c3 c4 (by omega) (by omega)
  have F4 : ∀ f a j, ¬ f = 34 → ¬ f = 35 → S4 f a j = S3 f a j := fun f a j g3 g4 => by rw [hp.1 f a j (fun z => g3 z.1), up_f g4]
  have pc4 : PC D S4 := PC_ext c1.1 (fun f i j hf => F4 f i j (fun z => by rw [z] at hf; cases hf) (fun z => by rw [z] at hf; cases hf))
  have rq4 : RQ n t S4 (de3 D s t m).2 := RQ_ext c2 (fun f j hf => F4 f _ j (by omega) (by omega))
  have i5 : ∃ S5, SJ n C S4 S5 (seL D (6 * t + k) (de1 D s t m).2.length (de3 D s t m).2 0 (up (up (up (de3 D s t m).1 80 0 (6 * t + k) m) 86 0 (6 * t + k) (wsum D 64 (de3 D s t m).2 + 80)) 85 0 (6 * t + k) (wsum D 65 (de3 D s t m).2 + 60))) ∧
      ∀ Q, m_do xs L 36 [vR (nt n), vR (ru n t), vI (de1 D s t m).2.length, vI (D 50 0 (6 * t + k + 1)), vI (D 58 0 (6 * t + k + 1))] (mk S4 e) Q ↔ Q (.inl none) (mk S5 e) := by
    refine m_do_ex ?_
    repeat' first
      | (refine V_icmp_eq.mpr ?_; first | rw [if_pos (by omega)] | rw [if_neg (by omega)] | split)
      | (refine V_icmp_ge.mpr ?_; first | rw [if_pos (by omega)] | rw [if_neg (by omega)] | split)
      | (refine V_icmp_lt.mpr ?_; first | rw [if_pos (by omega)] | rw [if_neg (by omega)] | split)
      | (simp (disch := (first | omega | (simp (disch := omega) only [up_f, up_s, up_i, up_k, up_e]; omega))) only [up_f, up_s, up_i, up_k, up_e, V_iconst, V_bipush, V_sipush, V_conti, V_contn, V_goto, Option.some.injEq, exists_eq_left', true_and, and_true, m_fit, Option.isSome_some, List.map_nil, List.map_cons, List.sum_nil, List.sum_cons, List.all_nil, List.all_cons, m_cat, decide_true, Bool.and_true, Bool.true_and, Nat.zero_le, Int.toNat_natCast, Int.reduceAdd, Int.reduceSub, Int.reduceMul, Int.reduceNeg, Int.reduceLE, Int.reduceLT, Nat.reduceAdd, Nat.reduceLeDiff, Int.reduceToNat, Int.reduceEq, decide_eq_true_eq, true_or, or_true, exists_and_left, and_self, Nat.reduceMul, Nat.reduceSub, Nat.reduceLT, m_oa, Nat.reduceEqDiff, or_false, false_or, Sum.inl.injEq, Sum.inr.injEq, ↓reduceIte, ne_eq, not_false_eq_true, Int.reduceNe, exists_eq_left, D_36, R_36, X_36, F_36_140, J_36_9, F_36_19, F_36_143, J_36_29, F_36_259, W_36_259, F_36_153, F_36_262, J_36_52, F_36_23, J_36_83, V_istore5, V_iload5, V_aloadn1, G_5_7, V_aloadn0, G_2_2, A_ntW, T_antW, G_5_6, A_ruA0, T_aruA0, B_ruA0, U_iaload, U_aaload, V_astore6, V_iloadn2, V_aload6, V_dup_vI, V_dup_vR, G_8_4, V_iadd, m_add_eq, P_8_4, G_8_0, G_1_2, V_iloadn3, G_2_3, A_ntO, T_antO, B_ntO, V_imul, m_mul_eq, V_dup2, V_iload4, U_iastore, V_iinc5, b_36_0, b_36_43, b_36_80, b_36_86])
    refine k_36 hn wp ht6 (by omega) pc4 rq4 hl3 (fun c hc => (v3l.2 c hc).1) (de3 D s t m).2 0 0 _ S4 _ (by omega) (fun j c hc => by rw [Nat.zero_add]; exact hc) rfl ⟨?_, ?_, FC_refl, fun _ _ _ _ _ => rfl⟩ ?_ (fun S5 hs => ⟨rfl, S5, rfl, hs⟩)
    · exact RW_ext c1.2.1 (fun f i hf => F4 f i 0 (by omega) (by omega)) (fun f c hf => by simp (disch := omega) only [up_f])
    · exact RO_ext c1.2.2.2.2.1 (fun j => F4 _ _ _ (by decide) (by decide)) (fun j => by simp (disch := omega) only [up_f])
    · refine ⟨fun c hc => ?_, fun j hj => ?_⟩
      · rw [up_f (by decide), up_f (by decide), up_f (by decide), de3_f (by decide) (by decide)]
        exact w.2.2.2.1.1 c hc
      · rw [up_f (by decide), up_f (by decide), up_f (by decide), de3_f (by decide) (by decide)]
        exact w.2.2.2.1.2 j hj
  obtain ⟨S5, sj, i5⟩ := i5
  have F5 : ∀ f a j, ¬ f = 1804 → ¬ f = 30 → ¬ f = 34 → ¬ f = 35 → S5 f a j = S3 f a j := fun f a j g1 g2 g3 g4 => by
    rw [sj.2.2.2 f a j g1 g2, F4 f a j g3 g4]
  have pc5 : PC D S5 := PC_ext c1.1 (fun f i j hf => F5 f i j (fun z => by rw [z] at hf; cases hf) (fun z => by rw [z] at hf; cases hf) (fun z => by rw [z] at hf; cases hf) (fun z => by rw [z] at hf; cases hf))
  have h1600 := PC_1600 pc4 (show 6 * t + k + 1 < 36 by omega) u1
  have h14 := PC_14 pc4 ht6 (show k + 1 < 6 by omega)
  have h1601a := PC_1601 pc5 (show 6 * t + k < 36 by omega) u0
  have h1601b := PC_1601 pc5 (show 6 * t + k + 1 < 36 by omega) u1
  have h12 := PC_12 pc5 ht6 (show k + 1 < 6 by omega)
  have h13 := PC_13 pc5 ht6 (show k + 1 < 6 by omega)
  rw [← Nat.add_assoc] at h14 h12 h13
  have h1507 := a2.1
  have j1503 : S5 1503 (6 * n + t) 0 = k := by rw [F5 _ _ _ (by decide) (by decide) (by decide) (by decide)]; exact g1503
  have wk := wp.2.2.2.2.2.1 (6 * t + k + 1) (by omega)
  have hfin := fun d hd => CR_dep (d := d) hn wp ht hm hk hs2 w c1 c2 (by rw [c5, b3, a3]; exact hab) hp sj hd
  by_cases hg : D 51 0 (6 * t + k) = D 51 0 (6 * t + k + 1)
  · have h49 := s_49 (xs := xs) (L := L) (S := S5) (e := e) (d := D 57 0 (6 * t + k + 1) + D 60 0 (6 * t + k + 1) + 0) hn ht6 (show k < 6 by omega) j1503 hm (by omega)
    repeat' first
      | (refine V_icmp_ne.mpr ?_; first | rw [if_pos (by omega)] | rw [if_neg (by omega)] | split)
      | (refine V_if_eq.mpr ?_; first | rw [if_pos (by omega)] | rw [if_neg (by omega)] | split)
      | (simp (disch := (first | omega | (simp (disch := omega) only [up_f, up_s, up_i, up_k, up_e]; omega))) only [up_f, up_s, up_i, up_k, up_e, V_iconst, V_bipush, V_sipush, V_conti, V_contn, V_goto, Option.some.injEq, exists_eq_left', true_and, and_true, m_fit, Option.isSome_some, List.map_nil, List.map_cons, List.sum_nil, List.sum_cons, List.all_nil, List.all_cons, m_cat, decide_true, Bool.and_true, Bool.true_and, Nat.zero_le, Int.toNat_natCast, Int.reduceAdd, Int.reduceSub, Int.reduceMul, Int.reduceNeg, Int.reduceLE, Int.reduceLT, Nat.reduceAdd, Nat.reduceLeDiff, Int.reduceToNat, Int.reduceEq, decide_eq_true_eq, true_or, or_true, exists_and_left, and_self, Nat.reduceMul, Nat.reduceSub, Nat.reduceLT, m_oa, Nat.reduceEqDiff, or_false, false_or, Sum.inl.injEq, Sum.inr.injEq, ↓reduceIte, ne_eq, not_false_eq_true, Int.reduceNe, exists_eq_left, D_30, R_30, X_30, I_30_83, J_30_4, F_30_137, F_30_31, F_30_176, F_30_128, F_30_132, I_30_180, F_30_140, I_30_184, I_30_187, I_30_190, F_30_193, F_30_198, I_30_201, F_30_205, J_30_123, J_30_127, F_30_208, F_30_211, I_30_214, V_aloadn1, T_5, G_5_3, V_iadd, m_add_eq, V_istoren3, V_aloadn0, G_2_0, G_4_0, A_2, T_a2, G_5_1, G_7_3, A_trA0, T_atrA0, B_trA0, U_iaload, U_aaload, V_astore4, V_iloadn3, V_astore5, V_aload4, V_aload5, V_iloadn2, T_2, G_5_7, V_istore6, V_iload6, G_6_0, G_7_7, A_trA4, T_atrA4, B_trA4, G_6_1, V_istore7, G_7_5, A_trA2, T_atrA2, B_trA2, G_7_6, A_trA3, T_atrA3, B_trA3, V_iload7, b_30_0, b_30_8, b_30_130, b_30_132, h44, h1503, hx, hk0, h10, h10b, i1, i2, i3, i4, i5, h1507, h1600, h14, h1601a, h1601b, h12, h13, h49, hg])
    exact ⟨_, rfl, hfin _ (by rw [if_pos hg])⟩
  · have h49 := s_49 (xs := xs) (L := L) (S := S5) (e := e) (d := D 57 0 (6 * t + k + 1) + D 60 0 (6 * t + k + 1) + 15) hn ht6 (show k < 6 by omega) j1503 hm (by omega)
    repeat' first
      | (refine V_icmp_ne.mpr ?_; first | rw [if_pos (by omega)] | rw [if_neg (by omega)] | split)
      | (refine V_if_eq.mpr ?_; first | rw [if_pos (by omega)] | rw [if_neg (by omega)] | split)
      | (simp (disch := (first | omega | (simp (disch := omega) only [up_f, up_s, up_i, up_k, up_e]; omega))) only [up_f, up_s, up_i, up_k, up_e, V_iconst, V_bipush, V_sipush, V_conti, V_contn, V_goto, Option.some.injEq, exists_eq_left', true_and, and_true, m_fit, Option.isSome_some, List.map_nil, List.map_cons, List.sum_nil, List.sum_cons, List.all_nil, List.all_cons, m_cat, decide_true, Bool.and_true, Bool.true_and, Nat.zero_le, Int.toNat_natCast, Int.reduceAdd, Int.reduceSub, Int.reduceMul, Int.reduceNeg, Int.reduceLE, Int.reduceLT, Nat.reduceAdd, Nat.reduceLeDiff, Int.reduceToNat, Int.reduceEq, decide_eq_true_eq, true_or, or_true, exists_and_left, and_self, Nat.reduceMul, Nat.reduceSub, Nat.reduceLT, m_oa, Nat.reduceEqDiff, or_false, false_or, Sum.inl.injEq, Sum.inr.injEq, ↓reduceIte, ne_eq, not_false_eq_true, Int.reduceNe, exists_eq_left, D_30, R_30, X_30, I_30_83, J_30_4, F_30_137, F_30_31, F_30_176, F_30_128, F_30_132, I_30_180, F_30_140, I_30_184, I_30_187, I_30_190, F_30_193, F_30_198, I_30_201, F_30_205, J_30_123, J_30_127, F_30_208, F_30_211, I_30_214, V_aloadn1, T_5, G_5_3, V_iadd, m_add_eq, V_istoren3, V_aloadn0, G_2_0, G_4_0, A_2, T_a2, G_5_1, G_7_3, A_trA0, T_atrA0, B_trA0, U_iaload, U_aaload, V_astore4, V_iloadn3, V_astore5, V_aload4, V_aload5, V_iloadn2, T_2, G_5_7, V_istore6, V_iload6, G_6_0, G_7_7, A_trA4, T_atrA4, B_trA4, G_6_1, V_istore7, G_7_5, A_trA2, T_atrA2, B_trA2, G_7_6, A_trA3, T_atrA3, B_trA3, V_iload7, b_30_0, b_30_8, b_30_130, b_30_132, h44, h1503, hx, hk0, h10, h10b, i1, i2, i3, i4, i5, h1507, h1600, h14, h1601a, h1601b, h12, h13, h49, hg])
    exact ⟨_, rfl, hfin _ (by rw [if_neg hg])⟩
end V
