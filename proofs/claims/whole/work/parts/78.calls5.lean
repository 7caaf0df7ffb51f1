/-! ===== told calls, side by side ===== -/
section V
variable {xs : Nat → Int32} {L : Nat} {S : Sg} {e j : Nat}
theorem II_told {S2 : Sg} {A T C P A2 T2 C2 : Nat} (h : II S A T C P j e) (ps : PS S2 A2 T2 C2) (k : ∀ f i l, (f = 40 ∨ f = 1001 ∨ f = 1003 ∨ 1300 ≤ f ∧ f ≤ 1307 ∨ 72 ≤ f ∧ f ≤ 78 ∨ f = 2026) → S2 f i l = S f i l) (hv : S2 1406 0 0 = S 1406 0 0 + 1) (nc : NC S2 T2 C2) : II S2 A2 T2 C2 P (j + 1) e := by
  obtain ⟨_, _, h3, h4, h5, h6, h7⟩ := h
  refine ⟨ps, nc, (k _ _ _ (by omega)).trans h3, (k _ _ _ (by omega)).trans h4, PP_ext h5 (fun f i l hf => k f i l (by have := peF_yes hf; omega)) (fun f l hf => k f 0 l (by have := pmF_yes hf; omega)), by omega, by omega⟩
theorem NC_st {S2 : Sg} {T C : Nat} (hT : T ≤ 6) (h : NC S T C) (h1 : S2 1406 0 0 = S 1406 0 0 + 1) (h2 : S2 1205 0 0 = S 1205 0 0) (h3 : S2 1205 1 0 = S 1205 1 0) (hD : nrm S2 = nrm S) (k : ∀ f i l, (79 ≤ f ∧ f ≤ 93 ∨ f = 2034) → S2 f i l = S f i l) : NC S2 T C := by
  obtain ⟨a1, a2, a3, _, _, a6, a7⟩ := h
  refine ⟨by omega, by omega, by omega, fun z => by exfalso; omega, fun z => by exfalso; omega, ?_, fun z => ?_⟩
  · rw [k 2034 0 0 (Or.inr rfl)]
    exact a6
  · rw [k 2034 0 0 (Or.inr rfl)] at z
    obtain ⟨m1, m2, m3, m4⟩ := a7 z
    rw [hD]
    refine ⟨?_, ⟨fun f l hl => ?_, fun l hl hn => ?_⟩, fun u hu => MU_ext (m3 u hu) (k _ _ _ (by omega)) (fun i _ => k _ _ _ (by omega)), fun _ _ _ _ => rfl⟩
    · have := PS_PM (S := S2)
      rw [hD] at this
      exact this
    · by_cases hf : 79 ≤ f ∧ f ≤ 93
      · rw [k f _ _ (by omega)]
        exact m2.1 f l hl
      · exfalso
        unfold lim at hl
        rw [if_neg (by omega), if_neg (by omega), if_neg (by omega), if_neg (by omega)] at hl
        omega
    · rw [k 85 _ _ (by omega), k 86 _ _ (by omega)]
      exact m2.2 l hl hn
theorem call_0 {A T C P : Nat} {a b : Int} (h : II S A T C P j e) (hj : j < 10000) : CS xs L 155 106 [vR 0, vI a, vI b, vR 341] [vR 296, vI a, vI b] S e j := by
  have h1 := h.1.1
  unfold PS1 at h1
  have hv : 0 ≤ S 1406 0 0 ∧ S 1406 0 0 < 100000 := ⟨h.2.1.2.2.1, by have := h.2.2.2.2.2.1; omega⟩
  by_cases ga : 0 ≤ a ∧ a ≤ 5
  · by_cases gb : 0 ≤ b ∧ b ≤ 1
    · by_cases gA : A < 10
      · have p := fun x => p_station (x := x) h.1 gA (a := a) (b := b) (by omega) gb
        refine ⟨0, _, _, e, _, A + 1, T, C, P, w_155 (c_64 h1.1 gA ga gb hv), m_106 (n := A) (by simp (disch := omega) only [up_f]; exact h1.2.1) gA ga gb, ?_, fun _ => ?_, II_told h (p _).1 ?_ ?_ (NC_st h1.2.2.2.2.2.1 h.2.1 ?_ ?_ ?_ (p _).2 ?_)⟩
        · simp (disch := omega) only [up_f, up_s]
        · simp (disch := omega) only [up_f, up_s]
        · intro f i l hf
          simp (disch := omega) only [up_f]
        · simp (disch := omega) only [up_f, up_s]
        · simp (disch := omega) only [up_f, up_s]
        · simp (disch := omega) only [up_f]
        · simp (disch := omega) only [up_f]
        · intro f i l hf
          simp (disch := omega) only [up_f]
      · exact CS_thr h (by decide) (w_155_2 (c_64c ga gb (by omega))) (m_106c ga gb (by omega))
    · exact CS_thr h (by decide) (w_155_1 (c_64b ga gb)) (m_106b ga gb)
  · exact CS_thr h (by decide) (w_155_1 (c_64a ga)) (m_106a ga)
theorem call_1 {A T C P : Nat} {a d q : Int} (h : II S A T C P j e) (hj : j < 10000) : CS xs L 156 107 [vR 0, vI a, vI d, vI q, vR 341] [vR 296, vI a, vI d, vI q] S e j := by
  have h1 := h.1.1
  unfold PS1 at h1
  obtain ⟨hA, hA2, hA10, hT, hT2, hT6, hC, hC2, hC10⟩ := h1
  have hv : 0 ≤ S 1406 0 0 ∧ S 1406 0 0 < 100000 := ⟨h.2.1.2.2.1, by have := h.2.2.2.2.2.1; omega⟩
  by_cases ga : 0 ≤ a ∧ a < A
  · by_cases gd : 0 ≤ d ∧ d ≤ 1439
    · by_cases gq : 0 ≤ q ∧ q ≤ 1000
      · by_cases gT : T < 6
        · obtain ⟨a, rfl⟩ : ∃ t : Nat, a = t := ⟨a.toNat, by omega⟩
          have p := fun x => p_train (x := x) h.1 gT (a := a) (d := d) (q := q) (by omega) gd gq
          refine ⟨0, _, _, e, _, A, T + 1, C, P, w_156 (c_65 hT gT hA hA10 (by omega) gd gq hv), m_107 (n := T) (A := A) (by simp (disch := omega) only [up_f]; exact hT2) gT (by simp (disch := omega) only [up_f]; exact hA2) hA10 (by omega) gd gq, ?_, fun _ => ?_, II_told h (p _) ?_ ?_ ?_⟩
          · simp (disch := omega) only [up_f, up_s]
          · simp (disch := omega) only [up_f, up_s]
          · intro f i l hf
            simp (disch := omega) only [up_f]
          · simp (disch := omega) only [up_f, up_s]
          · refine NC_new h.2.1 ?_ ?_ ?_ ?_
            · simp (disch := omega) only [up_f, up_s]
            · simp (disch := omega) only [up_f]
            · simp (disch := omega) only [up_f]
            · simp (disch := omega) only [up_s]
        · exact CS_thr h (by decide) (w_156_2 (c_65d hA ga gd gq (by omega))) (m_107d hA2 hA10 ga gd gq (by omega))
      · exact CS_thr h (by decide) (w_156_1 (c_65c hA ga gd gq)) (m_107c hA2 hA10 ga gd gq)
    · exact CS_thr h (by decide) (w_156_1 (c_65b hA ga gd)) (m_107b hA2 hA10 ga gd)
  · exact CS_thr h (by decide) (w_156_0 (c_65a hA ga)) (m_107a hA2 hA10 ga)
theorem call_2 {A T C P : Nat} {t a r q y : Int} (h : II S A T C P j e) (hj : j < 10000) : CS xs L 157 108 [vR 0, vI t, vI a, vI r, vI q, vI y, vR 341] [vR 296, vI t, vI a, vI r, vI q, vI y] S e j := by
  have h1 := h.1.1
  unfold PS1 at h1
  obtain ⟨hA, hA2, hA10, hT, hT2, hT6, hC, hC2, hC10⟩ := h1
  have hv : 0 ≤ S 1406 0 0 ∧ S 1406 0 0 < 100000 := ⟨h.2.1.2.2.1, by have := h.2.2.2.2.2.1; omega⟩
  by_cases gt : 0 ≤ t ∧ t < T
  · by_cases ga : 0 ≤ a ∧ a < A
    · by_cases gr : 1 ≤ r ∧ r ≤ 300
      · by_cases gq : 1 ≤ q ∧ q ≤ 500
        · by_cases gy : 0 ≤ y ∧ y ≤ 60
          · obtain ⟨t, rfl⟩ : ∃ z : Nat, t = z := ⟨t.toNat, by omega⟩
            obtain ⟨a, rfl⟩ : ∃ z : Nat, a = z := ⟨a.toNat, by omega⟩
            have h3 := h.1.2.2.1 t (by omega)
            obtain ⟨k, hk⟩ : ∃ k : Nat, S 54 0 t = k := ⟨(S 54 0 t).toNat, by omega⟩
            have h5 := h.1.2.2.2.2.1 t a (by omega) (by omega)
            rw [hk, Int.toNat_natCast] at h5
            by_cases gs : S 16 t a = -1
            · by_cases gk : k < 6
              · have hk0 : 0 < k := by have := h3.2.2.2.2.2.2.2.2.2.1 (by omega); omega
                have h4 := h.1.2.2.2.1 t (k - 1) (by omega) (by omega)
                have p := fun x => p_stop (x := x) h.1 (t := t) (a := a) (k := k) (r := r) (q := q) (y := y) (by omega) (by omega) gk hk0 hk gr gq gy
                have hk1 : 6 * t + (k - 1) = 6 * t + k - 1 := by omega
                rw [hk1] at h4
                refine ⟨0, _, _, e, _, A, T, C, P, w_157 (c_66 (k := k) hT hT6 hA hA10 (by omega) (by omega) gr gq gy (by omega) gk hk0 gs (by omega) hv), m_108 (k := k) (T := T) (A := A) (by simp (disch := omega) only [up_f]; exact hT2) hT6 (by simp (disch := omega) only [up_f]; exact hA2) hA10 (by omega) (by omega) gr gq gy (by simp (disch := omega) only [up_f]; exact hk) gk hk0 ?_ (by simp (disch := omega) only [up_f]; omega), ?_, fun _ => ?_, II_told h ?_ ?_ ?_ ?_⟩
                · rw [stopF_x (D := S) k (fun i _ => by simp (disch := omega) only [up_f])]
                  omega
                · simp (disch := omega) only [up_f, up_s]
                · simp (disch := omega) only [up_f, up_s]
                · have hp := p ((Int32.ofInt (k : Int)).toInt64).toInt
                  have e56 : ∀ x, up (up (up (up (up (up (up (up (up S 1406 0 0 (S 1406 0 0 + 1)) 10 t k ((a : Int))) 12 t k (r)) 14 t k (q)) 15 t k (y)) 11 t k (S 11 t (k - 1) + r + y)) 16 t a ((k : Int))) 1700 t 0 ((k : Int) + 1)) 98 0 0 (x) 56 0 (6 * t + k - 1) = S 56 0 (6 * t + k - 1) := fun x => by simp (disch := omega) only [up_f]
                  rw [e56]
                  exact hp
                · intro f i l hf
                  simp (disch := omega) only [up_f]
                · simp (disch := omega) only [up_f, up_s]
                · refine NC_new h.2.1 ?_ ?_ ?_ ?_
                  · simp (disch := omega) only [up_f, up_s]
                  · simp (disch := omega) only [up_f]
                  · simp (disch := omega) only [up_f]
                  · simp (disch := omega) only [up_s]
              · exact CS_thr h (by decide) (w_157_2 (c_66g hT hT6 hA hA10 (by omega) (by omega) gr gq gy gs (by omega))) (m_108g hT2 hT6 hA2 hA10 (by omega) (by omega) gr gq gy (by omega))
            · by_cases gk : k < 6
              · exact CS_thr h (by decide) (w_157_2 (c_66f hT hT6 hA hA10 (by omega) (by omega) gr gq gy gs)) (m_108f (k := k) hT2 hT6 hA2 hA10 (by omega) (by omega) gr gq gy hk gk (by omega))
              · exact CS_thr h (by decide) (w_157_2 (c_66f hT hT6 hA hA10 (by omega) (by omega) gr gq gy gs)) (m_108g hT2 hT6 hA2 hA10 (by omega) (by omega) gr gq gy (by omega))
          · exact CS_thr h (by decide) (w_157_1 (c_66e hT hT6 hA hA10 gt ga gr gq gy)) (m_108e hT2 hT6 hA2 hA10 gt ga gr gq gy)
        · exact CS_thr h (by decide) (w_157_1 (c_66d hT hT6 hA hA10 gt ga gr gq)) (m_108d hT2 hT6 hA2 hA10 gt ga gr gq)
      · exact CS_thr h (by decide) (w_157_1 (c_66c hT hT6 hA hA10 gt ga gr)) (m_108c hT2 hT6 hA2 hA10 gt ga gr)
    · exact CS_thr h (by decide) (w_157_0 (c_66b hT hT6 hA hA10 gt ga)) (m_108b hT2 hT6 hA2 hA10 gt ga)
  · exact CS_thr h (by decide) (w_157_0 (c_66a hT hT6 hA hA10 gt)) (m_108a hT2 hT6 hA2 hA10 gt)
theorem call_3 {A T C P : Nat} {t v : Int} (h : II S A T C P j e) (hj : j < 10000) : CS xs L 158 109 [vR 0, vI t, vI v, vR 341] [vR 296, vI t, vI v] S e j := by
  have h1 := h.1.1
  unfold PS1 at h1
  obtain ⟨hA, hA2, hA10, hT, hT2, hT6, hC, hC2, hC10⟩ := h1
  have hv : 0 ≤ S 1406 0 0 ∧ S 1406 0 0 < 100000 := ⟨h.2.1.2.2.1, by have := h.2.2.2.2.2.1; omega⟩
  by_cases gt : 0 ≤ t ∧ t < T
  · by_cases gv : 0 ≤ v ∧ v ≤ 180
    · obtain ⟨t, rfl⟩ : ∃ z : Nat, t = z := ⟨t.toNat, by omega⟩
      have h3 := h.1.2.2.1 t (by omega)
      have p := fun x => p_patience (x := x) h.1 (t := t) (v := v) (by omega) gv
      refine ⟨0, _, _, e, _, A, T, C, P, w_158 (c_67 hT hT6 (by omega) gv hv), m_109 (T := T) (by simp (disch := omega) only [up_f]; exact hT2) hT6 (by omega) gv, ?_, fun _ => ?_, II_told h (p _) ?_ ?_ ?_⟩
      · simp (disch := omega) only [up_f, up_s]
      · simp (disch := omega) only [up_f, up_s]
        rw [h3.2.2.1]
      · intro f i l hf
        simp (disch := omega) only [up_f]
      · simp (disch := omega) only [up_f, up_s]
      · refine NC_new h.2.1 ?_ ?_ ?_ ?_
        · simp (disch := omega) only [up_f, up_s]
        · simp (disch := omega) only [up_f]
        · simp (disch := omega) only [up_f]
        · simp (disch := omega) only [up_s]
    · exact CS_thr h (by decide) (w_158_1 (c_67b hT hT6 gt gv)) (m_109b hT2 hT6 gt gv)
  · exact CS_thr h (by decide) (w_158_0 (c_67a hT hT6 gt)) (m_109a hT2 hT6 gt)
theorem call_4 {A T C P : Nat} {t k v : Int} (h : II S A T C P j e) (hj : j < 10000) : CS xs L 159 110 [vR 0, vI t, vI k, vI v, vR 341] [vR 296, vI t, vI k, vI v] S e j := by
  have h1 := h.1.1
  unfold PS1 at h1
  obtain ⟨hA, hA2, hA10, hT, hT2, hT6, hC, hC2, hC10⟩ := h1
  have hv : 0 ≤ S 1406 0 0 ∧ S 1406 0 0 < 100000 := ⟨h.2.1.2.2.1, by have := h.2.2.2.2.2.1; omega⟩
  have hs : ∀ i, i < 6 → 0 ≤ S 54 0 i ∧ S 54 0 i ≤ 6 := fun i hi => by
    have := h.1.2.2.1 i hi
    omega
  by_cases gt : 0 ≤ t ∧ t < T
  · have h3 := h.1.2.2.1 t.toNat (by omega)
    by_cases gk : 0 ≤ k ∧ k < S 54 0 t.toNat
    · by_cases gk0 : k = 0
      · subst gk0
        exact CS_thr h (by decide) (w_159_0 (c_68c hT hT6 gt (by omega))) (m_110c hT2 hT6 hs gt (by omega))
      · obtain ⟨t, rfl⟩ : ∃ z : Nat, t = z := ⟨t.toNat, by omega⟩
        obtain ⟨k, rfl⟩ : ∃ z : Nat, k = z := ⟨k.toNat, by omega⟩
        rw [Int.toNat_natCast] at gk h3
        by_cases gv : 0 ≤ v ∧ v ≤ 300
        · have h4 := h.1.2.2.2.1 t k (by omega) (by omega)
          have p := fun x => p_late (x := x) h.1 (t := t) (k := k) (v := v) (by omega) (by omega) gv
          refine ⟨0, _, _, e, _, A, T, C, P, w_159 (c_68 (k := k) hT hT6 (by omega) (by omega) (by omega) (by omega) gv hv), m_110 (T := T) (by simp (disch := omega) only [up_f]; exact hT2) hT6 (fun i hi => by simp (disch := omega) only [up_f]; exact hs i hi) (by omega) (by simp (disch := omega) only [up_f]; omega) (by omega) (by omega) gv, ?_, fun _ => ?_, II_told h (p _) ?_ ?_ ?_⟩
          · simp (disch := omega) only [up_f, up_s]
          · simp (disch := omega) only [up_f, up_s]
            rw [h4.2.2.2.1]
          · intro f i l hf
            simp (disch := omega) only [up_f]
          · simp (disch := omega) only [up_f, up_s]
          · refine NC_new h.2.1 ?_ ?_ ?_ ?_
            · simp (disch := omega) only [up_f, up_s]
            · simp (disch := omega) only [up_f]
            · simp (disch := omega) only [up_f]
            · simp (disch := omega) only [up_s]
        · exact CS_thr h (by decide) (w_159_1 (c_68d hT hT6 (by omega) (by omega) (by omega) gv)) (m_110d hT2 hT6 hs (by omega) (by omega) (by omega) gv)
    · exact CS_thr h (by decide) (w_159_0 (c_68b hT hT6 gt (by omega))) (m_110a hT2 hT6 hs (by omega))
  · exact CS_thr h (by decide) (w_159_0 (c_68a hT hT6 gt)) (m_110a hT2 hT6 hs (by omega))
theorem call_5 {A T C P : Nat} {a l kd w b ls sl : Int} (h : II S A T C P j e) (hj : j < 10000) (hsl : sl = 0 ∨ sl = 1) : CS xs L 160 111 [vR 0, vI a, vI l, vI kd, vI w, vI b, vI ls, vI sl, vR 341] [vR 296, vI a, vI l, vI kd, vI w, vI b, vI ls, vI sl] S e j := by
  have h1 := h.1.1
  unfold PS1 at h1
  obtain ⟨hA, hA2, hA10, hT, hT2, hT6, hC, hC2, hC10⟩ := h1
  have hv : 0 ≤ S 1406 0 0 ∧ S 1406 0 0 < 100000 := ⟨h.2.1.2.2.1, by have := h.2.2.2.2.2.1; omega⟩
  by_cases ga : 0 ≤ a ∧ a < A
  · by_cases gl : 0 ≤ l ∧ l ≤ 5
    · by_cases gkd : 0 ≤ kd ∧ kd ≤ 2
      · by_cases gw : 20 ≤ w ∧ w ≤ 60
        · by_cases gb : 0 ≤ b ∧ b ≤ 80
          · by_cases gls : 0 ≤ ls ∧ ls ≤ 63
            · by_cases gC : C < 10
              · obtain ⟨a, rfl⟩ : ∃ z : Nat, a = z := ⟨a.toNat, by omega⟩
                have h6 := (h.1.2.2.2.2.2.1 C gC).1
                have p := fun x => p_coach (x := x) h.1 gC (a := a) (l := l) (kd := kd) (w := w) (b := b) (ls := ls) (sl := sl) (by omega) gl gkd gw gb gls hsl
                refine ⟨0, _, _, e, _, A, T, C + 1, P, w_160 (c_69 hC gC hA hA10 (by omega) gl gkd gw gb gls hsl h6 hv), m_111 (n := C) (A := A) (by simp (disch := omega) only [up_f]; exact hC2) gC (by simp (disch := omega) only [up_f]; exact hA2) hA10 (by omega) gl gkd gw gb gls hsl, ?_, fun _ => ?_, II_told h (p _) ?_ ?_ ?_⟩
                · simp (disch := omega) only [up_f, up_s]
                · simp (disch := omega) only [up_f, up_s]
                · intro f i l hf
                  simp (disch := omega) only [up_f]
                · simp (disch := omega) only [up_f, up_s]
                · refine NC_new h.2.1 ?_ ?_ ?_ ?_
                  · simp (disch := omega) only [up_f, up_s]
                  · simp (disch := omega) only [up_f]
                  · simp (disch := omega) only [up_f]
                  · simp (disch := omega) only [up_s]
              · exact CS_thr h (by decide) (w_160_2 (c_69g hA hA10 ga gl gkd gw gb gls (by omega))) (m_111g hA2 hA10 ga gl gkd gw gb gls (by omega))
            · exact CS_thr h (by decide) (w_160_1 (c_69f hA hA10 ga gl gkd gw gb gls)) (m_111f hA2 hA10 ga gl gkd gw gb gls)
          · exact CS_thr h (by decide) (w_160_1 (c_69e hA hA10 ga gl gkd gw gb)) (m_111e hA2 hA10 ga gl gkd gw gb)
        · exact CS_thr h (by decide) (w_160_1 (c_69d hA hA10 ga gl gkd gw)) (m_111d hA2 hA10 ga gl gkd gw)
      · exact CS_thr h (by decide) (w_160_1 (c_69c hA hA10 ga gl gkd)) (m_111c hA2 hA10 ga gl gkd)
    · exact CS_thr h (by decide) (w_160_1 (c_69b hA hA10 ga gl)) (m_111b hA2 hA10 ga gl)
  · exact CS_thr h (by decide) (w_160_0 (c_69a hA hA10 ga)) (m_111a hA2 hA10 ga)
theorem call_6 {A T C P : Nat} {c t a : Int} (h : II S A T C P j e) (hj : j < 10000) : CS xs L 161 113 [vR 0, vI c, vI t, vI a, vR 341] [vR 296, vI c, vI t, vI a] S e j := by
  have h1 := h.1.1
  unfold PS1 at h1
  obtain ⟨hA, hA2, hA10, hT, hT2, hT6, hC, hC2, hC10⟩ := h1
  have hv : 0 ≤ S 1406 0 0 ∧ S 1406 0 0 < 100000 := ⟨h.2.1.2.2.1, by have := h.2.2.2.2.2.1; omega⟩
  by_cases gc : 0 ≤ c ∧ c < C
  · by_cases gt : 0 ≤ t ∧ t < T
    · by_cases ga : 0 ≤ a ∧ a < A
      · obtain ⟨c, rfl⟩ : ∃ z : Nat, c = z := ⟨c.toNat, by omega⟩
        obtain ⟨t, rfl⟩ : ∃ z : Nat, t = z := ⟨t.toNat, by omega⟩
        obtain ⟨a, rfl⟩ : ∃ z : Nat, a = z := ⟨a.toNat, by omega⟩
        have h6 := h.1.2.2.2.2.2.1 c (by omega)
        have h3 := h.1.2.2.1 t (by omega)
        obtain ⟨p, hp⟩ : ∃ p : Nat, S 69 0 c = p := ⟨(S 69 0 c).toNat, by omega⟩
        obtain ⟨k, hk⟩ : ∃ k : Nat, S 54 0 t = k := ⟨(S 54 0 t).toNat, by omega⟩
        by_cases gp : p < 3
        · by_cases go : S 68 0 c = 0
          · have hb : 0 ≤ begP S c p ∧ begP S c p < 10 := by
              unfold begP
              by_cases hp0 : p = 0
              · rw [if_pos hp0]
                omega
              · rw [if_neg hp0]
                have h7 := h.1.2.2.2.2.2.2.1 c (p - 1) (by omega) (by omega)
                rw [show 3 * c + (p - 1) = 3 * c + p - 1 by omega] at h7
                omega
            obtain ⟨f, hf⟩ : ∃ f : Nat, begP S c p = f := ⟨(begP S c p).toNat, by omega⟩
            have hf2 : (if 0 < S 1109 c 0 then S 22 c (S 1109 c 0 - 1).toNat else S 1101 c 0) = f := by
              rw [← hf]
              unfold begP
              by_cases hp0 : p = 0
              · rw [if_pos hp0, if_neg (by omega)]
                omega
              · rw [if_neg hp0, if_pos (by omega)]
                have h7 := h.1.2.2.2.2.2.2.1 c (p - 1) (by omega) (by omega)
                rw [show 3 * c + (p - 1) = 3 * c + p - 1 by omega] at h7
                rw [show (S 1109 c 0 - 1).toNat = p - 1 by omega]
                exact h7.2.1
            have h5f := h.1.2.2.2.2.1 t f (by omega) (by omega)
            have h5a := h.1.2.2.2.2.1 t a (by omega) (by omega)
            rw [hk, Int.toNat_natCast] at h5f h5a
            by_cases gl : ¬ S 16 t f = -1 ∧ S 16 t f < S 16 t a
            · have pp := fun x => p_part (x := x) h.1 (c := c) (t := t) (a := a) (p := p) (by omega) (by omega) (by omega) gp hp
              rw [hf] at pp
              refine ⟨0, _, _, e, _, A, T, C, P, w_161 (c_70 (p := p) (f := f) hC hC10 hT hT6 hA hA10 (by omega) (by omega) (by omega) (by omega) gp (by omega) hf2 (by omega) gl hv), m_113 (p := p) (k := k) (A := A) (T := T) (C := C) (by simp (disch := omega) only [up_f]; exact hC2) hC10 (by simp (disch := omega) only [up_f]; exact hT2) hT6 (by simp (disch := omega) only [up_f]; exact hA2) hA10 (by omega) (by omega) (by omega) (by simp (disch := omega) only [up_f]; exact hp) gp (by simp (disch := omega) only [up_f]; exact go) (by simp (disch := omega) only [up_f]; exact hk) (by omega) ?_, ?_, fun _ => ?_, II_told h (pp _) ?_ ?_ ?_⟩
              · have hbg : ∀ S2 : Sg, S2 61 0 c = S 61 0 c → S2 71 0 (3 * c + p - 1) = S 71 0 (3 * c + p - 1) → begP S2 c p = f := fun S2 z1 z2 => by
                  rw [← hf]
                  unfold begP
                  rw [z1, z2]
                rw [hbg _ (by simp (disch := omega) only [up_f]) (by simp (disch := omega) only [up_f]), stopF_x (D := S) (a := (f : Int)) k (fun i _ => by simp (disch := omega) only [up_f]), stopF_x (D := S) (a := (a : Int)) k (fun i _ => by simp (disch := omega) only [up_f])]
                omega
              · simp (disch := omega) only [up_f, up_s]
              · simp (disch := omega) only [up_f, up_s]
              · intro f i l hf
                simp (disch := omega) only [up_f]
              · simp (disch := omega) only [up_f, up_s]
              · refine NC_new h.2.1 ?_ ?_ ?_ ?_
                · simp (disch := omega) only [up_f, up_s]
                · simp (disch := omega) only [up_f]
                · simp (disch := omega) only [up_f]
                · simp (disch := omega) only [up_s]
            · exact CS_thr h (by decide) (w_161_2 (c_70f (p := p) (f := f) hC hC10 hT hT6 hA hA10 (by omega) (by omega) (by omega) (by omega) gp (by omega) hf2 (by omega) gl)) (m_113f (p := p) (k := k) hC2 hC10 hT2 hT6 hA2 hA10 (by omega) (by omega) (by omega) hp gp go hk (by omega) (by rw [hf]; omega))
          · exact CS_thr h (by decide) (w_161_2 (c_70e (p := p) (f := 0) hC hC10 hT hT6 hA hA10 (by omega) (by omega) (by omega) (by omega) gp (by omega))) (m_113e (p := p) (k := k) hC2 hC10 hT2 hT6 hA2 hA10 (by omega) (by omega) (by omega) hp gp go)
        · exact CS_thr h (by decide) (w_161_2 (c_70d (p := p) (f := 0) hC hC10 hT hT6 hA hA10 (by omega) (by omega) (by omega) (by omega) (by omega))) (m_113d (p := p) (k := k) hC2 hC10 hT2 hT6 hA2 hA10 (by omega) (by omega) (by omega) hp (by omega))
      · exact CS_thr h (by decide) (w_161_0 (c_70c hC hC10 hT hT6 hA hA10 gc gt ga)) (m_113c hC2 hC10 hT2 hT6 hA2 hA10 gc gt ga)
    · exact CS_thr h (by decide) (w_161_0 (c_70b hC hC10 hT hT6 hA hA10 gc gt)) (m_113b hC2 hC10 hT2 hT6 hA2 hA10 gc gt)
  · exact CS_thr h (by decide) (w_161_0 (c_70a hC hC10 hT hT6 hA hA10 gc)) (m_113a hC2 hC10 hT2 hT6 hA2 hA10 gc)
end V
