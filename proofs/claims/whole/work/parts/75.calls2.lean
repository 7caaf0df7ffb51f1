/-! ===== calls about persons, side by side ===== -/
section V
variable {xs : Nat → Int32} {L : Nat} {S : Sg} {e j : Nat}
theorem CS_pe {A T C P w mm : Nat} {wa ma : List MV} {x b : Int} (h : II S A T C P j e) (hw : ∀ Q, m_do xs L w wa (mk S e) Q ↔ Q (.inl (some (vI 0))) (mk (up S 98 0 0 x) e)) (hm : ∀ Q, m_do xs L mm ma (mk (up S 98 0 0 x) e) Q ↔ Q (.inl (some (vI b))) (mk (up (up S 98 0 0 x) 2000 0 0 0) e)) (hx : x = ((Int32.ofInt b).toInt64).toInt) : CS xs L w mm wa ma S e j :=
  CS_ask h FN_refl hw (fun f i l _ hg => up_f hg) (NC_up (PS_up h.1 rfl) (NC_up h.1 h.2.1 rfl rfl (by decide)) rfl rfl (by decide)) up_s hm hx
theorem call_23 {A T C P : Nat} {c r b : Int} (h : II S A T C P j e) : CS xs L 175 150 [vR 0, vI c, vI r, vI b, vR 341] [vR 296, vI c, vI r, vI b] S e j := by
  have h1 := h.1.1
  unfold PS1 at h1
  have hC10 := h1.2.2.2.2.2.2.2.2
  have pp := h.2.2.2.2.1
  by_cases g : 0 ≤ c ∧ c < C
  · by_cases gr : 0 ≤ r ∧ r ≤ 5
    · by_cases gb : 0 ≤ b ∧ b ≤ 2
      · obtain ⟨c, rfl⟩ : ∃ t : Nat, c = t := ⟨c.toNat, by omega⟩
        obtain ⟨r, rfl⟩ : ∃ t : Nat, r = t := ⟨r.toNat, by omega⟩
        obtain ⟨b, rfl⟩ : ∃ t : Nat, b = t := ⟨b.toNat, by omega⟩
        have q4 := (pp.2.2.2.1 c r b (by omega) (by omega) (by omega)).1
        have hw := w_175 (c_85 (xs := xs) (L := L) (S := S) (e := e) (c := c) (r := r) (b := b) h1.2.2.2.2.2.2.1 hC10 (by omega) (by omega) (by omega))
        rw [q4] at hw
        refine CS_pe h hw (fun Q => ?_) rfl
        rw [m_150 (c := c) (r := r) (b := b) (C := C) (by rw [up_f (by decide)]; exact h1.2.2.2.2.2.2.2.1) hC10 (by omega) (by omega) (by omega) Q, up_f (by decide)]
      · exact CS_thr h (by decide) (w_175_1 (c_85c h1.2.2.2.2.2.2.1 hC10 g gr gb)) (m_150c h1.2.2.2.2.2.2.2.1 hC10 g gr gb)
    · exact CS_thr h (by decide) (w_175_1 (c_85b h1.2.2.2.2.2.2.1 hC10 g gr)) (m_150b h1.2.2.2.2.2.2.2.1 hC10 g gr)
  · exact CS_thr h (by decide) (w_175_0 (c_85a h1.2.2.2.2.2.2.1 hC10 g)) (m_150a h1.2.2.2.2.2.2.2.1 hC10 g)
/-- holds: the answer is 0 or 1 -/
theorem call_24 {A T C P : Nat} {c w p : Int} (h : II S A T C P j e) (hw01 : w = 0 ∨ w = 1) : ∃ (k b : Int) (S1 : Sg) (e1 : Nat) (S2 : Sg), (∀ Q, m_do xs L 176 [vR 0, vI c, vI w, vI p, vR 341] (mk S e) Q ↔ Q (.inl (some (vI k))) (mk S1 e1)) ∧ (∀ Q, m_do xs L 151 [vR 296, vI c, vI w, vI p] (mk S1 e1) Q ↔ Q (.inl (some (vI b))) (mk S2 e1)) ∧ S2 2000 0 0 = k ∧ (k = 0 → S2 98 0 0 = b) ∧ (b = 0 ∨ b = 1) ∧ II S2 A T C P (j + 1) e1 := by
  have h1 := h.1.1
  unfold PS1 at h1
  have hC10 := h1.2.2.2.2.2.2.2.2
  have pp := h.2.2.2.2.1
  have hthr : ∀ k : Int, II (up S 2000 0 0 k) A T C P (j + 1) (e + 1) := fun k => II_keep h (fun f i l hf => up_f (iiF_no hf).2.2.2) (NC_up h.1 h.2.1 rfl rfl (by decide)) (by have := h.2.2.2.2.2.2; omega)
  have hok : ∀ x : Int, II (up (up S 98 0 0 x) 2000 0 0 0) A T C P (j + 1) e := fun x => II_keep h (fun f i l hf => by
    have := iiF_no hf
    rw [up_f this.2.2.2, up_f this.2.1]) (NC_up (PS_up h.1 rfl) (NC_up h.1 h.2.1 rfl rfl (by decide)) rfl rfl (by decide)) (by have := h.2.2.2.2.2.2; omega)
  by_cases g : 0 ≤ c ∧ c < C
  · by_cases gp : 0 ≤ p ∧ p ≤ 9
    · obtain ⟨c, rfl⟩ : ∃ t : Nat, c = t := ⟨c.toNat, by omega⟩
      have hrf : rfI S c w p = rfM S c w p := rf_eq pp (by omega) hw01 gp.1
      have pp2 : ∀ x : Int, PPx S (up (up S 98 0 0 x) 2000 0 0 0) P := fun x => PP_ext pp (fun _ _ _ _ => rfl) (fun f l hf => by
        have := iiF_no (iiF_pm hf)
        rw [up_f this.2.2.2, up_f this.2.1])
      have hrf2 : ∀ x : Int, rfM (up (up S 98 0 0 x) 2000 0 0 0) c w p = rfM S c w p := fun x => rfM_ext pp (pp2 x) (by omega) hw01 gp.1 (fun r hr => fitN_ext (fun a ha => by rw [up_f (by decide), up_f (by decide)]) (fun F a hF ha hn => by rw [up_f (by omega), up_f (by omega)]))
      have hs40 := bed_40 pp
      have hs78 : ∀ x : Int, ∀ y, y < 180 → -1 ≤ up S 98 0 0 x 78 0 y ∧ up S 98 0 0 x 78 0 y < 40 := fun x y hy => by
        rw [up_f (by decide)]
        exact bed_78 pp y hy
      by_cases hr : rfM S c w p = -1
      · exact ⟨0, 0, up S 98 0 0 0, e, up (up S 98 0 0 0) 2000 0 0 0, w_176n (c_86 h1.2.2.2.2.2.2.1 hC10 (by omega) hw01 gp hs40 (by rw [hrf]; exact hr)), m_151 (C := C) (by rw [up_f (by decide)]; exact h1.2.2.2.2.2.2.2.1) hC10 (by omega) hw01 gp (hs78 0) (by rw [hrf2]; exact hr), up_s, fun _ => by rw [up_f (by decide), up_s], Or.inl rfl, hok 0⟩
      · exact ⟨0, 1, up S 98 0 0 1, e, up (up S 98 0 0 1) 2000 0 0 0, w_176y (c_86y h1.2.2.2.2.2.2.1 hC10 (by omega) hw01 gp hs40 (by rw [hrf]; exact hr)), m_151y (C := C) (by rw [up_f (by decide)]; exact h1.2.2.2.2.2.2.2.1) hC10 (by omega) hw01 gp (hs78 1) (by rw [hrf2]; exact hr), up_s, fun _ => by rw [up_f (by decide), up_s], Or.inr rfl, hok 1⟩
    · exact ⟨2, 0, S, e + 1, up S 2000 0 0 2, w_176_1 (c_86b h1.2.2.2.2.2.2.1 hC10 g gp), m_151b h1.2.2.2.2.2.2.2.1 hC10 g gp, up_s, fun z => absurd z (by decide), Or.inl rfl, hthr 2⟩
  · exact ⟨1, 0, S, e + 1, up S 2000 0 0 1, w_176_0 (c_86a h1.2.2.2.2.2.2.1 hC10 g), m_151a h1.2.2.2.2.2.2.2.1 hC10 g, up_s, fun z => absurd z (by decide), Or.inl rfl, hthr 1⟩
/-- paid: no wrapper -/
theorem call_25 {A T C P : Nat} (h : II S A T C P j e) : ∃ (b : Int) (S1 S2 : Sg), (∀ Q, m_do xs L 87 [vR 0] (mk S e) Q ↔ Q (.inl (some (vI b))) (mk S1 e)) ∧ (∀ Q, m_do xs L 152 [vR 296] (mk S1 e) Q ↔ Q (.inl (some (vI b))) (mk S2 e)) ∧ II S2 A T C P (j + 1) e := by
  have pp := h.2.2.2.2.1
  refine ⟨psum S P, S, up S 2000 0 0 0, fun Q => ?_, fun Q => m_152 h.2.2.2.1 pp.1 (psum_ran pp.2.1) (fun i hi => by
    have := pp.2.1 i hi
    omega) Q, II_keep h (fun f i l hf => up_f (iiF_no hf).2.2.2) (NC_up h.1 h.2.1 rfl rfl (by decide)) (by have := h.2.2.2.2.2.2; omega)⟩
  rw [c_87, pp.2.2.2.2.1]
theorem call_22 {A T C P : Nat} {i w : Int} (h : II S A T C P j e) : CS xs L 174 149 [vR 0, vI i, vI w, vR 341] [vR 296, vI i, vI w] S e j := by
  have pp := h.2.2.2.2.1
  have hP40 := pp.1
  have hP := h.2.2.1
  have hP2 := h.2.2.2.1
  by_cases g : 0 ≤ i ∧ i < P
  · by_cases gw : 0 ≤ w ∧ w ≤ 3
    · obtain ⟨i, rfl⟩ : ∃ t : Nat, i = t := ⟨i.toNat, by omega⟩
      have hi : i < P := by omega
      have hPx : ∀ x : Int, up S 98 0 0 x 2026 0 0 = P := fun x => by rw [up_f (by decide)]; exact hP2
      have q2 := (pp.2.1 i (by omega)).2.2.2.2.1
      have hw4 : w = 0 ∨ w = 1 ∨ w = 2 ∨ w = 3 := by omega
      rcases pp.2.2.1 i hi with hn | ⟨h0, c, r, b, hc, hr, hb, a1, a2, a3, a4, a5, a6⟩
      · obtain ⟨n1, n2, n3, n4⟩ := hn
        have n1x : ∀ x : Int, up S 98 0 0 x 76 0 i = -1 := fun x => by rw [up_f (by decide)]; exact n1
        rcases hw4 with rfl | rfl | rfl | rfl
        · have hw := w_174 (c_84_0 (xs := xs) (L := L) (e := e) hP hP40 hi)
          rw [n2] at hw
          exact CS_pe h hw (m_149n_0 (hPx _) hP40 hi (n1x _)) rfl
        · have hw := w_174 (c_84_1 (xs := xs) (L := L) (e := e) hP hP40 hi)
          rw [n3] at hw
          exact CS_pe h hw (m_149n_1 (hPx _) hP40 hi (n1x _)) rfl
        · have hw := w_174 (c_84_2 (xs := xs) (L := L) (e := e) hP hP40 hi)
          rw [n4] at hw
          exact CS_pe h hw (m_149n_2 (hPx _) hP40 hi (n1x _)) rfl
        · have hw := w_174 (c_84_3 (xs := xs) (L := L) (e := e) hP hP40 hi)
          rw [q2] at hw
          refine CS_pe h hw (fun Q => ?_) rfl
          rw [m_149n_3 (hPx _) hP40 hi (n1x _) Q, up_f (by decide)]
      · have b1 : ∀ x : Int, up S 98 0 0 x 76 0 i = c := fun x => by rw [up_f (by decide)]; exact a1
        have b2 : ∀ x : Int, up S 98 0 0 x 77 0 i = 10 * r + b := fun x => by rw [up_f (by decide)]; exact a2
        rcases hw4 with rfl | rfl | rfl | rfl
        · have hw := w_174 (c_84_0 (xs := xs) (L := L) (e := e) hP hP40 hi)
          rw [a3] at hw
          exact CS_pe h hw (m_149s_0 (hPx _) hP40 hi hc hr hb (b1 _) (b2 _)) rfl
        · have hw := w_174 (c_84_1 (xs := xs) (L := L) (e := e) hP hP40 hi)
          rw [a4] at hw
          exact CS_pe h hw (m_149s_1 (hPx _) hP40 hi hc hr hb (b1 _) (b2 _)) rfl
        · have hw := w_174 (c_84_2 (xs := xs) (L := L) (e := e) hP hP40 hi)
          rw [a5] at hw
          exact CS_pe h hw (m_149s_2 (hPx _) hP40 hi hc hr hb (b1 _) (b2 _)) rfl
        · have hw := w_174 (c_84_3 (xs := xs) (L := L) (e := e) hP hP40 hi)
          rw [q2] at hw
          refine CS_pe h hw (fun Q => ?_) rfl
          rw [m_149s_3 (hPx _) hP40 hi hc hr hb (b1 _) (b2 _) Q, up_f (by decide)]
    · exact CS_thr h (by decide) (w_174_1 (c_84b hP hP40 g gw)) (m_149b hP2 hP40 g gw)
  · exact CS_thr h (by decide) (w_174_0 (c_84a hP hP40 g)) (m_149a hP2 hP40 g)
/-- what changes persons only -/
theorem II_pe {S2 : Sg} {A T C P P2 e2 : Nat} (h : II S A T C P j e) (k : ∀ f i l, ¬ (f = 40 ∨ f = 1001 ∨ f = 1003 ∨ 1300 ≤ f ∧ f ≤ 1307 ∨ 72 ≤ f ∧ f ≤ 78 ∨ f = 98 ∨ f = 99 ∨ f = 2000 ∨ f = 2026) → S2 f i l = S f i l) (h1 : S2 1001 0 0 = P2) (h2 : S2 2026 0 0 = P2) (pp : PPx S2 S2 P2) (he : e2 ≤ j + 1) : II S2 A T C P2 (j + 1) e2 := by
  refine ⟨PS_ext h.1 (fun f i l hf => k f i l ?_), NC_ext h.1 h.2.1 (fun f i l hf => k f i l ?_), h1, h2, pp, ?_, he⟩
  · have := psF_yes hf
    omega
  · rcases hf with hf | hf | hf
    · unfold niF at hf
      simp only [Bool.or_eq_true, Bool.and_eq_true, Nat.ble_eq, Nat.beq_eq] at hf
      omega
    · have := psF_yes hf
      omega
    · omega
  · rw [k 1406 0 0 (by omega)]
    have := h.2.2.2.2.2.1
    omega
theorem call_9 {A T C P : Nat} {i : Int} (h : II S A T C P j e) : CS xs L 164 135 [vR 0, vI i, vR 341] [vR 296, vI i] S e j := by
  have pp := h.2.2.2.2.1
  have hP40 := pp.1
  have hP := h.2.2.1
  have hP2 := h.2.2.2.1
  by_cases g : 0 ≤ i ∧ i < P
  · obtain ⟨i, rfl⟩ : ∃ t : Nat, i = t := ⟨i.toNat, by omega⟩
    have hi : i < P := by omega
    rcases pp.2.2.1 i hi with hn | ⟨h0, c, r, b, ha⟩
    · obtain ⟨n1, n2, n3, n4⟩ := hn
      exact CS_thr h (by decide) (w_164_2 (c_73b hP hP40 hi n2)) (m_135b hP2 hP40 hi n1)
    · have pf := PP_free pp hi ha
      obtain ⟨hc, hr, hb, a1, a2, a3, a4, a5, a6⟩ := ha
      refine ⟨0, _, _, e, _, A, T, C, P, w_164 (c_73 hP hP40 hi hc hr hb a3 a4 a5), m_135 (i := i) (c := c) (r := r) (b := b) (P := P) ?_ hP40 hi hc hr hb ?_ ?_, ?_, ?_, II_pe h ?_ ?_ ?_ ?_ (by have := h.2.2.2.2.2.2; omega)⟩
      · simp (disch := omega) only [up_f]; exact hP2
      · simp (disch := omega) only [up_f]; exact a1
      · simp (disch := omega) only [up_f]; exact a2
      · simp (disch := omega) only [up_f, up_s]
      · intro _
        simp (disch := omega) only [up_f, up_s]
      · intro f i l hf
        simp (disch := omega) only [up_f]
      · simp (disch := omega) only [up_f]; exact hP
      · simp (disch := omega) only [up_f]; exact hP2
      · refine PP_ext pf (fun f i2 l hf => ?_) (fun f l hf => ?_)
        · unfold peF at hf
          simp only [Bool.or_eq_true, Bool.and_eq_true, Nat.ble_eq, Nat.beq_eq] at hf
          simp (disch := omega) only [up_f]
        · unfold pmF at hf
          simp only [Bool.and_eq_true, Nat.ble_eq] at hf
          have hx : ∀ (B1 B2 : Sg) (F1 K1 F2 K2 : Nat) (v1 v2 : Int), B1 f 0 l = B2 f 0 l → up (up B1 F1 0 K1 v1) F2 0 K2 v2 f 0 l = up (up B2 F1 0 K1 v1) F2 0 K2 v2 f 0 l := fun B1 B2 F1 K1 F2 K2 v1 v2 hz => by
            unfold up
            simp only [hz]
          refine hx _ _ _ _ _ _ _ _ ?_
          simp (disch := omega) only [up_f]
  · exact CS_thr h (by decide) (w_164_0 (c_73a hP hP40 g)) (m_135a hP2 hP40 g)
end V
