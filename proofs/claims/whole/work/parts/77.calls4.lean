/-! ===== book, side by side ===== -/
theorem rfM_c {B B2 : Sg} {c : Nat} {w p : Int} (k : ∀ f l, (f = 72 ∨ f = 74 ∨ f = 78) → B2 f 0 l = B f 0 l) : rfM B2 c w p = rfM B c w p := by
  unfold rfM
  refine rf_c (fun r _ => ?_)
  unfold fitM mhP
  simp only [k 72 _ (by omega), k 74 _ (by omega), k 78 _ (by omega)]
section V
variable {xs : Nat → Int32} {L : Nat} {S : Sg} {e j : Nat}
theorem call_8 {A T C P : Nat} {c w g p : Int} (h : II S A T C P j e) (hw01 : w = 0 ∨ w = 1) : CS xs L 163 134 [vR 0, vI c, vI w, vI g, vI p, vR 341] [vR 296, vI c, vI w, vI g, vI p] S e j := by
  have h1 := h.1.1
  unfold PS1 at h1
  have hC := h1.2.2.2.2.2.2.1
  have hC2 := h1.2.2.2.2.2.2.2.1
  have hC10 := h1.2.2.2.2.2.2.2.2
  have pp := h.2.2.2.2.1
  have hP40 := pp.1
  have hP := h.2.2.1
  have hP2 := h.2.2.2.1
  have hs40 := bed_40 pp
  have hs78 := bed_78 pp
  by_cases gc : 0 ≤ c ∧ c < C
  · by_cases gg : 0 ≤ g ∧ g ≤ 99
    · by_cases gp : 0 ≤ p ∧ p ≤ 9
      · obtain ⟨c, rfl⟩ : ∃ t : Nat, c = t := ⟨c.toNat, by omega⟩
        have hc : c < C := by omega
        have h6c := h.1.2.2.2.2.2.1 c (by omega)
        by_cases ho : S 68 0 c = 0
        · have ho2 : S 1108 c 0 = 0 := by omega
          by_cases hPP : P < 40
          · have hrf : rfI S c w p = rfM S c w p := rf_eq pp (by omega) hw01 gp.1
            rcases rfM_val pp (c := c) (by omega) hw01 gp.1 with hr | ⟨r, hr6, hr, hfit⟩
            · exact CS_thr h (by decide) (w_163_2 (c_72f hC hC10 hc gg gp hw01 ho2 (by omega) hs40 (by rw [hrf]; exact hr))) (m_134f hC2 hC10 hc gg gp hw01 ho (by omega) hs78 hr)
            · obtain ⟨b, hb, hbed, hfree⟩ := bedB_val (B := S) (age := g) (x := 18 * c + 3 * r) hfit.1
              have ppn := PP_new pp hPP hw01 gg gp
              have hq2 := pp.2.1 P hPP
              have hbedI : bedI (up (up (up (up S 1001 0 0 ((P : Int) + 1)) 1301 P 0 w) 1302 P 0 g) 1303 P 0 p) P c r = b := by
                have ppn2 := PP_ext (S2 := up (up (up (up S 1001 0 0 ((P : Int) + 1)) 1301 P 0 w) 1302 P 0 g) 1303 P 0 p) ppn (fun f i l hf => up_cong (up_cong (up_cong (by have := peF_yes hf; rw [up_f (by omega)])))) (fun _ _ _ => rfl)
                rw [bed_eq ppn2 (by omega) (by omega) hr6, ← hbed]
                unfold bedB
                simp (disch := omega) only [up_f, up_s]
              have i1 := c_72 (xs := xs) (L := L) (e := e) hC hC10 hc hw01 gg gp ho2 hP hPP hs40 (hrf.trans hr) hr6 hb hbedI (hq2.1)
              have hw := w_163 i1
              have e7 : ∀ x f l, (72 ≤ f ∧ f ≤ 78 ∨ f = 68 ∨ 2001 ≤ f) → up (up (up (up (up (up (up (up (up S 1001 0 0 ((P : Int) + 1)) 1301 P 0 w) 1302 P 0 g) 1303 P 0 p) 1304 P 0 c) 1305 P 0 r) 1306 P 0 b) 40 0 (18 * c + 3 * r + b) P) 98 0 0 x f 0 l = S f 0 l := fun x f l hf => by simp (disch := omega) only [up_f]
              have hrf1 : ∀ x, rfM (up (up (up (up (up (up (up (up (up S 1001 0 0 ((P : Int) + 1)) 1301 P 0 w) 1302 P 0 g) 1303 P 0 p) 1304 P 0 c) 1305 P 0 r) 1306 P 0 b) 40 0 (18 * c + 3 * r + b) P) 98 0 0 x) c w p = r := fun x => by
                rw [rfM_c (B := S) (fun f l hf => e7 x f l (by omega))]
                exact hr
              have hrf2 : ∀ x, rfM (up (up (up (up (up (up (up (up (up (up (up (up (up S 1001 0 0 ((P : Int) + 1)) 1301 P 0 w) 1302 P 0 g) 1303 P 0 p) 1304 P 0 c) 1305 P 0 r) 1306 P 0 b) 40 0 (18 * c + 3 * r + b) P) 98 0 0 x) 2000 0 0 0) 72 0 P w) 73 0 P g) 74 0 P p) c w p = r := fun x => by
                rw [rfM_c (B := up (up (up (up S 72 0 P w) 73 0 P g) 74 0 P p) 76 0 P (-1)) (fun f l hf => by
                  rw [up_f (F := 76) (by omega)]
                  refine up_cong (up_cong (up_cong ?_))
                  rw [up_f (by omega)]
                  exact e7 x f l (by omega))]
                rw [rfM_ext pp ppn (by omega) hw01 gp.1 (fun r2 hr2 => fitN_ext (fun a ha => by simp (disch := omega) only [up_f]) (fun F a hF ha hn => ?_))]
                · exact hr
                · have hlt : (S 78 0 (18 * c + 3 * r2 + a)).toNat < P := by
                    rcases (pp.2.2.2.1 c r2 a (by omega) hr2 ha).2 with z | ⟨q, hq, z, _⟩
                    · exact absurd z hn
                    · omega
                  rcases hF with rfl | rfl
                  · simp (disch := omega) only [up_f, up_k]
                  · simp (disch := omega) only [up_f, up_k]
              have i2 := m_134 (xs := xs) (L := L) (e := e) (S := up (up (up (up (up (up (up (up (up S 1001 0 0 ((P : Int) + 1)) 1301 P 0 w) 1302 P 0 g) 1303 P 0 p) 1304 P 0 c) 1305 P 0 r) 1306 P 0 b) 40 0 (18 * c + 3 * r + b) P) 98 0 0 ((Int32.ofInt (P : Int)).toInt64).toInt) (c := c) (r := r) (b := b) (C := C) (P := P) (w := w) (g := g) (p := p) (by rw [e7 _ _ _ (by omega)]; exact hC2) hC10 hc hw01 gg gp (by rw [e7 _ _ _ (by omega)]; exact ho) (by rw [e7 _ _ _ (by omega)]; exact hP2) hPP (fun x hx => by rw [e7 _ _ _ (by omega)]; exact hs78 x hx) (hrf1 _) (hrf2 _) hr6 hb (by
                rw [← hbed]
                unfold bedB
                simp (disch := omega) only [up_f])
              have ppl := PP_place ppn (i := P) (c := c) (r := r) (b := b) (by omega) (by
                unfold nwh
                simp (disch := omega) only [up_f, up_s, true_and]
                omega) (by simp (disch := omega) only [up_f]; omega) (by omega) hr6 hb (by simp (disch := omega) only [up_f]; exact hfree) (by
                have hlt : ∀ a, a < 3 → ¬ S 78 0 (18 * c + 3 * r + a) = -1 → (S 78 0 (18 * c + 3 * r + a)).toNat < P := fun a ha hn => by
                  rcases (pp.2.2.2.1 c r a (by omega) hr6 ha).2 with z | ⟨q, hq, z, _⟩
                  · exact absurd z hn
                  · omega
                rcases hfit.2 with hz | hz
                · left
                  intro a ha hn
                  simp (disch := omega) only [up_f] at hn
                  have := hlt a ha hn
                  simp (disch := omega) only [up_f, up_s, up_k]
                  exact hz a ha hn
                · right
                  intro a ha hn
                  simp (disch := omega) only [up_f] at hn
                  have := hlt a ha hn
                  simp (disch := omega) only [up_f, up_s, up_k]
                  exact hz a ha hn)
              refine ⟨0, _, _, e, _, A, T, C, P + 1, hw, i2, ?_, fun _ => ?_, II_pe h ?_ ?_ ?_ ?_ (by have := h.2.2.2.2.2.2; omega)⟩
              · simp (disch := omega) only [up_f, up_s]
              · simp (disch := omega) only [up_f, up_s]
              · intro f i l hf
                simp (disch := omega) only [up_f]
              · simp (disch := omega) only [up_f, up_s]
                omega
              · simp (disch := omega) only [up_f, up_s]
                omega
              · refine PP_ext ppl (fun f i l hf => ?_) (fun f l hf => ?_)
                · have := peF_yes hf
                  rw [up_f (by omega), up_f (by omega), up_f (by omega), up_f (by omega), up_f (by omega), up_f (by omega), up_f (by omega), up_f (by omega), up_f (by omega)]
                  refine up_cong (up_cong (up_cong (up_cong (up_cong (up_cong (up_cong ?_))))))
                  rw [up_f (by omega)]
                · have := pmF_yes hf
                  rw [up_f (by omega)]
                  refine up_cong ?_
                  have h76 : ∀ (X Y : Sg) (K : Nat) (v : Int), X 76 0 l = Y 76 0 l → up X 76 0 P c 76 0 l = up (up (up Y 76 0 P (-1)) 78 0 K v) 76 0 P c 76 0 l := fun X Y K v hz => by
                    by_cases hl : l = P
                    · subst hl
                      rw [up_s, up_s]
                    · rw [up_k hl, up_k hl, up_f (by decide), up_k hl]
                      exact hz
                  by_cases hf76 : f = 76
                  · subst hf76
                    refine h76 _ _ _ _ ?_
                    simp (disch := omega) only [up_f]
                  · refine up_cong (up_cong ?_)
                    rw [up_f (F := 76) (by omega)]
                    refine up_cong (up_cong (up_cong ?_))
                    rw [up_f (by omega)]
                    exact e7 _ f l (by omega)
          · exact CS_thr h (by decide) (w_163_2 (c_72e hC hC10 hc gg gp ho2 (by omega))) (m_134e hC2 hC10 hc gg gp ho (by omega))
        · exact CS_thr h (by decide) (w_163_2 (c_72d hC hC10 hc gg gp (by omega))) (m_134d hC2 hC10 hc gg gp ho)
      · exact CS_thr h (by decide) (w_163_1 (c_72c hC hC10 gc gg gp)) (m_134c hC2 hC10 gc gg gp)
    · exact CS_thr h (by decide) (w_163_1 (c_72b hC hC10 gc gg)) (m_134b hC2 hC10 gc gg)
  · exact CS_thr h (by decide) (w_163_0 (c_72a hC hC10 gc)) (m_134a hC2 hC10 gc)
end V
