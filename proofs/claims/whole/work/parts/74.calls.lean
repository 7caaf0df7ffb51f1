/-! ===== what holds between two calls ===== -/
def II (S : Sg) (A T C P j e : Nat) : Prop := PS S A T C ∧ NC S T C ∧ S 1001 0 0 = P ∧ S 2026 0 0 = P ∧ PPx S S P ∧ S 1406 0 0 ≤ j ∧ e ≤ j
/-- one call of both sides: the wrapper answers k, the model b, and they agree -/
def CS (xs : Nat → Int32) (L w mm : Nat) (wa ma : List MV) (S : Sg) (e j : Nat) : Prop :=
  ∃ (k b : Int) (S1 : Sg) (e1 : Nat) (S2 : Sg) (A T C P : Nat), (∀ Q, m_do xs L w wa (mk S e) Q ↔ Q (.inl (some (vI k))) (mk S1 e1)) ∧ (∀ Q, m_do xs L mm ma (mk S1 e1) Q ↔ Q (.inl (some (vI b))) (mk S2 e1)) ∧ S2 2000 0 0 = k ∧ (k = 0 → S2 98 0 0 = ((Int32.ofInt b).toInt64).toInt) ∧ II S2 A T C P (j + 1) e1
/-- the families that it speaks of -/
def iiF (f : Nat) : Bool := psF f || (Nat.beq f 1001 || (Nat.beq f 2026 || (Nat.beq f 1406 || (peF f || pmF f))))
theorem iiF_no {f : Nat} (h : iiF f = true) : niF f = false ∧ ¬ f = 98 ∧ ¬ f = 99 ∧ ¬ f = 2000 := by
  have h2 : 10 ≤ f ∧ f ≤ 22 ∨ 1100 ≤ f ∧ f ≤ 1110 ∨ f = 1403 ∨ f = 1405 ∨ f = 1500 ∨ 1600 ≤ f ∧ f ≤ 1702 ∨ f = 1401 ∨ 50 ≤ f ∧ f ≤ 78 ∨ f = 2001 ∨ f = 2004 ∨ f = 2014 ∨ f = 1001 ∨ f = 2026 ∨ f = 1406 ∨ f = 40 ∨ f = 1003 ∨ 1300 ≤ f ∧ f ≤ 1307 := by
    unfold iiF at h
    rcases (Bool.or_eq_true _ _).mp h with h | h
    · have := psF_yes h
      omega
    · unfold peF pmF at h
      simp only [Bool.or_eq_true, Bool.and_eq_true, Nat.ble_eq, Nat.beq_eq] at h
      omega
  refine ⟨?_, by omega, by omega, by omega⟩
  cases hn : niF f with
  | false => rfl
  | true =>
    unfold niF at hn
    simp only [Bool.or_eq_true, Bool.and_eq_true, Nat.ble_eq, Nat.beq_eq] at hn
    omega
theorem iiF_ps {f : Nat} (h : psF f = true) : iiF f = true := by
  unfold iiF
  rw [h]
  rfl
theorem iiF_pe {f : Nat} (h : peF f = true) : iiF f = true := by
  unfold iiF
  rw [h]
  simp only [Bool.true_or, Bool.or_true]
theorem iiF_pm {f : Nat} (h : pmF f = true) : iiF f = true := by
  unfold iiF
  rw [h]
  simp only [Bool.or_true]
theorem II_keep {S S2 : Sg} {A T C P j e e2 : Nat} (h : II S A T C P j e) (k : ∀ f i l, iiF f = true → S2 f i l = S f i l) (nc : NC S2 T C) (he : e2 ≤ j + 1) : II S2 A T C P (j + 1) e2 := by
  obtain ⟨h1, _, h3, h4, h5, h6, _⟩ := h
  refine ⟨PS_ext h1 (fun f i l hf => k f i l (iiF_ps hf)), nc, (k _ _ _ rfl).trans h3, (k _ _ _ rfl).trans h4, PP_ext h5 (fun f i l hf => k f i l (iiF_pe hf)) (fun f l hf => k f 0 l (iiF_pm hf)), ?_, he⟩
  rw [k 1406 0 0 rfl]
  omega
section V
variable {xs : Nat → Int32} {L : Nat} {S : Sg} {e j : Nat}
theorem CS_thr {A T C P w mm : Nat} {wa ma : List MV} {k : Int} (h : II S A T C P j e) (hk : ¬ k = 0) (hw : ∀ Q, m_do xs L w wa (mk S e) Q ↔ Q (.inl (some (vI k))) (mk S (e + 1))) (hm : ∀ Q, m_do xs L mm ma (mk S (e + 1)) Q ↔ Q (.inl (some (vI 0))) (mk (up S 2000 0 0 k) (e + 1))) : CS xs L w mm wa ma S e j :=
  ⟨k, 0, S, e + 1, up S 2000 0 0 k, A, T, C, P, hw, hm, up_s, fun z => absurd z hk, II_keep h (fun f i l hf => up_f (iiF_no hf).2.2.2) (NC_up h.1 h.2.1 rfl rfl (by decide)) (by have := h.2.2.2.2.2.2; omega)⟩
theorem CS_ask {A T C P w mm : Nat} {wa ma : List MV} {x b : Int} {S1 S2 : Sg} (h : II S A T C P j e) (fn : FN S S1) (hw : ∀ Q, m_do xs L w wa (mk S e) Q ↔ Q (.inl (some (vI 0))) (mk (up S1 98 0 0 x) e)) (fm : FM2 (up S1 98 0 0 x) S2) (nc : NC S2 T C) (z : S2 2000 0 0 = 0) (hm : ∀ Q, m_do xs L mm ma (mk (up S1 98 0 0 x) e) Q ↔ Q (.inl (some (vI b))) (mk S2 e)) (hx : x = ((Int32.ofInt b).toInt64).toInt) : CS xs L w mm wa ma S e j :=
  ⟨0, b, up S1 98 0 0 x, e, S2, A, T, C, P, hw, hm, z, fun _ => by rw [fm 98 0 0 rfl (by decide), up_s, hx], II_keep h (fun f i l hf => by
    have := iiF_no hf
    rw [fm f i l this.1 this.2.2.2, up_f this.2.1, fn f i l this.1]) nc (by have := h.2.2.2.2.2.2; omega)⟩
theorem ask_ps {A T C P : Nat} {S1 : Sg} {x : Int} {F : Nat} (h : II S A T C P j e) (fn : FN S S1) (nc : NC S1 T C) (hF : F = 98 ∨ F = 99) : PS (up S1 F 0 0 x) A T C ∧ NC (up S1 F 0 0 x) T C ∧ nrm (up S1 F 0 0 x) = nrm S := by
  have ps1 := PS_ext h.1 (FN_ps fn)
  rcases hF with rfl | rfl
  · exact ⟨PS_up ps1 rfl, NC_up ps1 nc rfl rfl (by decide), nrm_ext (fun f i l hf => by rw [up_f (fun z => by rw [z] at hf; cases hf), FN_ps fn f i l hf])⟩
  · exact ⟨PS_up ps1 rfl, NC_up ps1 nc rfl rfl (by decide), nrm_ext (fun f i l hf => by rw [up_f (fun z => by rw [z] at hf; cases hf), FN_ps fn f i l hf])⟩
theorem rN_x {S S2 : Sg} (h : nrm S2 = nrm S) : rN S2 = rN S := by
  unfold rN
  rw [h]
theorem qArr_x {S S2 : Sg} {t k : Nat} (h : nrm S2 = nrm S) : qArr S2 t k = qArr S t k := by
  unfold qArr
  rw [rN_x h]
theorem qSh_x {S S2 : Sg} {t k : Nat} (h : nrm S2 = nrm S) : qSh S2 t k = qSh S t k := by
  unfold qSh
  rw [rN_x h]
theorem call_11 {A T C P : Nat} {a b : Int} (h : II S A T C P j e) : CS xs L 166 138 [vR 0, vI a, vI b, vR 341] [vR 296, vI a, vI b] S e j := by
  by_cases g : (0 ≤ a ∧ a < T) ∧ 0 ≤ b ∧ b < S 54 0 a.toNat
  · obtain ⟨t, rfl⟩ : ∃ t : Nat, a = t := ⟨a.toNat, by omega⟩
    obtain ⟨k, rfl⟩ : ∃ k : Nat, b = k := ⟨b.toNat, by omega⟩
    rw [Int.toNat_natCast] at g
    obtain ⟨S1, ⟨fn, nc1⟩, i1⟩ := c_75 (xs := xs) (L := L) (e := e) h.1 h.2.1 (t := t) (k := k) (by omega) (by omega)
    have hw := w_166 i1
    obtain ⟨ps1, nc1b, hD⟩ := ask_ps (x := ((Int32.ofInt (qArr S t k)).toInt64).toInt) (F := 98) h fn nc1 (Or.inl rfl)
    obtain ⟨S2, ⟨fm, nc2, z⟩, i2⟩ := m_138 (xs := xs) (L := L) (e := e) ps1 nc1b (t := t) (k := k) (by omega) (by rw [up_f (by decide), fn 54 _ _ rfl]; omega)
    rw [qArr_x hD] at i2
    exact CS_ask h fn hw fm nc2 z i2 rfl
  · exact CS_thr h (by decide) (w_166_0 (c_75t h.1 g)) (m_138t h.1 g)
theorem call_12 {A T C P : Nat} {a b : Int} (h : II S A T C P j e) : CS xs L 167 139 [vR 0, vI a, vI b, vR 341] [vR 296, vI a, vI b] S e j := by
  by_cases g : (0 ≤ a ∧ a < T) ∧ 0 ≤ b ∧ b < S 54 0 a.toNat
  · obtain ⟨t, rfl⟩ : ∃ t : Nat, a = t := ⟨a.toNat, by omega⟩
    obtain ⟨k, rfl⟩ : ∃ k : Nat, b = k := ⟨b.toNat, by omega⟩
    rw [Int.toNat_natCast] at g
    obtain ⟨S1, ⟨fn, nc1⟩, i1⟩ := c_76 (xs := xs) (L := L) (e := e) h.1 h.2.1 (t := t) (k := k) (by omega) (by omega)
    have hw := w_167 i1
    obtain ⟨ps1, nc1b, hD⟩ := ask_ps (x := ((Int32.ofInt (rN S 80 0 (6 * t + k))).toInt64).toInt) (F := 98) h fn nc1 (Or.inl rfl)
    obtain ⟨S2, ⟨fm, nc2, z⟩, i2⟩ := m_139 (xs := xs) (L := L) (e := e) ps1 nc1b (t := t) (k := k) (by omega) (by rw [up_f (by decide), fn 54 _ _ rfl]; omega)
    rw [rN_x hD] at i2
    exact CS_ask h fn hw fm nc2 z i2 rfl
  · exact CS_thr h (by decide) (w_167_0 (c_76t h.1 g)) (m_139t h.1 g)
theorem call_13 {A T C P : Nat} {a b : Int} (h : II S A T C P j e) : CS xs L 168 140 [vR 0, vI a, vI b, vR 341] [vR 296, vI a, vI b] S e j := by
  by_cases g : (0 ≤ a ∧ a < T) ∧ 0 ≤ b ∧ b < S 54 0 a.toNat
  · obtain ⟨t, rfl⟩ : ∃ t : Nat, a = t := ⟨a.toNat, by omega⟩
    obtain ⟨k, rfl⟩ : ∃ k : Nat, b = k := ⟨b.toNat, by omega⟩
    rw [Int.toNat_natCast] at g
    obtain ⟨S1, ⟨fn, nc1⟩, i1⟩ := c_77 (xs := xs) (L := L) (e := e) h.1 h.2.1 (t := t) (k := k) (by omega) (by omega)
    have hw := w_168 i1
    obtain ⟨ps1, nc1b, hD⟩ := ask_ps (x := ((Int32.ofInt (rN S 80 0 (6 * t + k))).toInt64).toInt) (F := 98) h fn nc1 (Or.inl rfl)
    obtain ⟨S2, ⟨fm, nc2, z⟩, i2⟩ := m_140 (xs := xs) (L := L) (e := e) ps1 nc1b (t := t) (k := k) (by omega) (by rw [up_f (by decide), fn 54 _ _ rfl]; omega)
    rw [rN_x hD] at i2
    exact CS_ask h fn hw fm nc2 z i2 rfl
  · exact CS_thr h (by decide) (w_168_0 (c_77t h.1 g)) (m_140t h.1 g)
theorem call_14 {A T C P : Nat} {a b p : Int} (h : II S A T C P j e) : CS xs L 169 141 [vR 0, vI a, vI b, vI p, vR 341] [vR 296, vI a, vI b, vI p] S e j := by
  by_cases g : (0 ≤ a ∧ a < T) ∧ 0 ≤ b ∧ b < S 54 0 a.toNat
  · obtain ⟨t, rfl⟩ : ∃ t : Nat, a = t := ⟨a.toNat, by omega⟩
    obtain ⟨k, rfl⟩ : ∃ k : Nat, b = k := ⟨b.toNat, by omega⟩
    rw [Int.toNat_natCast] at g
    by_cases gp : 0 ≤ p ∧ p ≤ 9
    · obtain ⟨q, rfl⟩ : ∃ q : Nat, p = q := ⟨p.toNat, by omega⟩
      obtain ⟨S1, ⟨fn, nc1⟩, i1⟩ := c_78 (xs := xs) (L := L) (e := e) h.1 h.2.1 (t := t) (k := k) (by omega) (by omega) (p := q) (by omega)
      have hw := w_169 i1
      obtain ⟨ps1, nc1b, hD⟩ := ask_ps (x := ((Int32.ofInt (rN S 87 0 (60 * t + (10 * k + q)))).toInt64).toInt) (F := 98) h fn nc1 (Or.inl rfl)
      obtain ⟨S2, ⟨fm, nc2, z⟩, i2⟩ := m_141 (xs := xs) (L := L) (e := e) ps1 nc1b (t := t) (k := k) (by omega) (by rw [up_f (by decide), fn 54 _ _ rfl]; omega) (p := q) (by omega)
      rw [rN_x hD] at i2
      exact CS_ask h fn hw fm nc2 z i2 rfl
    · exact CS_thr h (by decide) (w_169_1 (c_78u h.1 (by omega) (by omega) gp)) (m_141u h.1 (by omega) (by omega) gp)
  · exact CS_thr h (by decide) (w_169_0 (c_78t h.1 g)) (m_141t h.1 g)
theorem call_16 {A T C P : Nat} {a b : Int} (h : II S A T C P j e) : CS xs L 171 143 [vR 0, vI a, vI b, vR 341] [vR 296, vI a, vI b] S e j := by
  have h1 := h.1.1
  unfold PS1 at h1
  by_cases g : 0 ≤ a ∧ a < C
  · by_cases gb : 0 ≤ b ∧ b ≤ 5
    · obtain ⟨c, rfl⟩ : ∃ t : Nat, a = t := ⟨a.toNat, by omega⟩
      obtain ⟨w, rfl⟩ : ∃ k : Nat, b = k := ⟨b.toNat, by omega⟩
      obtain ⟨S1, ⟨fn, nc1⟩, i1⟩ := c_80 (xs := xs) (L := L) (e := e) h.1 h.2.1 (c := c) (w := w) (by omega) (by omega)
      have hw := w_171 i1
      obtain ⟨ps1, nc1b, hD⟩ := ask_ps (x := ((Int32.ofInt (qCo S c w)).toInt64).toInt) (F := 98) h fn nc1 (Or.inl rfl)
      obtain ⟨S2, ⟨fm, nc2, z⟩, i2⟩ := m_143 (xs := xs) (L := L) (e := e) ps1 nc1b (c := c) (w := w) (by omega) (by omega)
      have hq : qCo (up S1 98 0 0 ((Int32.ofInt (qCo S c w)).toInt64).toInt) c w = qCo S c w := by
        unfold qCo at hD ⊢
        rw [rN_x hD, up_f (by decide), up_f (by decide), fn 69 _ _ rfl, fn 68 _ _ rfl]
      rw [hq] at i2
      exact CS_ask h fn hw fm nc2 z i2 rfl
    · exact CS_thr h (by decide) (w_171_1 (c_80u h1.2.2.2.2.2.2.1 h1.2.2.2.2.2.2.2.2 g gb)) (m_143u h1.2.2.2.2.2.2.2.1 h1.2.2.2.2.2.2.2.2 g gb)
  · exact CS_thr h (by decide) (w_171_0 (c_80t h1.2.2.2.2.2.2.1 h1.2.2.2.2.2.2.2.2 g)) (m_143t h1.2.2.2.2.2.2.2.1 h1.2.2.2.2.2.2.2.2 g)
theorem call_17 {A T C P : Nat} {a b : Int} (h : II S A T C P j e) : CS xs L 172 146 [vR 0, vI a, vI b, vR 341] [vR 296, vI a, vI b] S e j := by
  by_cases g : 0 ≤ a ∧ a ≤ 5
  · by_cases gb : 0 ≤ b ∧ b ≤ 5
    · obtain ⟨x, rfl⟩ : ∃ t : Nat, a = t := ⟨a.toNat, by omega⟩
      obtain ⟨y, rfl⟩ : ∃ k : Nat, b = k := ⟨b.toNat, by omega⟩
      obtain ⟨S1, ⟨fn, nc1⟩, i1⟩ := c_81 (xs := xs) (L := L) (e := e) h.1 h.2.1 (a := x) (b := y) (by omega) (by omega)
      have hw := w_172 i1
      obtain ⟨ps1, nc1b, hD⟩ := ask_ps (x := ((Int32.ofInt (rN S 93 0 (6 * x + y))).toInt64).toInt) (F := 98) h fn nc1 (Or.inl rfl)
      obtain ⟨S2, ⟨fm, nc2, z⟩, i2⟩ := m_146 (xs := xs) (L := L) (e := e) ps1 nc1b (a := x) (b := y) (by omega) (by omega)
      rw [rN_x hD] at i2
      exact CS_ask h fn hw fm nc2 z i2 rfl
    · exact CS_thr h (by decide) (w_172_1 (c_81u g gb)) (m_146u g gb)
  · exact CS_thr h (by decide) (w_172_1 (c_81t g)) (m_146t g)
theorem call_19 {A T C P : Nat} {a : Int} (h : II S A T C P j e) : CS xs L 173 148 [vR 0, vI a, vR 341] [vR 296, vI a] S e j := by
  have h1 := h.1.1
  unfold PS1 at h1
  by_cases g : 0 ≤ a ∧ a < T
  · obtain ⟨t, rfl⟩ : ∃ t : Nat, a = t := ⟨a.toNat, by omega⟩
    obtain ⟨S1, ⟨fn, nc1⟩, i1⟩ := c_83 (xs := xs) (L := L) (e := e) h.1 h.2.1 (t := t) (by omega)
    have hw := w_173 i1
    obtain ⟨ps1, nc1b, hD⟩ := ask_ps (x := ((Int32.ofInt (bsA S t C 19).1).toInt64).toInt) (F := 98) h fn nc1 (Or.inl rfl)
    obtain ⟨S2, ⟨fm, nc2, z⟩, i2⟩ := m_148 (xs := xs) (L := L) (e := e) ps1 nc1b (t := t) (by omega)
    rw [bsA_ext hD] at i2
    exact CS_ask h fn hw fm nc2 z i2 rfl
  · exact CS_thr h (by decide) (w_173_0 (c_83t h1.2.2.2.1 g)) (m_148t h1.2.2.2.2.1 h1.2.2.2.2.2.1 g)
/-- homes: no wrapper -/
theorem call_18 {A T C P : Nat} (h : II S A T C P j e) : ∃ (b : Int) (S1 S2 : Sg), (∀ Q, m_do xs L 82 [vR 0] (mk S e) Q ↔ Q (.inl (some (vI b))) (mk S1 e)) ∧ (∀ Q, m_do xs L 147 [vR 296] (mk S1 e) Q ↔ Q (.inl (some (vI b))) (mk S2 e)) ∧ II S2 A T C P (j + 1) e := by
  obtain ⟨S1, ⟨fn, nc1⟩, i1⟩ := c_82 (xs := xs) (L := L) (e := e) h.1 h.2.1
  have ps1 := PS_ext h.1 (FN_ps fn)
  have hD : nrm S1 = nrm S := nrm_ext (FN_ps fn)
  obtain ⟨S2, ⟨fm, nc2, z⟩, i2⟩ := m_147 (xs := xs) (L := L) (e := e) ps1 nc1
  have hq : qHm S1 C = qHm S C := by
    unfold qHm
    rw [rN_x hD, hD]
  rw [hq] at i2
  exact ⟨_, S1, S2, i1, i2, II_keep h (fun f i l hf => by
    have := iiF_no hf
    rw [fm f i l this.1 this.2.2.2, fn f i l this.1]) nc2 (by have := h.2.2.2.2.2.2; omega)⟩
/-- a sheet's number is a number -/
theorem qSh_nn {A T C t k : Nat} (ps : PS S A T C) (ht : t < T) (hk : (k : Int) < S 54 0 t) : Jvm.FP.Core.fIsNaN (UInt32.ofNat (qSh S t k).toNat) = false := by
  obtain ⟨ht6, hk6⟩ := stopRan ps ht hk
  have wd := (WN_ruA (PS_WP ps) 2000 (by omega)).2.2.2.2.2 (6 * t + k) (by omega)
  by_cases h : rN S 80 0 (6 * t + k) = -1
  · have hq : UInt32.ofNat (qSh S t k).toNat = 0 := by
      unfold qSh shB
      rw [if_pos h]
      rfl
    rw [hq]
    decide +kernel
  · have hq : UInt32.ofNat (qSh S t k).toNat = FP.fmul 1120403456 (FP.fdiv (FP.i2f (Int32.ofInt (rN S 85 0 (6 * t + k)))) (FP.i2f (Int32.ofInt (rN S 86 0 (6 * t + k))))) := by
      unfold qSh shB
      rw [if_neg h, Int.toNat_natCast, UInt32.ofNat_toNat]
    rw [hq]
    have wd2 : 80 ≤ rN S 86 0 (6 * t + k) ∧ rN S 86 0 (6 * t + k) ≤ 900 := by
      rcases wd with wd | wd
      · exact absurd wd h
      · exact wd.2.2.2.2
    exact mul_nn (div_nn (by omega))
theorem nn64_of {a : UInt64} (h : Jvm.FP.Core.dIsNaN a = false) : m_nn64 a = true := by
  unfold m_nn64
  rw [decide_eq_true_eq, UInt64.le_iff_toNat_le, Jvm.FP.Core.mask_toNat]
  exact (Jvm.FP.Core.ne_nan a).mp ((Jvm.FP.Core.notNaN_iff a).mp h)
/-- the sheet: a wrapper that writes a double -/
theorem call_15 {A T C P : Nat} {a b : Int} (h : II S A T C P j e) : ∃ (k : Int) (v : UInt32) (S1 : Sg) (e1 : Nat) (S2 : Sg), (∀ Q, m_do xs L 170 [vR 0, vI a, vI b, vR 342] (mk S e) Q ↔ Q (.inl (some (vI k))) (mk S1 e1)) ∧ (∀ Q, m_do xs L 142 [vR 296, vI a, vI b] (mk S1 e1) Q ↔ Q (.inl (some (vF v))) (mk S2 e1)) ∧ S2 2000 0 0 = k ∧ (k = 0 → S2 99 0 0 = ((FP.f2d v).toNat : Int) ∧ Jvm.FP.Core.dIsNaN (FP.f2d v) = false) ∧ II S2 A T C P (j + 1) e1 := by
  by_cases g : (0 ≤ a ∧ a < T) ∧ 0 ≤ b ∧ b < S 54 0 a.toNat
  · obtain ⟨t, rfl⟩ : ∃ t : Nat, a = t := ⟨a.toNat, by omega⟩
    obtain ⟨k, rfl⟩ : ∃ k : Nat, b = k := ⟨b.toNat, by omega⟩
    rw [Int.toNat_natCast] at g
    have hnn : Jvm.FP.Core.dIsNaN (FP.f2d (UInt32.ofNat (qSh S t k).toNat)) = false := (show Jvm.FP.Core.dIsNaN (FP.f2d _) = Jvm.FP.Core.fIsNaN _ from Jvm.FP.f2d_nan _).trans (qSh_nn h.1 (t := t) (k := k) (by omega) (by omega))
    obtain ⟨S1, ⟨fn, nc1⟩, i1⟩ := c_79 (xs := xs) (L := L) (e := e) h.1 h.2.1 (t := t) (k := k) (by omega) (by omega)
    have hw := w_170 (nn64_of hnn) i1
    obtain ⟨ps1, nc1b, hD⟩ := ask_ps (x := ((FP.f2d (UInt32.ofNat (qSh S t k).toNat)).toNat : Int)) (F := 99) h fn nc1 (Or.inr rfl)
    obtain ⟨S2, ⟨fm, nc2, z⟩, i2⟩ := m_142 (xs := xs) (L := L) (e := e) ps1 nc1b (t := t) (k := k) (by omega) (by rw [up_f (by decide), fn 54 _ _ rfl]; omega)
    rw [qSh_x hD] at i2
    exact ⟨0, _, _, e, S2, hw, i2, z, fun _ => ⟨by rw [fm 99 0 0 rfl (by decide), up_s], hnn⟩, II_keep h (fun f i l hf => by
      have := iiF_no hf
      rw [fm f i l this.1 this.2.2.2, up_f this.2.2.1, fn f i l this.1]) nc2 (by have := h.2.2.2.2.2.2; omega)⟩
  · exact ⟨1, 0, S, e + 1, up S 2000 0 0 1, w_170_0 (c_79t h.1 g), m_142t h.1 g, up_s, fun z => absurd z (by decide), II_keep h (fun f i l hf => up_f (iiF_no hf).2.2.2) (NC_up h.1 h.2.1 rfl rfl (by decide)) (by have := h.2.2.2.2.2.2; omega)⟩
end V
