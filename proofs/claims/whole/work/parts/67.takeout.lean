/-! ===== a coach is taken out (pure) ===== -/
/-- the lowest number below n of which p holds; none -/
noncomputable def lo (p : Nat → Prop) : Nat → Int
  | 0 => -1
  | k + 1 => if lo p k = -1 then iP (p k) * ((k : Int) + 1) - 1 else lo p k
theorem lo_spec {p : Nat → Prop} : ∀ n, (lo p n = -1 ∧ ∀ j, j < n → ¬ p j) ∨ ∃ j : Nat, j < n ∧ lo p n = j ∧ p j ∧ ∀ i, i < j → ¬ p i
  | 0 => Or.inl ⟨rfl, fun j hj => by omega⟩
  | n + 1 => by
    unfold lo
    rcases lo_spec (p := p) n with ⟨h1, h2⟩ | ⟨j, h1, h2, h3, h4⟩
    · rw [if_pos h1]
      by_cases hp : p n
      · rw [iP_1 hp]
        exact Or.inr ⟨n, by omega, by omega, hp, h2⟩
      · rw [iP_0 hp]
        refine Or.inl ⟨by omega, fun j hj => ?_⟩
        by_cases hjn : j = n
        · subst hjn; exact hp
        · exact h2 j (by omega)
    · rw [if_neg (by omega)]
      exact Or.inr ⟨j, by omega, h2, h3, h4⟩
theorem lo_uniq {p : Nat → Prop} {n : Nat} {x : Int} (h : (x = -1 ∧ ∀ j, j < n → ¬ p j) ∨ ∃ j : Nat, j < n ∧ x = j ∧ p j ∧ ∀ i, i < j → ¬ p i) : x = lo p n := by
  rcases lo_spec (p := p) n with ⟨h1, h2⟩ | ⟨j, h1, h2, h3, h4⟩
  · rcases h with ⟨k1, k2⟩ | ⟨i, k1, k2, k3, k4⟩
    · omega
    · exact absurd k3 (h2 i k1)
  · rcases h with ⟨k1, k2⟩ | ⟨i, k1, k2, k3, k4⟩
    · exact absurd h3 (k2 j h1)
    · have : ¬ i < j := fun z => h4 i z k3
      have : ¬ j < i := fun z => k4 j z h3
      omega
def rep (B : Sg) (k c : Nat) : Prop := 0 < B 69 0 c ∧ 0 < B 69 0 k ∧ B 68 0 k = 0 ∧ B 63 0 c ≤ B 63 0 k ∧ B 70 0 (3 * k) = B 70 0 (3 * c) ∧ B 61 0 k = B 61 0 c
def tkc (B : Sg) (i c k : Nat) : Prop := rep B k c ∧ ¬ rfM B k (B 72 0 i) (B 74 0 i) = -1
def plc (B : Sg) (i : Nat) : Nat := (18 * B 76 0 i + 3 * (B 77 0 i / 10) + B 77 0 i % 10).toNat
def fre (B : Sg) (i : Nat) : Sg := up (up B 78 0 (plc B i) (-1)) 76 0 i (-1)
noncomputable def slR (B : Sg) (i k : Nat) : Nat := (rfM B k (B 72 0 i) (B 74 0 i)).toNat
noncomputable def slB (B : Sg) (i k : Nat) : Nat := (bedB B (B 73 0 i) (18 * k + 3 * slR B i k)).toNat
noncomputable def sla (B : Sg) (i k : Nat) : Sg := up (up (up B 78 0 (18 * k + 3 * slR B i k + slB B i k) i) 76 0 i k) 77 0 i (10 * slR B i k + slB B i k)
noncomputable def tkS (B : Sg) (c C i : Nat) : Sg × Int :=
  if B 76 0 i = c then
    (if lo (tkc (fre B i) i c) C = -1 then (up (fre B i) 75 0 i (fre B i 75 0 i + 50 * B 69 0 c), 1) else (sla (fre B i) i (lo (tkc (fre B i) i c) C).toNat, 0))
  else (B, 0)
noncomputable def tkA (B : Sg) (c C : Nat) : Nat → Sg × Int
  | 0 => (B, 0)
  | i + 1 => ((tkS (tkA B c C i).1 c C i).1, (tkA B c C i).2 + (tkS (tkA B c C i).1 c C i).2)
/-- static rows -/
def stF (f : Nat) : Prop := f < 75 ∨ 78 < f
theorem tkS_f {B : Sg} {c C i f a j : Nat} (h : stF f) : (tkS B c C i).1 f a j = B f a j := by
  unfold stF at h
  unfold tkS sla fre
  split
  · split
    · show up _ _ _ _ _ f a j = _
      rw [up_f (by omega), up_f (by omega), up_f (by omega)]
    · show up _ _ _ _ _ f a j = _
      rw [up_f (by omega), up_f (by omega), up_f (by omega), up_f (by omega), up_f (by omega)]
  · rfl
theorem tkA_f {B : Sg} {c C f a j : Nat} (h : stF f) : ∀ i, (tkA B c C i).1 f a j = B f a j
  | 0 => rfl
  | i + 1 => by
    unfold tkA
    rw [tkS_f h, tkA_f h i]
theorem tkS_2 {B : Sg} {c C i : Nat} : (tkS B c C i).2 = 0 ∨ (tkS B c C i).2 = 1 := by
  unfold tkS
  split
  · split
    · exact Or.inr rfl
    · exact Or.inl rfl
  · exact Or.inl rfl
theorem tkA_2 {B : Sg} {c C : Nat} : ∀ i, 0 ≤ (tkA B c C i).2 ∧ (tkA B c C i).2 ≤ i
  | 0 => by simp [tkA]
  | i + 1 => by
    have h1 := tkA_2 (B := B) (c := c) (C := C) i
    have h2 := tkS_2 (B := (tkA B c C i).1) (c := c) (C := C) (i := i)
    unfold tkA
    simp only
    omega
/-- where a person sleeps -/
theorem at_of {S B : Sg} {P i c : Nat} (h : PPx S B P) (hi : i < P) (hc : B 76 0 i = c) : B 75 0 i = 0 ∧ ∃ r b, ats S B i c r b ∧ plc B i = 18 * c + 3 * r + b := by
  rcases h.2.2.1 i hi with z | ⟨z0, c2, r, b, z⟩
  · have := z.1; omega
  · have hc2 : c2 = c := by have := z.2.2.2.1; omega
    subst hc2
    refine ⟨z0, r, b, z, ?_⟩
    unfold plc
    have h1 := z.1
    have h2 := z.2.1
    have h3 := z.2.2.1
    rw [z.2.2.2.1, z.2.2.2.2.1]
    omega
theorem fre_eq {B : Sg} {i x : Nat} (h : plc B i = x) : fre B i = up (up B 78 0 x (-1)) 76 0 i (-1) := by
  unfold fre
  rw [h]
/-- a place that was found -/
theorem sla_ok {S B : Sg} {P i k : Nat} (h : PPx S B P) (hi : i < P) (hk : k < 10) (hr : ¬ rfM B k (B 72 0 i) (B 74 0 i) = -1) : slR B i k < 6 ∧ rfM B k (B 72 0 i) (B 74 0 i) = slR B i k ∧ slB B i k < 3 ∧ bedB B (B 73 0 i) (18 * k + 3 * slR B i k) = slB B i k ∧ B 78 0 (18 * k + 3 * slR B i k + slB B i k) = -1 ∧ (allR B 72 (18 * k + 3 * slR B i k) (B 72 0 i) ∨ allR B 74 (18 * k + 3 * slR B i k) (B 74 0 i)) := by
  have hP := h.1
  have q2 := h.2.1 i (by omega)
  rcases rfM_val h hk q2.2.2.2.2.2.1 q2.2.2.2.2.2.2.2.2.1 with z | ⟨r, hr6, z1, z2⟩
  · exact absurd z hr
  · have hR : slR B i k = r := by unfold slR; omega
    rw [hR]
    obtain ⟨b, hb3, b1, b2⟩ := bedB_val (age := B 73 0 i) z2.1
    have hB : slB B i k = b := by unfold slB; rw [hR, b1]; omega
    rw [hB]
    exact ⟨hr6, z1, hb3, b1, b2, z2.2⟩
theorem tkS_PP {S B : Sg} {P i c C : Nat} (h : PPx S B P) (hi : i < P) (hC : C ≤ 10) (h69 : 0 ≤ B 69 0 c ∧ B 69 0 c ≤ 3) : ∃ S2, PPx S2 (tkS B c C i).1 P := by
  unfold tkS
  by_cases hc : B 76 0 i = c
  · rw [if_pos hc]
    obtain ⟨h75, r, b, ha, hp⟩ := at_of h hi hc
    have h1 := PP_free h hi ha
    rw [← fre_eq hp] at h1
    have hn : nwh (up (up (up (up S 40 0 (18 * c + 3 * r + b) (-1)) 1304 i 0 (-1)) 1305 i 0 (-1)) 1306 i 0 (-1)) (fre B i) i := by
      rw [fre_eq hp]
      unfold nwh
      simp (disch := omega) only [up_f, up_s]
      exact ⟨trivial, trivial, trivial, trivial⟩
    have e75 : fre B i 75 0 i = 0 := by
      rw [fre_eq hp]
      simp (disch := omega) only [up_f]
      exact h75
    by_cases ho : lo (tkc (fre B i) i c) C = -1
    · rw [if_pos ho]
      exact ⟨_, PP_pay h1 hi hn (v := 50 * B 69 0 c) (by omega) e75⟩
    · rw [if_neg ho]
      rcases lo_spec (p := tkc (fre B i) i c) C with ⟨z, _⟩ | ⟨k, k1, k2, k3, k4⟩
      · exact absurd z ho
      · rw [k2, Int.toNat_natCast]
        obtain ⟨s1, s2, s3, s4, s5, s6⟩ := sla_ok h1 hi (show k < 10 by omega) k3.2
        exact ⟨_, PP_place h1 hi hn e75 (show k < 10 by omega) s1 s3 s5 s6⟩
  · rw [if_neg hc]
    exact ⟨S, h⟩
theorem tkA_PP {S B : Sg} {P c C : Nat} (h : PPx S B P) (hC : C ≤ 10) (h69 : 0 ≤ B 69 0 c ∧ B 69 0 c ≤ 3) : ∀ i, i ≤ P → ∃ S2, PPx S2 (tkA B c C i).1 P
  | 0, _ => ⟨S, h⟩
  | i + 1, hi => by
    obtain ⟨S2, h2⟩ := tkA_PP h hC h69 i (by omega)
    exact tkS_PP h2 (by omega) hC (by rw [tkA_f (Or.inl (by decide))]; exact h69)
