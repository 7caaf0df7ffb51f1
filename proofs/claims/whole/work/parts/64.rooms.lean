/-! ===== rooms of class and model are the same ===== -/
theorem all3 {p : Nat → Prop} : (∀ a, a < 3 → p a) ↔ p 0 ∧ p 1 ∧ p 2 := by
  constructor
  · intro h
    exact ⟨h 0 (by omega), h 1 (by omega), h 2 (by omega)⟩
  · rintro ⟨h0, h1, h2⟩ a ha
    have : a = 0 ∨ a = 1 ∨ a = 2 := by omega
    rcases this with rfl | rfl | rfl
    · exact h0
    · exact h1
    · exact h2
theorem hh_ne {x n g a w : Int} : ¬ hh x n g a w = 0 ↔ ¬ x = 0 ∧ (n = -1 ∨ n = g ∨ a = w) := by
  unfold hh
  by_cases h1 : n = -1 ∨ n = g
  · rw [if_pos h1]
    constructor
    · intro h
      exact ⟨h, by omega⟩
    · intro h
      exact h.1
  · rw [if_neg h1]
    by_cases h2 : ¬ x = 0 ∧ a = w
    · rw [if_pos h2]
      constructor
      · intro _
        exact ⟨h2.1, by omega⟩
      · intro _
        omega
    · rw [if_neg h2]
      constructor
      · intro h
        exact absurd rfl h
      · intro h
        exact absurd ⟨h.1, by omega⟩ h2
theorem hx_iff {sl wm : Nat → Int} {b : Nat} {g w : Int} : ¬ hx sl wm b g w = 0 ↔ ∀ a, a < 3 → ¬ sl (b + a) = -1 → ¬ sl (b + a) = g → wm (sl (b + a)).toNat = w := by
  unfold hx
  rw [hh_ne, hh_ne, hh_ne, all3]
  constructor
  · rintro ⟨⟨⟨_, h0⟩, h1⟩, h2⟩
    exact ⟨fun z1 z2 => h0.elim (fun z => absurd z z1) (fun z => z.elim (fun z => absurd z z2) id), fun z1 z2 => h1.elim (fun z => absurd z z1) (fun z => z.elim (fun z => absurd z z2) id), fun z1 z2 => h2.elim (fun z => absurd z z1) (fun z => z.elim (fun z => absurd z z2) id)⟩
  · rintro ⟨h0, h1, h2⟩
    have key : ∀ n g a w : Int, (¬ n = -1 → ¬ n = g → a = w) → n = -1 ∨ n = g ∨ a = w := fun n g a w h => by
      by_cases z1 : n = -1
      · exact Or.inl z1
      · by_cases z2 : n = g
        · exact Or.inr (Or.inl z2)
        · exact Or.inr (Or.inr (h z1 z2))
    exact ⟨⟨⟨by omega, key _ _ _ _ h0⟩, key _ _ _ _ h1⟩, key _ _ _ _ h2⟩
theorem fbL_iff {f : Nat → Int} : ¬ fbL f = -1 ↔ f 0 = -1 ∨ f 1 = -1 ∨ f 2 = -1 := by
  unfold fbL
  by_cases h0 : f 0 = -1
  · rw [if_pos h0]; simp [h0]
  · rw [if_neg h0]
    by_cases h1 : f 1 = -1
    · rw [if_pos h1]; simp [h1]
    · rw [if_neg h1]
      by_cases h2 : f 2 = -1
      · rw [if_pos h2]; simp [h2]
      · rw [if_neg h2]; simp [h0, h1, h2]
theorem fb_free {f : Nat → Int} (h : f 0 = -1 ∨ f 1 = -1 ∨ f 2 = -1) : (∃ b : Nat, b < 3 ∧ fbL f = b ∧ f b = -1) ∧ ∃ b : Nat, b < 3 ∧ fbH f = b ∧ f b = -1 := by
  unfold fbL fbH
  constructor
  · by_cases h0 : f 0 = -1
    · exact ⟨0, by omega, by rw [if_pos h0]; rfl, h0⟩
    · by_cases h1 : f 1 = -1
      · exact ⟨1, by omega, by rw [if_neg h0, if_pos h1]; rfl, h1⟩
      · have h2 : f 2 = -1 := by omega
        exact ⟨2, by omega, by rw [if_neg h0, if_neg h1, if_pos h2]; rfl, h2⟩
  · by_cases h2 : f 2 = -1
    · exact ⟨2, by omega, by rw [if_pos h2]; rfl, h2⟩
    · by_cases h1 : f 1 = -1
      · exact ⟨1, by omega, by rw [if_neg h2, if_pos h1]; rfl, h1⟩
      · have h0 : f 0 = -1 := by omega
        exact ⟨0, by omega, by rw [if_neg h2, if_neg h1, if_pos h0]; rfl, h0⟩
def free3 (B : Sg) (x : Nat) : Prop := B 78 0 (x + 0) = -1 ∨ B 78 0 (x + 1) = -1 ∨ B 78 0 (x + 2) = -1
/-- the room has place for such a person -/
def fitN (B : Sg) (x : Nat) (w p : Int) : Prop := free3 B x ∧ (allR B 72 x w ∨ allR B 74 x p)
theorem occ {S B : Sg} {P c r a : Nat} (h : PPx S B P) (hc : c < 10) (hr : r < 6) (ha : a < 3) (hn : ¬ B 78 0 (18 * c + 3 * r + a) = -1) : ∃ i : Nat, i < P ∧ i < 40 ∧ B 78 0 (18 * c + 3 * r + a) = i ∧ (B 78 0 (18 * c + 3 * r + a)).toNat = i ∧ ats S B i c r a := by
  rcases (h.2.2.2.1 c r a hc hr ha).2 with z | ⟨i, hi, h1, h2⟩
  · exact absurd z hn
  · exact ⟨i, hi, by have := h.1; omega, h1, by omega, h2⟩
theorem fits_iff {S B : Sg} {P c r : Nat} {w p : Int} (h : PPx S B P) (hc : c < 10) (hr : r < 6) : fits S c w p r ↔ fitN B (18 * c + 3 * r) w p := by
  have e40 : ∀ a, a < 3 → S 40 0 (18 * c + 3 * r + a) = B 78 0 (18 * c + 3 * r + a) := fun a ha => (h.2.2.2.1 c r a hc hr ha).1
  unfold fits fitN free3
  rw [fbL_iff, hx_iff, hx_iff]
  rw [e40 0 (by omega), e40 1 (by omega), e40 2 (by omega)]
  refine and_congr_right (fun _ => ?_)
  unfold allR
  have key : ∀ F F2, (∀ i, i < 40 → S F i 0 = B F2 0 i) → ((∀ a, a < 3 → ¬ S 40 0 (18 * c + 3 * r + a) = -1 → ¬ S 40 0 (18 * c + 3 * r + a) = -1 → S F (S 40 0 (18 * c + 3 * r + a)).toNat 0 = w) ↔ ∀ a, a < 3 → ¬ B 78 0 (18 * c + 3 * r + a) = -1 → B F2 0 (B 78 0 (18 * c + 3 * r + a)).toNat = w) := fun F F2 hF => by
    refine forall_congr' (fun a => forall_congr' (fun ha => ?_))
    rw [e40 a ha]
    constructor
    · intro z hn
      obtain ⟨i, hi, hi40, h1, h2, h3⟩ := occ h hc hr ha hn
      have := z hn hn
      rw [h2] at this ⊢
      rw [← hF i hi40]; exact this
    · intro z hn _
      obtain ⟨i, hi, hi40, h1, h2, h3⟩ := occ h hc hr ha hn
      have := z hn
      rw [h2] at this ⊢
      rw [hF i hi40]; exact this
  have key2 : ∀ F F2, (∀ i, i < 40 → S F i 0 = B F2 0 i) → ((∀ a, a < 3 → ¬ S 40 0 (18 * c + 3 * r + a) = -1 → ¬ S 40 0 (18 * c + 3 * r + a) = -1 → S F (S 40 0 (18 * c + 3 * r + a)).toNat 0 = p) ↔ ∀ a, a < 3 → ¬ B 78 0 (18 * c + 3 * r + a) = -1 → B F2 0 (B 78 0 (18 * c + 3 * r + a)).toNat = p) := fun F F2 hF => by
    refine forall_congr' (fun a => forall_congr' (fun ha => ?_))
    rw [e40 a ha]
    constructor
    · intro z hn
      obtain ⟨i, hi, hi40, h1, h2, h3⟩ := occ h hc hr ha hn
      have := z hn hn
      rw [h2] at this ⊢
      rw [← hF i hi40]; exact this
    · intro z hn _
      obtain ⟨i, hi, hi40, h1, h2, h3⟩ := occ h hc hr ha hn
      have := z hn
      rw [h2] at this ⊢
      rw [hF i hi40]; exact this
  exact or_congr (key 1301 72 (fun i hi => (h.2.1 i hi).2.1)) (key2 1303 74 (fun i hi => (h.2.1 i hi).2.2.2.1))
/-! ===== the model's mayHold ===== -/
theorem on1_n {n p pa x : Int} (h : n = -1) : on1 n p pa x = x := if_pos h
theorem on1_y {n p pa x : Int} (h : ¬ n = -1) : ¬ on1 n p pa x = 0 ↔ ¬ x = 0 ∧ (pa = -1 ∨ p = pa) := by
  unfold on1
  rw [if_neg h]
  by_cases h2 : ¬ x = 0 ∧ (pa = -1 ∨ p = pa)
  · rw [if_pos h2]; simp [h2]
  · rw [if_neg h2]; simp only [not_true_eq_false, false_iff]; exact h2
theorem wo1_n {n w x : Int} (h : n = -1) : wo1 n w x = x := if_pos h
theorem wo1_y {n w x : Int} (h : ¬ n = -1) (hw : w = 0 ∨ w = 1) : wo1 n w x = x + w := by
  unfold wo1
  rw [if_neg h]
  rcases hw with rfl | rfl
  · rfl
  · rfl
theorem al1_n {n x : Int} (h : n = -1) : al1 n x = x := if_pos h
theorem al1_y {n x : Int} (h : ¬ n = -1) : al1 n x = x + 1 := if_neg h
theorem pa1_n {n p x : Int} (h : n = -1) : pa1 n p x = x := if_pos h
theorem pa1_y {n p x : Int} (h : ¬ n = -1) : pa1 n p x = p := if_neg h
/-- what the model's mayHold says of three beds -/
def mh3 (n0 n1 n2 w0 w1 w2 p0 p1 p2 w p : Int) : Prop :=
  ¬ on1 n2 p2 (pa1 n1 p1 (pa1 n0 p0 (if w = -1 then -1 else p))) (on1 n1 p1 (pa1 n0 p0 (if w = -1 then -1 else p)) (on1 n0 p0 (if w = -1 then -1 else p) 1)) = 0 ∨ wo1 n2 w2 (wo1 n1 w1 (wo1 n0 w0 (if w = 1 then 1 else 0))) = 0 ∨ wo1 n2 w2 (wo1 n1 w1 (wo1 n0 w0 (if w = 1 then 1 else 0))) = al1 n2 (al1 n1 (al1 n0 (if w = -1 then 0 else 1)))
theorem mh3_1 {n0 n1 n2 w0 w1 w2 p0 p1 p2 w p : Int} (hw0 : w0 = 0 ∨ w0 = 1) (hw1 : w1 = 0 ∨ w1 = 1) (hw2 : w2 = 0 ∨ w2 = 1) (hp : 0 ≤ p) (hp0 : 0 ≤ p0) (hp1 : 0 ≤ p1) (hp2 : 0 ≤ p2) (hw : w = 0 ∨ w = 1) :
    mh3 n0 n1 n2 w0 w1 w2 p0 p1 p2 w p ↔ ((¬ n0 = -1 → w0 = w) ∧ (¬ n1 = -1 → w1 = w) ∧ (¬ n2 = -1 → w2 = w)) ∨ ((¬ n0 = -1 → p0 = p) ∧ (¬ n1 = -1 → p1 = p) ∧ (¬ n2 = -1 → p2 = p)) := by
  unfold mh3
  rw [if_neg (show ¬ w = -1 by omega), if_neg (show ¬ w = -1 by omega)]
  have hww : (if w = 1 then (1 : Int) else 0) = w := by
    rcases hw with rfl | rfl <;> rfl
  rw [hww]
  by_cases h0 : n0 = -1 <;> by_cases h1 : n1 = -1 <;> by_cases h2 : n2 = -1
  all_goals
    simp only [on1_n, on1_y, wo1_n, wo1_y, al1_n, al1_y, pa1_n, pa1_y, h0, h1, h2, hw0, hw1, hw2, not_false_eq_true, not_true_eq_false, false_implies, true_implies, implies_true, and_true, true_and, true_or, or_true, Int.reduceEq, false_or, or_false]
    first | done | omega
theorem mh3_2 {n0 n1 n2 w0 w1 w2 p0 p1 p2 p : Int} (hw0 : w0 = 0 ∨ w0 = 1) (hw1 : w1 = 0 ∨ w1 = 1) (hw2 : w2 = 0 ∨ w2 = 1) (hp0 : 0 ≤ p0) (hp1 : 0 ≤ p1) (hp2 : 0 ≤ p2) :
    mh3 n0 n1 n2 w0 w1 w2 p0 p1 p2 (-1) p ↔ ((¬ n0 = -1 → ¬ n1 = -1 → w0 = w1) ∧ (¬ n0 = -1 → ¬ n2 = -1 → w0 = w2) ∧ (¬ n1 = -1 → ¬ n2 = -1 → w1 = w2)) ∨ ((¬ n0 = -1 → ¬ n1 = -1 → p0 = p1) ∧ (¬ n0 = -1 → ¬ n2 = -1 → p0 = p2) ∧ (¬ n1 = -1 → ¬ n2 = -1 → p1 = p2)) := by
  unfold mh3
  rw [if_pos rfl, if_pos rfl, if_neg (show ¬ (-1 : Int) = 1 by decide)]
  by_cases h0 : n0 = -1 <;> by_cases h1 : n1 = -1 <;> by_cases h2 : n2 = -1
  all_goals
    simp only [on1_n, on1_y, wo1_n, wo1_y, al1_n, al1_y, pa1_n, pa1_y, h0, h1, h2, hw0, hw1, hw2, not_false_eq_true, not_true_eq_false, false_implies, true_implies, implies_true, and_true, true_and, true_or, or_true, Int.reduceEq, false_or, or_false]
    first | done | omega
