/-! ===== persons: class S beside B (the model's families) ===== -/
def Q2 (S B : Sg) (P : Nat) : Prop := ∀ i, i < 40 → S 1300 i 0 = i ∧ S 1301 i 0 = B 72 0 i ∧ S 1302 i 0 = B 73 0 i ∧ S 1303 i 0 = B 74 0 i ∧ S 1307 i 0 = B 75 0 i ∧ (B 72 0 i = 0 ∨ B 72 0 i = 1) ∧ 0 ≤ B 73 0 i ∧ B 73 0 i ≤ 99 ∧ 0 ≤ B 74 0 i ∧ B 74 0 i ≤ 9 ∧ 0 ≤ B 75 0 i ∧ B 75 0 i ≤ 150 ∧ (P ≤ i → B 75 0 i = 0 ∧ S 1304 i 0 = -1 ∧ S 1305 i 0 = -1 ∧ S 1306 i 0 = -1)
def nwh (S B : Sg) (i : Nat) : Prop := B 76 0 i = -1 ∧ S 1304 i 0 = -1 ∧ S 1305 i 0 = -1 ∧ S 1306 i 0 = -1
def ats (S B : Sg) (i c r b : Nat) : Prop := c < 10 ∧ r < 6 ∧ b < 3 ∧ B 76 0 i = c ∧ B 77 0 i = 10 * r + b ∧ S 1304 i 0 = c ∧ S 1305 i 0 = r ∧ S 1306 i 0 = b ∧ B 78 0 (18 * c + 3 * r + b) = i
def Q3 (S B : Sg) (P : Nat) : Prop := ∀ i, i < P → nwh S B i ∨ (B 75 0 i = 0 ∧ ∃ c r b, ats S B i c r b)
def Q4 (S B : Sg) (P : Nat) : Prop := ∀ c r b, c < 10 → r < 6 → b < 3 → S 40 0 (18 * c + 3 * r + b) = B 78 0 (18 * c + 3 * r + b) ∧ (B 78 0 (18 * c + 3 * r + b) = -1 ∨ ∃ i : Nat, i < P ∧ B 78 0 (18 * c + 3 * r + b) = i ∧ ats S B i c r b)
def psum (B : Sg) : Nat → Int
  | 0 => 0
  | k + 1 => psum B k + B 75 0 k
def oneR (B : Sg) (F x : Nat) : Prop := ∀ a b, a < 3 → b < 3 → ¬ B 78 0 (x + a) = -1 → ¬ B 78 0 (x + b) = -1 → B F 0 (B 78 0 (x + a)).toNat = B F 0 (B 78 0 (x + b)).toNat
def Q6 (B : Sg) : Prop := ∀ c r, c < 10 → r < 6 → oneR B 72 (18 * c + 3 * r) ∨ oneR B 74 (18 * c + 3 * r)
def PPx (S B : Sg) (P : Nat) : Prop := P ≤ 40 ∧ Q2 S B P ∧ Q3 S B P ∧ Q4 S B P ∧ S 1003 0 0 = psum B P ∧ Q6 B
theorem psum_ext {B B2 : Sg} : ∀ k, (∀ i, i < k → B2 75 0 i = B 75 0 i) → psum B2 k = psum B k
  | 0, _ => rfl
  | k + 1, h => by
    unfold psum
    rw [psum_ext k (fun i hi => h i (by omega)), h k (by omega)]
theorem psum_up {B : Sg} {i : Nat} {v : Int} : ∀ k, i < k → psum (up B 75 0 i (B 75 0 i + v)) k = psum B k + v
  | 0, h => by omega
  | k + 1, h => by
    unfold psum
    by_cases hik : i = k
    · subst hik
      rw [psum_ext (B := B) i (fun j hj => up_k (by omega)), up_s]
      omega
    · rw [psum_up k (by omega), up_k (by omega)]
      omega
theorem psum_ran {S B : Sg} {P : Nat} (h : Q2 S B P) : ∀ k, k ≤ 40 → 0 ≤ psum B k ∧ psum B k ≤ 150 * k
  | 0, _ => by simp [psum]
  | k + 1, hk => by
    have h1 := psum_ran h k (by omega)
    have h2 := h k (by omega)
    unfold psum
    omega
theorem ats_u {S B : Sg} {i c r b c2 r2 b2 : Nat} (h : ats S B i c r b) (k : ats S B i c2 r2 b2) : c2 = c ∧ r2 = r ∧ b2 = b := by
  unfold ats at h k
  omega
theorem xyz {c r b c2 r2 b2 : Nat} (h1 : r < 6) (h2 : b < 3) (h3 : r2 < 6) (h4 : b2 < 3) (h : 18 * c + 3 * r + b = 18 * c2 + 3 * r2 + b2) : c = c2 ∧ r = r2 ∧ b = b2 := by omega
/-- who sleeps nowhere is in no bed -/
theorem nwh_no {S B : Sg} {P i c r b : Nat} (q4 : Q4 S B P) (h : B 76 0 i = -1) (hc : c < 10) (hr : r < 6) (hb : b < 3) : ¬ B 78 0 (18 * c + 3 * r + b) = i := fun z => by
  rcases (q4 c r b hc hr hb).2 with h2 | ⟨j, hj, h3, h4⟩
  · omega
  · have : j = i := by omega
    subst this
    unfold ats at h4
    omega
/-- a person leaves the bed -/
theorem PP_free {S B : Sg} {P i c r b : Nat} (h : PPx S B P) (hi : i < P) (ha : ats S B i c r b) : PPx (up (up (up (up S 40 0 (18 * c + 3 * r + b) (-1)) 1304 i 0 (-1)) 1305 i 0 (-1)) 1306 i 0 (-1)) (up (up B 78 0 (18 * c + 3 * r + b) (-1)) 76 0 i (-1)) P := by
  obtain ⟨hP, q2, q3, q4, q5, q6⟩ := h
  have ha2 := ha
  obtain ⟨hc, hr, hb, a1, a2, a3, a4, a5, a6⟩ := ha
  refine ⟨hP, fun j hj => ?_, fun j hj => ?_, fun c2 r2 b2 hc2 hr2 hb2 => ?_, ?_, fun c2 r2 hc2 hr2 => ?_⟩
  · have := q2 j hj
    by_cases hji : j = i
    · subst hji
      simp (disch := omega) only [up_f, up_s]
      omega
    · simp (disch := omega) only [up_f, up_i]
      exact this
  · by_cases hji : j = i
    · subst hji
      exact Or.inl ⟨up_s, by simp (disch := omega) only [up_f, up_s], by simp (disch := omega) only [up_f, up_s], by simp (disch := omega) only [up_s]⟩
    · rcases q3 j hj with z | ⟨z0, c2, r2, b2, z1, z2, z3, z4, z5, z6, z7, z8, z9⟩
      · left
        unfold nwh at z ⊢
        simp (disch := omega) only [up_f, up_i, up_k]
        exact z
      · right
        have hx : ¬ 18 * c2 + 3 * r2 + b2 = 18 * c + 3 * r + b := fun z => by rw [z] at z9; omega
        refine ⟨by simp (disch := omega) only [up_f]; exact z0, c2, r2, b2, ?_⟩
        unfold ats
        simp (disch := omega) only [up_f, up_i, up_k]
        exact ⟨z1, z2, z3, z4, z5, z6, z7, z8, z9⟩
  · have h4 := q4 c2 r2 b2 hc2 hr2 hb2
    by_cases hx : 18 * c2 + 3 * r2 + b2 = 18 * c + 3 * r + b
    · rw [hx]
      simp (disch := omega) only [up_f, up_s]
      exact ⟨trivial, Or.inl trivial⟩
    · simp (disch := omega) only [up_f, up_k]
      refine ⟨h4.1, h4.2.imp id (fun ⟨j, hj, h5, h6⟩ => ⟨j, hj, h5, ?_⟩)⟩
      have hji : ¬ j = i := fun z => by
        subst z
        have := ats_u ha2 h6
        exact hx (by omega)
      obtain ⟨z1, z2, z3, z4, z5, z6, z7, z8, z9⟩ := h6
      unfold ats
      simp (disch := omega) only [up_f, up_i, up_k]
      exact ⟨z1, z2, z3, z4, z5, z6, z7, z8, z9⟩
  · simp (disch := omega) only [up_f]
    rw [q5]
    exact (psum_ext P (fun j hj => by simp (disch := omega) only [up_f])).symm
  · have key : ∀ F, F = 72 ∨ F = 74 → oneR B F (18 * c2 + 3 * r2) → oneR (up (up B 78 0 (18 * c + 3 * r + b) (-1)) 76 0 i (-1)) F (18 * c2 + 3 * r2) := fun F hF ho a d ha hd h1 h2 => by
      rw [up_f (by decide)] at h1 h2
      have e1 : ¬ 18 * c2 + 3 * r2 + a = 18 * c + 3 * r + b := fun z => by rw [z, up_s] at h1; exact h1 rfl
      have e2 : ¬ 18 * c2 + 3 * r2 + d = 18 * c + 3 * r + b := fun z => by rw [z, up_s] at h2; exact h2 rfl
      rw [up_k e1] at h1
      rw [up_k e2] at h2
      have g1 : up (up B 78 0 (18 * c + 3 * r + b) (-1)) 76 0 i (-1) 78 0 (18 * c2 + 3 * r2 + a) = B 78 0 (18 * c2 + 3 * r2 + a) := by rw [up_f (by decide), up_k e1]
      have g2 : up (up B 78 0 (18 * c + 3 * r + b) (-1)) 76 0 i (-1) 78 0 (18 * c2 + 3 * r2 + d) = B 78 0 (18 * c2 + 3 * r2 + d) := by rw [up_f (by decide), up_k e2]
      have gF : ∀ j, up (up B 78 0 (18 * c + 3 * r + b) (-1)) 76 0 i (-1) F 0 j = B F 0 j := fun j => by rw [up_f (by omega), up_f (by omega)]
      rw [g1, g2, gF, gF]
      exact ho a d ha hd h1 h2
    exact (q6 c2 r2 hc2 hr2).imp (key 72 (Or.inl rfl)) (key 74 (Or.inr rfl))
/-- all in the room are as said -/
def allR (B : Sg) (F x : Nat) (v : Int) : Prop := ∀ a, a < 3 → ¬ B 78 0 (x + a) = -1 → B F 0 (B 78 0 (x + a)).toNat = v
/-- a person lies down -/
theorem PP_place {S B : Sg} {P i c r b : Nat} (h : PPx S B P) (hi : i < P) (hn : nwh S B i) (hp : B 75 0 i = 0) (hc : c < 10) (hr : r < 6) (hb : b < 3) (hf : B 78 0 (18 * c + 3 * r + b) = -1) (ho : allR B 72 (18 * c + 3 * r) (B 72 0 i) ∨ allR B 74 (18 * c + 3 * r) (B 74 0 i)) :
    PPx (up (up (up (up S 1304 i 0 c) 1305 i 0 r) 1306 i 0 b) 40 0 (18 * c + 3 * r + b) i) (up (up (up B 78 0 (18 * c + 3 * r + b) i) 76 0 i c) 77 0 i (10 * r + b)) P := by
  obtain ⟨hP, q2, q3, q4, q5, q6⟩ := h
  have hnew : ats (up (up (up (up S 1304 i 0 c) 1305 i 0 r) 1306 i 0 b) 40 0 (18 * c + 3 * r + b) i) (up (up (up B 78 0 (18 * c + 3 * r + b) i) 76 0 i c) 77 0 i (10 * r + b)) i c r b := by
    unfold ats
    simp (disch := omega) only [up_f, up_s]
    exact ⟨hc, hr, hb, trivial, trivial, trivial, trivial, trivial, trivial⟩
  refine ⟨hP, fun j hj => ?_, fun j hj => ?_, fun c2 r2 b2 hc2 hr2 hb2 => ?_, ?_, fun c2 r2 hc2 hr2 => ?_⟩
  · have := q2 j hj
    by_cases hji : j = i
    · subst hji
      simp (disch := omega) only [up_f, up_s]
      omega
    · simp (disch := omega) only [up_f, up_i]
      exact this
  · by_cases hji : j = i
    · subst hji
      exact Or.inr ⟨by simp (disch := omega) only [up_f]; exact hp, c, r, b, hnew⟩
    · rcases q3 j hj with z | ⟨z0, c2, r2, b2, z1, z2, z3, z4, z5, z6, z7, z8, z9⟩
      · left
        unfold nwh at z ⊢
        simp (disch := omega) only [up_f, up_i, up_k]
        exact z
      · right
        have hx : ¬ 18 * c2 + 3 * r2 + b2 = 18 * c + 3 * r + b := fun z => by rw [z] at z9; omega
        refine ⟨by simp (disch := omega) only [up_f]; exact z0, c2, r2, b2, ?_⟩
        unfold ats
        simp (disch := omega) only [up_f, up_i, up_k]
        exact ⟨z1, z2, z3, z4, z5, z6, z7, z8, z9⟩
  · have h4 := q4 c2 r2 b2 hc2 hr2 hb2
    by_cases hx : 18 * c2 + 3 * r2 + b2 = 18 * c + 3 * r + b
    · obtain ⟨rfl, rfl, rfl⟩ := xyz hr2 hb2 hr hb hx
      refine ⟨by simp (disch := omega) only [up_f, up_s], Or.inr ⟨i, hi, by simp (disch := omega) only [up_f, up_s], hnew⟩⟩
    · refine ⟨by simp (disch := omega) only [up_f, up_k]; exact h4.1, ?_⟩
      rcases h4.2 with h5 | ⟨j, hj, h5, h6⟩
      · left
        simp (disch := omega) only [up_f, up_k]
        exact h5
      · right
        have hji : ¬ j = i := fun z => by
          subst z
          have := h6.2.2.2.1
          have := hn.1
          omega
        refine ⟨j, hj, by simp (disch := omega) only [up_f, up_k]; exact h5, ?_⟩
        obtain ⟨z1, z2, z3, z4, z5, z6, z7, z8, z9⟩ := h6
        unfold ats
        simp (disch := omega) only [up_f, up_i, up_k]
        exact ⟨z1, z2, z3, z4, z5, z6, z7, z8, z9⟩
  · simp (disch := omega) only [up_f]
    rw [q5]
    exact (psum_ext P (fun j hj => by simp (disch := omega) only [up_f])).symm
  · have hin : ((i : Nat) : Int).toNat = i := by omega
    by_cases hx : c2 = c ∧ r2 = r
    · obtain ⟨rfl, rfl⟩ := hx
      have key : ∀ F, F = 72 ∨ F = 74 → allR B F (18 * c2 + 3 * r2) (B F 0 i) → oneR (up (up (up B 78 0 (18 * c2 + 3 * r2 + b) i) 76 0 i c2) 77 0 i (10 * r2 + b)) F (18 * c2 + 3 * r2) := fun F hF ho a d ha hd h1 h2 => by
        have g : ∀ a, a < 3 → ¬ up (up (up B 78 0 (18 * c2 + 3 * r2 + b) i) 76 0 i c2) 77 0 i (10 * r2 + b) 78 0 (18 * c2 + 3 * r2 + a) = -1 → up (up (up B 78 0 (18 * c2 + 3 * r2 + b) i) 76 0 i c2) 77 0 i (10 * r2 + b) F 0 (up (up (up B 78 0 (18 * c2 + 3 * r2 + b) i) 76 0 i c2) 77 0 i (10 * r2 + b) 78 0 (18 * c2 + 3 * r2 + a)).toNat = B F 0 i := fun a ha h1 => by
          rw [up_f (by omega), up_f (by omega), up_f (by omega)]
          rw [up_f (show ¬ 78 = 77 by decide), up_f (show ¬ 78 = 76 by decide)] at h1 ⊢
          by_cases e : a = b
          · subst e
            rw [up_s, hin]
          · rw [up_k (by omega)] at h1 ⊢
            exact ho a ha h1
        rw [g a ha h1, g d hd h2]
      exact ho.imp (key 72 (Or.inl rfl)) (key 74 (Or.inr rfl))
    · have key : ∀ F, F = 72 ∨ F = 74 → oneR B F (18 * c2 + 3 * r2) → oneR (up (up (up B 78 0 (18 * c + 3 * r + b) i) 76 0 i c) 77 0 i (10 * r + b)) F (18 * c2 + 3 * r2) := fun F hF ho a d ha hd h1 h2 => by
        have e : ∀ a, a < 3 → ¬ 18 * c2 + 3 * r2 + a = 18 * c + 3 * r + b := fun a ha z => by
          have := xyz hr2 ha hr hb z
          exact hx ⟨this.1, this.2.1⟩
        have ea := e a ha
        have ed := e d hd
        have g1 : up (up (up B 78 0 (18 * c + 3 * r + b) i) 76 0 i c) 77 0 i (10 * r + b) 78 0 (18 * c2 + 3 * r2 + a) = B 78 0 (18 * c2 + 3 * r2 + a) := by rw [up_f (by decide), up_f (by decide), up_k ea]
        have g2 : up (up (up B 78 0 (18 * c + 3 * r + b) i) 76 0 i c) 77 0 i (10 * r + b) 78 0 (18 * c2 + 3 * r2 + d) = B 78 0 (18 * c2 + 3 * r2 + d) := by rw [up_f (by decide), up_f (by decide), up_k ed]
        have gF : ∀ j, up (up (up B 78 0 (18 * c + 3 * r + b) i) 76 0 i c) 77 0 i (10 * r + b) F 0 j = B F 0 j := fun j => by rw [up_f (by omega), up_f (by omega), up_f (by omega)]
        rw [g1] at h1
        rw [g2] at h2
        rw [g1, g2, gF, gF]
        exact ho a d ha hd h1 h2
      exact (q6 c2 r2 hc2 hr2).imp (key 72 (Or.inl rfl)) (key 74 (Or.inr rfl))
/-- a person is paid -/
theorem PP_pay {S B : Sg} {P i : Nat} {v : Int} (h : PPx S B P) (hi : i < P) (hn : nwh S B i) (hv : 0 ≤ v ∧ v ≤ 150) (hp : B 75 0 i = 0) : PPx (up (up S 1307 i 0 (S 1307 i 0 + v)) 1003 0 0 (S 1003 0 0 + v)) (up B 75 0 i (B 75 0 i + v)) P := by
  obtain ⟨hP, q2, q3, q4, q5, q6⟩ := h
  refine ⟨hP, fun j hj => ?_, fun j hj => ?_, fun c2 r2 b2 hc2 hr2 hb2 => ?_, ?_, fun c2 r2 hc2 hr2 => ?_⟩
  · have := q2 j hj
    by_cases hji : j = i
    · subst hji
      simp (disch := omega) only [up_f, up_s]
      omega
    · simp (disch := omega) only [up_f, up_i, up_k]
      exact this
  · by_cases hji : j = i
    · subst hji
      left
      unfold nwh at hn ⊢
      simp (disch := omega) only [up_f]
      exact hn
    · unfold nwh ats
      simp (disch := omega) only [up_f, up_k]
      exact q3 j hj
  · unfold ats
    simp (disch := omega) only [up_f]
    exact q4 c2 r2 b2 hc2 hr2 hb2
  · rw [psum_up P hi, up_s, q5]
  · unfold oneR
    simp (disch := omega) only [up_f]
    exact q6 c2 r2 hc2 hr2
