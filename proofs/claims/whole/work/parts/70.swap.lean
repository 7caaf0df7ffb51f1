/-! ===== two persons change beds (pure) ===== -/
def swB (B : Sg) (i j c r b c2 r2 b2 : Nat) : Sg := up (up (up (up (up (up B 78 0 (18 * c + 3 * r + b) j) 78 0 (18 * c2 + 3 * r2 + b2) i) 76 0 i c2) 77 0 i (10 * r2 + b2)) 76 0 j c) 77 0 j (10 * r + b)
def swS (S : Sg) (i j c r b c2 r2 b2 : Nat) : Sg := up (up (up (up (up (up (up (up S 1304 i 0 c2) 1305 i 0 r2) 1306 i 0 b2) 40 0 (18 * c2 + 3 * r2 + b2) i) 1304 j 0 c) 1305 j 0 r) 1306 j 0 b) 40 0 (18 * c + 3 * r + b) j
theorem swB_f {B : Sg} {i j c r b c2 r2 b2 f a k : Nat} (h : ¬ f = 76 ∧ ¬ f = 77 ∧ ¬ f = 78) : swB B i j c r b c2 r2 b2 f a k = B f a k := by
  unfold swB
  simp (disch := omega) only [up_f]
theorem swB_78 {B : Sg} {i j c r b c2 r2 b2 k : Nat} : swB B i j c r b c2 r2 b2 78 0 k = if k = 18 * c2 + 3 * r2 + b2 then (i : Int) else if k = 18 * c + 3 * r + b then (j : Int) else B 78 0 k := by
  unfold swB
  simp (disch := omega) only [up_f]
  by_cases h : k = 18 * c2 + 3 * r2 + b2
  · subst h; rw [up_s, if_pos rfl]
  · rw [up_k h, if_neg h]
    by_cases h2 : k = 18 * c + 3 * r + b
    · subst h2; rw [up_s, if_pos rfl]
    · rw [up_k h2, if_neg h2]
/-- the room of the one, with the other -/
theorem one_iff {S B : Sg} {P i j c r b c2 r2 b2 F : Nat} (h : PPx S B P) (hij : ¬ i = j) (ha : ats S B i c r b) (hd : ats S B j c2 r2 b2) (hx : ¬ (c = c2 ∧ r = r2)) (hF : F = 72 ∨ F = 74) :
    (∀ a, a < 3 → ¬ B 78 0 (18 * c + 3 * r + a) = -1 → ¬ B 78 0 (18 * c + 3 * r + a) = i → B F 0 (B 78 0 (18 * c + 3 * r + a)).toNat = B F 0 j) ↔ oneR (swB B i j c r b c2 r2 b2) F (18 * c + 3 * r) := by
  obtain ⟨a1, a2, a3, a4, a5, a6, a7, a8, a9⟩ := ha
  obtain ⟨d1, d2, d3, d4, d5, d6, d7, d8, d9⟩ := hd
  have hjn : ((j : Nat) : Int).toNat = j := by omega
  have e : ∀ a, a < 3 → swB B i j c r b c2 r2 b2 78 0 (18 * c + 3 * r + a) = if a = b then (j : Int) else B 78 0 (18 * c + 3 * r + a) := fun a ha => by
    rw [swB_78, if_neg (fun z => hx (by have := xyz a2 ha d2 d3 z; exact ⟨this.1, this.2.1⟩))]
    by_cases hab : a = b
    · subst hab; rw [if_pos rfl, if_pos rfl]
    · rw [if_neg (by omega), if_neg hab]
  have eF : ∀ k, swB B i j c r b c2 r2 b2 F 0 k = B F 0 k := fun k => swB_f (by omega)
  unfold oneR
  constructor
  · intro z a d ha hd h1 h2
    have g : ∀ a, a < 3 → ¬ swB B i j c r b c2 r2 b2 78 0 (18 * c + 3 * r + a) = -1 → B F 0 (swB B i j c r b c2 r2 b2 78 0 (18 * c + 3 * r + a)).toNat = B F 0 j := fun a ha h1 => by
      rw [e a ha] at h1 ⊢
      by_cases hab : a = b
      · rw [if_pos hab, hjn]
      · rw [if_neg hab] at h1 ⊢
        refine z a ha h1 (fun hz => ?_)
        rcases (h.2.2.2.1 c r a a1 a2 ha).2 with w | ⟨i2, w1, w2, w3⟩
        · exact h1 w
        · have : i2 = i := by omega
          subst this
          have := w3.2.2.2.2.1
          omega
    rw [eF, eF, g a ha h1, g d hd h2]
  · intro z a ha h1 h2
    have hab : ¬ a = b := fun hab => by subst hab; exact h2 a9
    have z1 := z a b ha a3 (by rw [e a ha, if_neg hab]; exact h1) (by rw [e b a3, if_pos rfl]; omega)
    rw [eF, eF, e a ha, if_neg hab, e b a3, if_pos rfl, hjn] at z1
    exact z1
/-- another room -/
theorem one_oth {B : Sg} {i j c r b c2 r2 b2 F c3 r3 : Nat} (hr : r < 6) (hb : b < 3) (hr2 : r2 < 6) (hb2 : b2 < 3) (hr3 : r3 < 6) (h1 : ¬ (c3 = c ∧ r3 = r)) (h2 : ¬ (c3 = c2 ∧ r3 = r2)) (hF : F = 72 ∨ F = 74) (h : oneR B F (18 * c3 + 3 * r3)) : oneR (swB B i j c r b c2 r2 b2) F (18 * c3 + 3 * r3) := by
  have e : ∀ a, a < 3 → swB B i j c r b c2 r2 b2 78 0 (18 * c3 + 3 * r3 + a) = B 78 0 (18 * c3 + 3 * r3 + a) := fun a ha => by
    rw [swB_78, if_neg (fun z => h2 (by have := xyz hr3 ha hr2 hb2 z; exact ⟨this.1, this.2.1⟩)), if_neg (fun z => h1 (by have := xyz hr3 ha hr hb z; exact ⟨this.1, this.2.1⟩))]
  have eF : ∀ k, swB B i j c r b c2 r2 b2 F 0 k = B F 0 k := fun k => swB_f (by omega)
  intro a d ha hd h1 h2
  rw [e a ha] at h1
  rw [e d hd] at h2
  rw [e a ha, e d hd, eF, eF]
  exact h a d ha hd h1 h2
/-- one room -/
theorem one_same {B : Sg} {i j c r b b2 F : Nat} (hr : r < 6) (hb : b < 3) (hb2 : b2 < 3) (hi : B 78 0 (18 * c + 3 * r + b) = i) (hj : B 78 0 (18 * c + 3 * r + b2) = j) (hF : F = 72 ∨ F = 74) (h : oneR B F (18 * c + 3 * r)) : oneR (swB B i j c r b c r b2) F (18 * c + 3 * r) := by
  have eF : ∀ k, swB B i j c r b c r b2 F 0 k = B F 0 k := fun k => swB_f (by omega)
  have key : ∀ a, a < 3 → ¬ swB B i j c r b c r b2 78 0 (18 * c + 3 * r + a) = -1 → ∃ a2, a2 < 3 ∧ swB B i j c r b c r b2 78 0 (18 * c + 3 * r + a) = B 78 0 (18 * c + 3 * r + a2) ∧ ¬ B 78 0 (18 * c + 3 * r + a2) = -1 := fun a ha hn => by
    rw [swB_78] at hn ⊢
    by_cases h1 : 18 * c + 3 * r + a = 18 * c + 3 * r + b2
    · rw [if_pos h1]
      exact ⟨b, hb, hi.symm, by omega⟩
    · rw [if_neg h1] at hn ⊢
      by_cases h2 : 18 * c + 3 * r + a = 18 * c + 3 * r + b
      · rw [if_pos h2]
        exact ⟨b2, hb2, hj.symm, by omega⟩
      · rw [if_neg h2] at hn ⊢
        exact ⟨a, ha, rfl, hn⟩
  intro a d ha hd h1 h2
  obtain ⟨a2, k1, k2, k3⟩ := key a ha h1
  obtain ⟨d2, l1, l2, l3⟩ := key d hd h2
  rw [k2, l2, eF, eF]
  exact h a2 d2 k1 l1 k3 l3
theorem PP_swap {S B : Sg} {P i j c r b c2 r2 b2 : Nat} (h : PPx S B P) (hi : i < P) (hj : j < P) (hij : ¬ i = j) (ha : ats S B i c r b) (hd : ats S B j c2 r2 b2) (o1 : oneR (swB B i j c r b c2 r2 b2) 72 (18 * c + 3 * r) ∨ oneR (swB B i j c r b c2 r2 b2) 74 (18 * c + 3 * r)) (o2 : oneR (swB B i j c r b c2 r2 b2) 72 (18 * c2 + 3 * r2) ∨ oneR (swB B i j c r b c2 r2 b2) 74 (18 * c2 + 3 * r2)) : PPx (swS S i j c r b c2 r2 b2) (swB B i j c r b c2 r2 b2) P := by
  obtain ⟨hP, q2, q3, q4, q5, q6⟩ := h
  have ha0 := ha
  have hd0 := hd
  obtain ⟨a1, a2, a3, a4, a5, a6, a7, a8, a9⟩ := ha
  obtain ⟨d1, d2, d3, d4, d5, d6, d7, d8, d9⟩ := hd
  have hxx : ¬ 18 * c + 3 * r + b = 18 * c2 + 3 * r2 + b2 := fun z => by rw [z] at a9; omega
  have ni : ats (swS S i j c r b c2 r2 b2) (swB B i j c r b c2 r2 b2) i c2 r2 b2 := by
    unfold ats
    rw [swB_78, if_pos rfl]
    unfold swS swB
    simp (disch := omega) only [up_f, up_i, up_k, up_s]
    exact ⟨d1, d2, d3, trivial, trivial, trivial, trivial, trivial, trivial⟩
  have nj : ats (swS S i j c r b c2 r2 b2) (swB B i j c r b c2 r2 b2) j c r b := by
    unfold ats
    rw [swB_78, if_neg hxx, if_pos rfl]
    unfold swS swB
    simp (disch := omega) only [up_f, up_i, up_k, up_s]
    exact ⟨a1, a2, a3, trivial, trivial, trivial, trivial, trivial, trivial⟩
  have e75 : ∀ k, swB B i j c r b c2 r2 b2 75 0 k = B 75 0 k := fun k => swB_f (by omega)
  have oth : ∀ k c3 r3 b3, ¬ k = i → ¬ k = j → ats S B k c3 r3 b3 → ats (swS S i j c r b c2 r2 b2) (swB B i j c r b c2 r2 b2) k c3 r3 b3 := fun k c3 r3 b3 hki hkj hk => by
    obtain ⟨k1, k2, k3, k4, k5, k6, k7, k8, k9⟩ := hk
    have h1 : ¬ 18 * c3 + 3 * r3 + b3 = 18 * c2 + 3 * r2 + b2 := fun z => by rw [z] at k9; omega
    have h2 : ¬ 18 * c3 + 3 * r3 + b3 = 18 * c + 3 * r + b := fun z => by rw [z] at k9; omega
    unfold ats
    rw [swB_78, if_neg h1, if_neg h2]
    unfold swS swB
    simp (disch := omega) only [up_f, up_i, up_k]
    exact ⟨k1, k2, k3, k4, k5, k6, k7, k8, k9⟩
  refine ⟨hP, fun k hk => ?_, fun k hk => ?_, fun c3 r3 b3 h1 h2 h3 => ?_, ?_, fun c3 r3 h1 h2 => ?_⟩
  · have := q2 k hk
    unfold swS
    rw [swB_f (by omega), swB_f (by omega), swB_f (by omega), swB_f (by omega)]
    by_cases hki : k = i
    · subst hki
      simp (disch := omega) only [up_f, up_i, up_s]
      omega
    · by_cases hkj : k = j
      · subst hkj
        simp (disch := omega) only [up_f, up_i, up_s]
        omega
      · simp (disch := omega) only [up_f, up_i]
        exact this
  · rw [e75]
    by_cases hki : k = i
    · subst hki
      rcases q3 k hk with z | z
      · have := z.1; omega
      · exact Or.inr ⟨z.1, _, _, _, ni⟩
    · by_cases hkj : k = j
      · subst hkj
        rcases q3 k hk with z | z
        · have := z.1; omega
        · exact Or.inr ⟨z.1, _, _, _, nj⟩
      · rcases q3 k hk with z | ⟨z0, c3, r3, b3, z⟩
        · left
          unfold nwh at z ⊢
          unfold swS swB
          simp (disch := omega) only [up_f, up_i, up_k]
          exact z
        · exact Or.inr ⟨z0, c3, r3, b3, oth k c3 r3 b3 hki hkj z⟩
  · have h4 := q4 c3 r3 b3 h1 h2 h3
    by_cases hx1 : 18 * c3 + 3 * r3 + b3 = 18 * c2 + 3 * r2 + b2
    · obtain ⟨rfl, rfl, rfl⟩ := xyz h2 h3 d2 d3 hx1
      have e40 : swS S i j c r b c3 r3 b3 40 0 (18 * c3 + 3 * r3 + b3) = i := by
        unfold swS
        simp (disch := omega) only [up_f, up_k, up_s]
      have e78 : swB B i j c r b c3 r3 b3 78 0 (18 * c3 + 3 * r3 + b3) = i := by rw [swB_78, if_pos rfl]
      exact ⟨e40.trans e78.symm, Or.inr ⟨i, hi, e78, ni⟩⟩
    · by_cases hx2 : 18 * c3 + 3 * r3 + b3 = 18 * c + 3 * r + b
      · obtain ⟨rfl, rfl, rfl⟩ := xyz h2 h3 a2 a3 hx2
        have e40 : swS S i j c3 r3 b3 c2 r2 b2 40 0 (18 * c3 + 3 * r3 + b3) = j := by
          unfold swS
          simp (disch := omega) only [up_s]
        have e78 : swB B i j c3 r3 b3 c2 r2 b2 78 0 (18 * c3 + 3 * r3 + b3) = j := by rw [swB_78, if_neg hx1, if_pos rfl]
        exact ⟨e40.trans e78.symm, Or.inr ⟨j, hj, e78, nj⟩⟩
      · have e40 : swS S i j c r b c2 r2 b2 40 0 (18 * c3 + 3 * r3 + b3) = S 40 0 (18 * c3 + 3 * r3 + b3) := by
          unfold swS
          simp (disch := omega) only [up_f, up_k]
        have e78 : swB B i j c r b c2 r2 b2 78 0 (18 * c3 + 3 * r3 + b3) = B 78 0 (18 * c3 + 3 * r3 + b3) := by rw [swB_78, if_neg hx1, if_neg hx2]
        rw [e40, e78]
        refine ⟨h4.1, h4.2.imp id (fun ⟨k, w1, w2, w3⟩ => ⟨k, w1, w2, oth k _ _ _ (fun z => ?_) (fun z => ?_) w3⟩)⟩
        · subst z
          have := ats_u ha0 w3
          exact hx2 (by omega)
        · subst z
          have := ats_u hd0 w3
          exact hx1 (by omega)
  · rw [psum_ext (B := B) P (fun k _ => e75 k), ← q5]
    unfold swS
    simp (disch := omega) only [up_f]
  · by_cases hx1 : c3 = c ∧ r3 = r
    · rw [hx1.1, hx1.2]; exact o1
    · by_cases hx2 : c3 = c2 ∧ r3 = r2
      · rw [hx2.1, hx2.2]; exact o2
      · exact (q6 c3 r3 h1 h2).imp (one_oth a2 a3 d2 d3 h2 hx1 hx2 (Or.inl rfl)) (one_oth a2 a3 d2 d3 h2 hx1 hx2 (Or.inr rfl))
/-- the model's question of the rooms behind the change -/
theorem mhP_two {B : Sg} {x : Nat} {p : Int} (q : ∀ a, a < 3 → (B 72 0 (B 78 0 (x + a)).toNat = 0 ∨ B 72 0 (B 78 0 (x + a)).toNat = 1) ∧ 0 ≤ B 74 0 (B 78 0 (x + a)).toNat) : mhP B x (-1) p ↔ oneR B 72 x ∨ oneR B 74 x := by
  have k := mh3_2 (n0 := B 78 0 (x + 0)) (n1 := B 78 0 (x + 1)) (n2 := B 78 0 (x + 2)) (p := p) (q 0 (by omega)).1 (q 1 (by omega)).1 (q 2 (by omega)).1 (q 0 (by omega)).2 (q 1 (by omega)).2 (q 2 (by omega)).2
  have e : ∀ F, oneR B F x ↔ ((¬ B 78 0 (x + 0) = -1 → ¬ B 78 0 (x + 1) = -1 → B F 0 (B 78 0 (x + 0)).toNat = B F 0 (B 78 0 (x + 1)).toNat) ∧ (¬ B 78 0 (x + 0) = -1 → ¬ B 78 0 (x + 2) = -1 → B F 0 (B 78 0 (x + 0)).toNat = B F 0 (B 78 0 (x + 2)).toNat) ∧ (¬ B 78 0 (x + 1) = -1 → ¬ B 78 0 (x + 2) = -1 → B F 0 (B 78 0 (x + 1)).toNat = B F 0 (B 78 0 (x + 2)).toNat)) := fun F => by
    constructor
    · intro z
      exact ⟨z 0 1 (by omega) (by omega), z 0 2 (by omega) (by omega), z 1 2 (by omega) (by omega)⟩
    · rintro ⟨z1, z2, z3⟩ a b ha hb h1 h2
      have : a = 0 ∨ a = 1 ∨ a = 2 := by omega
      have : b = 0 ∨ b = 1 ∨ b = 2 := by omega
      rcases ‹a = 0 ∨ a = 1 ∨ a = 2› with rfl | rfl | rfl <;> rcases ‹b = 0 ∨ b = 1 ∨ b = 2› with rfl | rfl | rfl
      · rfl
      · exact z1 h1 h2
      · exact z2 h1 h2
      · exact (z1 h2 h1).symm
      · rfl
      · exact z3 h1 h2
      · exact (z2 h2 h1).symm
      · exact (z3 h2 h1).symm
      · rfl
  rw [e 72, e 74]
  exact k
/-- the class's question, and the rooms behind the change -/
theorem may_iff {S B : Sg} {P i j c r b c2 r2 b2 : Nat} (h : PPx S B P) (hi : i < P) (hj : j < P) (hij : ¬ i = j) (ha : ats S B i c r b) (hd : ats S B j c2 r2 b2) :
    ((¬ hx (S 40 0) (fun q => S 1301 q 0) (18 * c + 3 * r) (S 1300 i 0) (S 1301 j 0) = 0 ∨ ¬ hx (S 40 0) (fun q => S 1303 q 0) (18 * c + 3 * r) (S 1300 i 0) (S 1303 j 0) = 0) ∧ (¬ hx (S 40 0) (fun q => S 1301 q 0) (18 * c2 + 3 * r2) (S 1300 j 0) (S 1301 i 0) = 0 ∨ ¬ hx (S 40 0) (fun q => S 1303 q 0) (18 * c2 + 3 * r2) (S 1300 j 0) (S 1303 i 0) = 0)) ↔
    ((oneR (swB B i j c r b c2 r2 b2) 72 (18 * c + 3 * r) ∨ oneR (swB B i j c r b c2 r2 b2) 74 (18 * c + 3 * r)) ∧ (oneR (swB B i j c r b c2 r2 b2) 72 (18 * c2 + 3 * r2) ∨ oneR (swB B i j c r b c2 r2 b2) 74 (18 * c2 + 3 * r2))) := by
  have hP := h.1
  have q2 := h.2.1
  have key : ∀ c r, c < 10 → r < 6 → ∀ (F F2 : Nat) (g : Int) (v : Int), (∀ k, k < 40 → S F k 0 = B F2 0 k) → ((¬ hx (S 40 0) (fun q => S F q 0) (18 * c + 3 * r) g v = 0) ↔ ∀ a, a < 3 → ¬ B 78 0 (18 * c + 3 * r + a) = -1 → ¬ B 78 0 (18 * c + 3 * r + a) = g → B F2 0 (B 78 0 (18 * c + 3 * r + a)).toNat = v) := fun c r hc hr F F2 g v hF => by
    rw [hx_iff]
    refine forall_congr' (fun a => forall_congr' (fun ha => ?_))
    rw [(h.2.2.2.1 c r a hc hr ha).1]
    rw [hF _ (bed_lt h hc hr ha).1]
  have e1 := (q2 i (by omega)).1
  have e2 := (q2 j (by omega)).1
  rw [e1, e2, (q2 i (by omega)).2.1, (q2 j (by omega)).2.1, (q2 i (by omega)).2.2.2.1, (q2 j (by omega)).2.2.2.1]
  rw [key c r ha.1 ha.2.1 1301 72 _ _ (fun k hk => (q2 k hk).2.1), key c r ha.1 ha.2.1 1303 74 _ _ (fun k hk => (q2 k hk).2.2.2.1), key c2 r2 hd.1 hd.2.1 1301 72 _ _ (fun k hk => (q2 k hk).2.1), key c2 r2 hd.1 hd.2.1 1303 74 _ _ (fun k hk => (q2 k hk).2.2.2.1)]
  by_cases hx : c = c2 ∧ r = r2
  · obtain ⟨rfl, rfl⟩ := hx
    have hi78 := ha.2.2.2.2.2.2.2.2
    have hj78 := hd.2.2.2.2.2.2.2.2
    have hin : ((i : Nat) : Int).toNat = i := by omega
    have hjn : ((j : Nat) : Int).toNat = j := by omega
    have k1 : ∀ F, oneR B F (18 * c + 3 * r) → (∀ a, a < 3 → ¬ B 78 0 (18 * c + 3 * r + a) = -1 → ¬ B 78 0 (18 * c + 3 * r + a) = i → B F 0 (B 78 0 (18 * c + 3 * r + a)).toNat = B F 0 j) ∧ (∀ a, a < 3 → ¬ B 78 0 (18 * c + 3 * r + a) = -1 → ¬ B 78 0 (18 * c + 3 * r + a) = j → B F 0 (B 78 0 (18 * c + 3 * r + a)).toNat = B F 0 i) := fun F ho => by
      refine ⟨fun a h3 h4 h5 => ?_, fun a h3 h4 h5 => ?_⟩
      · have := ho a b2 h3 hd.2.2.1 h4 (by omega)
        rw [hj78, hjn] at this
        exact this
      · have := ho a b h3 ha.2.2.1 h4 (by omega)
        rw [hi78, hin] at this
        exact this
    have q6 := h.2.2.2.2.2 c r ha.1 ha.2.1
    constructor
    · intro _
      have := q6.imp (one_same (i := i) (j := j) (b := b) (b2 := b2) ha.2.1 ha.2.2.1 hd.2.2.1 hi78 hj78 (Or.inl rfl)) (one_same (i := i) (j := j) (b := b) (b2 := b2) ha.2.1 ha.2.2.1 hd.2.2.1 hi78 hj78 (Or.inr rfl))
      exact ⟨this, this⟩
    · intro _
      rcases q6 with z | z
      · exact ⟨Or.inl (k1 72 z).1, Or.inl (k1 72 z).2⟩
      · exact ⟨Or.inr (k1 74 z).1, Or.inr (k1 74 z).2⟩
  · have hx2 : ¬ (c2 = c ∧ r2 = r) := fun z => hx ⟨z.1.symm, z.2.symm⟩
    have hsym : ∀ F, (F = 72 ∨ F = 74) → (oneR (swB B i j c r b c2 r2 b2) F (18 * c2 + 3 * r2) ↔ oneR (swB B j i c2 r2 b2 c r b) F (18 * c2 + 3 * r2)) := fun F hF => by
      have hne : ¬ 18 * c + 3 * r + b = 18 * c2 + 3 * r2 + b2 := fun z => by
        have z1 := ha.2.2.2.2.2.2.2.2
        have z2 := hd.2.2.2.2.2.2.2.2
        rw [z] at z1
        omega
      have e : ∀ k, swB B i j c r b c2 r2 b2 78 0 k = swB B j i c2 r2 b2 c r b 78 0 k := fun k => by
        rw [swB_78, swB_78]
        by_cases h1 : k = 18 * c2 + 3 * r2 + b2
        · rw [if_pos h1, if_neg (by omega), if_pos h1]
        · rw [if_neg h1, if_neg h1]
      have eF : ∀ k, swB B i j c r b c2 r2 b2 F 0 k = swB B j i c2 r2 b2 c r b F 0 k := fun k => by rw [swB_f (by omega), swB_f (by omega)]
      unfold oneR
      simp only [e, eF]
    rw [one_iff h hij ha hd hx (Or.inl rfl), one_iff h hij ha hd hx (Or.inr rfl), one_iff h (fun z => hij z.symm) hd ha hx2 (Or.inl rfl), one_iff h (fun z => hij z.symm) hd ha hx2 (Or.inr rfl), hsym 72 (Or.inl rfl), hsym 74 (Or.inr rfl)]
