/-! ===== rooms of class and model: the lowest that has place, its bed ===== -/
theorem itec {p q : Prop} (dp : Decidable p) (dq : Decidable q) {a b c d : Int} (h : p ↔ q) (h1 : a = c) (h2 : b = d) : @ite Int p dp a b = @ite Int q dq c d := by
  subst h1 h2
  by_cases hp : p
  · rw [@if_pos _ dp hp, @if_pos _ dq (h.mp hp)]
  · rw [@if_neg _ dp hp, @if_neg _ dq (fun z => hp (h.mpr z))]
theorem rf_c {f g : Nat → Prop} {d : ∀ r, Decidable (f r)} {d2 : ∀ r, Decidable (g r)} (h : ∀ r, r < 6 → (f r ↔ g r)) : rf f d = rf g d2 := by
  unfold rf
  exact itec _ _ (h 0 (by omega)) rfl (itec _ _ (h 1 (by omega)) rfl (itec _ _ (h 2 (by omega)) rfl (itec _ _ (h 3 (by omega)) rfl (itec _ _ (h 4 (by omega)) rfl (itec _ _ (h 5 (by omega)) rfl rfl)))))
theorem rf_val {f : Nat → Prop} {d : ∀ r, Decidable (f r)} : rf f d = -1 ∨ ∃ r : Nat, r < 6 ∧ rf f d = r ∧ f r := by
  unfold rf
  split
  · rename_i h; exact Or.inr ⟨0, by omega, rfl, h⟩
  · split
    · rename_i h; exact Or.inr ⟨1, by omega, rfl, h⟩
    · split
      · rename_i h; exact Or.inr ⟨2, by omega, rfl, h⟩
      · split
        · rename_i h; exact Or.inr ⟨3, by omega, rfl, h⟩
        · split
          · rename_i h; exact Or.inr ⟨4, by omega, rfl, h⟩
          · split
            · rename_i h; exact Or.inr ⟨5, by omega, rfl, h⟩
            · exact Or.inl rfl
theorem bed_lt {S B : Sg} {P c r a : Nat} (h : PPx S B P) (hc : c < 10) (hr : r < 6) (ha : a < 3) : (B 78 0 (18 * c + 3 * r + a)).toNat < 40 ∧ -1 ≤ B 78 0 (18 * c + 3 * r + a) ∧ B 78 0 (18 * c + 3 * r + a) < 40 := by
  have hP := h.1
  rcases (h.2.2.2.1 c r a hc hr ha).2 with z | ⟨i, hi, h1, h2⟩
  · omega
  · omega
theorem bed_x {x : Nat} (hx : x < 180) : ∃ c r a, c < 10 ∧ r < 6 ∧ a < 3 ∧ x = 18 * c + 3 * r + a := ⟨x / 18, x % 18 / 3, x % 3, by omega, by omega, by omega, by omega⟩
theorem bed_78 {S B : Sg} {P : Nat} (h : PPx S B P) : ∀ x, x < 180 → -1 ≤ B 78 0 x ∧ B 78 0 x < 40 := fun x hx => by
  obtain ⟨c, r, a, hc, hr, ha, rfl⟩ := bed_x hx
  exact (bed_lt h hc hr ha).2
theorem bed_40 {S B : Sg} {P : Nat} (h : PPx S B P) : ∀ x, x < 180 → -1 ≤ S 40 0 x ∧ S 40 0 x < 40 := fun x hx => by
  obtain ⟨c, r, a, hc, hr, ha, rfl⟩ := bed_x hx
  rw [(h.2.2.2.1 c r a hc hr ha).1]
  exact (bed_lt h hc hr ha).2
theorem mhP_iff {S B : Sg} {P c r : Nat} {w p : Int} (h : PPx S B P) (hc : c < 10) (hr : r < 6) (hw : w = 0 ∨ w = 1) (hp : 0 ≤ p) : mhP B (18 * c + 3 * r) w p ↔ allR B 72 (18 * c + 3 * r) w ∨ allR B 74 (18 * c + 3 * r) p := by
  have q := fun a (ha : a < 3) => h.2.1 _ (bed_lt h hc hr ha).1
  have k := mh3_1 (n0 := B 78 0 (18 * c + 3 * r + 0)) (n1 := B 78 0 (18 * c + 3 * r + 1)) (n2 := B 78 0 (18 * c + 3 * r + 2)) (q 0 (by omega)).2.2.2.2.2.1 (q 1 (by omega)).2.2.2.2.2.1 (q 2 (by omega)).2.2.2.2.2.1 hp (q 0 (by omega)).2.2.2.2.2.2.2.2.1 (q 1 (by omega)).2.2.2.2.2.2.2.2.1 (q 2 (by omega)).2.2.2.2.2.2.2.2.1 hw
  unfold allR
  rw [all3, all3]
  exact k
theorem mhP_one {S B : Sg} {P c r : Nat} {p : Int} (h : PPx S B P) (hc : c < 10) (hr : r < 6) : mhP B (18 * c + 3 * r) (-1) p ↔ oneR B 72 (18 * c + 3 * r) ∨ oneR B 74 (18 * c + 3 * r) := by
  have q := fun a (ha : a < 3) => h.2.1 _ (bed_lt h hc hr ha).1
  have k := mh3_2 (n0 := B 78 0 (18 * c + 3 * r + 0)) (n1 := B 78 0 (18 * c + 3 * r + 1)) (n2 := B 78 0 (18 * c + 3 * r + 2)) (p := p) (q 0 (by omega)).2.2.2.2.2.1 (q 1 (by omega)).2.2.2.2.2.1 (q 2 (by omega)).2.2.2.2.2.1 (q 0 (by omega)).2.2.2.2.2.2.2.2.1 (q 1 (by omega)).2.2.2.2.2.2.2.2.1 (q 2 (by omega)).2.2.2.2.2.2.2.2.1
  have e : ∀ F, oneR B F (18 * c + 3 * r) ↔ ((¬ B 78 0 (18 * c + 3 * r + 0) = -1 → ¬ B 78 0 (18 * c + 3 * r + 1) = -1 → B F 0 (B 78 0 (18 * c + 3 * r + 0)).toNat = B F 0 (B 78 0 (18 * c + 3 * r + 1)).toNat) ∧ (¬ B 78 0 (18 * c + 3 * r + 0) = -1 → ¬ B 78 0 (18 * c + 3 * r + 2) = -1 → B F 0 (B 78 0 (18 * c + 3 * r + 0)).toNat = B F 0 (B 78 0 (18 * c + 3 * r + 2)).toNat) ∧ (¬ B 78 0 (18 * c + 3 * r + 1) = -1 → ¬ B 78 0 (18 * c + 3 * r + 2) = -1 → B F 0 (B 78 0 (18 * c + 3 * r + 1)).toNat = B F 0 (B 78 0 (18 * c + 3 * r + 2)).toNat)) := fun F => by
    constructor
    · intro z
      exact ⟨z 0 1 (by omega) (by omega), z 0 2 (by omega) (by omega), z 1 2 (by omega) (by omega)⟩
    · rintro ⟨z1, z2, z3⟩ a b ha hb h1 h2
      have : a = 0 ∨ a = 1 ∨ a = 2 := by omega
      have : b = 0 ∨ b = 1 ∨ b = 2 := by omega
      rcases ‹a = 0 ∨ a = 1 ∨ a = 2› with rfl | rfl | rfl <;> rcases ‹b = 0 ∨ b = 1 ∨ b = 2› with rfl | rfl | rfl
      · rfl
      · exact z1 h1 h2
      · exact z2 h1 h2
      · exact (z1 h2 h1).symm
      · rfl
      · exact z3 h1 h2
      · exact (z2 h2 h1).symm
      · exact (z3 h2 h1).symm
      · rfl
  rw [e 72, e 74]
  exact k
theorem fitM_iff {S B : Sg} {P c r : Nat} {w p : Int} (h : PPx S B P) (hc : c < 10) (hr : r < 6) (hw : w = 0 ∨ w = 1) (hp : 0 ≤ p) : fitM B c w p r ↔ fitN B (18 * c + 3 * r) w p := by
  unfold fitM fitN free3
  have hww : (if w = 0 then (0 : Int) else 1) = w := by
    rcases hw with rfl | rfl <;> rfl
  rw [hww, mhP_iff h hc hr hw hp]
theorem rf_eq {S B : Sg} {P c : Nat} {w p : Int} (h : PPx S B P) (hc : c < 10) (hw : w = 0 ∨ w = 1) (hp : 0 ≤ p) : rfI S c w p = rfM B c w p := by
  unfold rfI rfM
  exact rf_c (fun r hr => (fits_iff h hc hr).trans (fitM_iff h hc hr hw hp).symm)
/-- the room for such a person in the model's rows -/
theorem rfM_val {S B : Sg} {P c : Nat} {w p : Int} (h : PPx S B P) (hc : c < 10) (hw : w = 0 ∨ w = 1) (hp : 0 ≤ p) : rfM B c w p = -1 ∨ ∃ r : Nat, r < 6 ∧ rfM B c w p = r ∧ fitN B (18 * c + 3 * r) w p := by
  rcases rf_val (f := fitM B c w p) (d := fun _ => Classical.propDecidable _) with z | ⟨r, hr, z1, z2⟩
  · exact Or.inl z
  · exact Or.inr ⟨r, hr, z1, (fitM_iff h hc hr hw hp).mp z2⟩
/-- rooms whose beds and sleepers are the same have the same place -/
theorem rfM_ext {S B S2 B2 : Sg} {P P2 c : Nat} {w p : Int} (h : PPx S B P) (h2 : PPx S2 B2 P2) (hc : c < 10) (hw : w = 0 ∨ w = 1) (hp : 0 ≤ p) (k : ∀ r, r < 6 → (fitN B2 (18 * c + 3 * r) w p ↔ fitN B (18 * c + 3 * r) w p)) : rfM B2 c w p = rfM B c w p := by
  unfold rfM
  exact rf_c (fun r hr => (fitM_iff h2 hc hr hw hp).trans ((k r hr).trans (fitM_iff h hc hr hw hp).symm))
theorem fitN_ext {B B2 : Sg} {x : Nat} {w p : Int} (k : ∀ a, a < 3 → B2 78 0 (x + a) = B 78 0 (x + a)) (k2 : ∀ F a, (F = 72 ∨ F = 74) → a < 3 → ¬ B 78 0 (x + a) = -1 → B2 F 0 (B 78 0 (x + a)).toNat = B F 0 (B 78 0 (x + a)).toNat) : fitN B2 x w p ↔ fitN B x w p := by
  unfold fitN free3 allR
  rw [k 0 (by omega), k 1 (by omega), k 2 (by omega)]
  refine and_congr_right (fun _ => or_congr ?_ ?_)
  · refine forall_congr' (fun a => forall_congr' (fun ha => ?_))
    rw [k a ha]
    refine forall_congr' (fun hn => ?_)
    rw [k2 72 a (Or.inl rfl) ha hn]
  · refine forall_congr' (fun a => forall_congr' (fun ha => ?_))
    rw [k a ha]
    refine forall_congr' (fun hn => ?_)
    rw [k2 74 a (Or.inr rfl) ha hn]
noncomputable def bedB (B : Sg) (age : Int) (x : Nat) : Int := if age < 60 then fbH (fun b => B 78 0 (x + b)) else fbL (fun b => B 78 0 (x + b))
theorem bedB_val {B : Sg} {age : Int} {x : Nat} (h : free3 B x) : ∃ b : Nat, b < 3 ∧ bedB B age x = b ∧ B 78 0 (x + b) = -1 := by
  have := fb_free (f := fun b => B 78 0 (x + b)) h
  unfold bedB
  split
  · exact this.2
  · exact this.1
theorem fb_c {f g : Nat → Int} (h : ∀ a, a < 3 → f a = g a) : fbL f = fbL g ∧ fbH f = fbH g := by
  unfold fbL fbH
  rw [h 0 (by omega), h 1 (by omega), h 2 (by omega)]
  exact ⟨rfl, rfl⟩
/-- persons' families -/
def peF (f : Nat) : Bool := Nat.beq f 40 || Nat.beq f 1003 || (Nat.ble 1300 f && Nat.ble f 1307)
def pmF (f : Nat) : Bool := Nat.ble 72 f && Nat.ble f 78
theorem PP_ext {S B S2 B2 : Sg} {P : Nat} (h : PPx S B P) (k1 : ∀ f i j, peF f = true → S2 f i j = S f i j) (k2 : ∀ f j, pmF f = true → B2 f 0 j = B f 0 j) : PPx S2 B2 P := by
  have hs : psum B2 P = psum B P := psum_ext P (fun i _ => k2 75 i rfl)
  unfold PPx Q2 Q3 Q4 Q6 oneR nwh ats at h ⊢
  simp only [hs, k1 40 _ _ rfl, k1 1003 _ _ rfl, k1 1300 _ _ rfl, k1 1301 _ _ rfl, k1 1302 _ _ rfl, k1 1303 _ _ rfl, k1 1304 _ _ rfl, k1 1305 _ _ rfl, k1 1306 _ _ rfl, k1 1307 _ _ rfl, k2 72 _ rfl, k2 73 _ rfl, k2 74 _ rfl, k2 75 _ rfl, k2 76 _ rfl, k2 77 _ rfl, k2 78 _ rfl]
  exact h
/-- a person more, who sleeps nowhere -/
theorem PP_new {S B : Sg} {P : Nat} {w g p : Int} (h : PPx S B P) (hP : P < 40) (hw : w = 0 ∨ w = 1) (hg : 0 ≤ g ∧ g ≤ 99) (hp : 0 ≤ p ∧ p ≤ 9) : PPx (up (up (up S 1301 P 0 w) 1302 P 0 g) 1303 P 0 p) (up (up (up (up B 72 0 P w) 73 0 P g) 74 0 P p) 76 0 P (-1)) (P + 1) := by
  obtain ⟨hP2, q2, q3, q4, q5, q6⟩ := h
  refine ⟨by omega, fun j hj => ?_, fun j hj => ?_, fun c2 r2 b2 hc2 hr2 hb2 => ?_, ?_, fun c2 r2 hc2 hr2 => ?_⟩
  · have := q2 j hj
    by_cases hji : j = P
    · subst hji
      simp (disch := omega) only [up_f, up_s, true_and]
      omega
    · simp (disch := omega) only [up_f, up_i, up_k]
      omega
  · by_cases hji : j = P
    · subst hji
      have := q2 j hP
      left
      unfold nwh
      simp (disch := omega) only [up_f, up_s, true_and]
      omega
    · have := q3 j (by omega)
      unfold nwh ats at this ⊢
      simp (disch := omega) only [up_f, up_k]
      exact this
  · have h4 := q4 c2 r2 b2 hc2 hr2 hb2
    refine ⟨by simp (disch := omega) only [up_f]; exact h4.1, ?_⟩
    rcases h4.2 with z | ⟨i, hi, z1, z2⟩
    · left
      simp (disch := omega) only [up_f]
      exact z
    · right
      refine ⟨i, by omega, by simp (disch := omega) only [up_f]; exact z1, ?_⟩
      unfold ats at z2 ⊢
      simp (disch := omega) only [up_f, up_k]
      exact z2
  · have := (q2 P hP).2.2.2.2.2.2.2.2.2.2.2.2 (by omega)
    unfold psum
    simp (disch := omega) only [up_f]
    rw [this.1, Int.add_zero, q5]
    exact (psum_ext (B := B) P (fun i hi => by simp (disch := omega) only [up_f])).symm
  · have e78 : ∀ x, up (up (up (up B 72 0 P w) 73 0 P g) 74 0 P p) 76 0 P (-1) 78 0 x = B 78 0 x := fun x => by simp (disch := omega) only [up_f]
    have eF : ∀ a, a < 3 → ¬ B 78 0 (18 * c2 + 3 * r2 + a) = -1 → ∀ F, F = 72 ∨ F = 74 → up (up (up (up B 72 0 P w) 73 0 P g) 74 0 P p) 76 0 P (-1) F 0 (B 78 0 (18 * c2 + 3 * r2 + a)).toNat = B F 0 (B 78 0 (18 * c2 + 3 * r2 + a)).toNat := fun a ha hn F hF => by
      rcases (q4 c2 r2 a hc2 hr2 ha).2 with z | ⟨i, hi, z1, z2⟩
      · exact absurd z hn
      · have : ¬ (B 78 0 (18 * c2 + 3 * r2 + a)).toNat = P := by omega
        simp only [up]
        simp only [this, and_false, if_false]
    have key : ∀ F, F = 72 ∨ F = 74 → oneR B F (18 * c2 + 3 * r2) → oneR (up (up (up (up B 72 0 P w) 73 0 P g) 74 0 P p) 76 0 P (-1)) F (18 * c2 + 3 * r2) := fun F hF ho a d ha hd h1 h2 => by
      rw [e78] at h1 h2
      rw [e78, e78, eF a ha h1 F hF, eF d hd h2 F hF]
      exact ho a d ha hd h1 h2
    exact (q6 c2 r2 hc2 hr2).imp (key 72 (Or.inl rfl)) (key 74 (Or.inr rfl))
