/-! ===== the class's plan and nights beside D and N ===== -/
def LA (f : Nat → Int) (p : List Nat) : Prop := ∀ (j c : Nat), p[j]? = some c → f j = (c : Int)
theorem LA_nil {f : Nat → Int} : LA f [] := fun j c h => by simp at h
theorem LA_cons {f : Nat → Int} {c : Nat} {r : List Nat} : LA f (c :: r) ↔ f 0 = c ∧ LA (fun j => f (j + 1)) r := by
  constructor
  · intro h
    exact ⟨h 0 c (by simp), fun j d hd => h (j + 1) d (by simpa using hd)⟩
  · rintro ⟨h1, h2⟩ j d hd
    cases j with
    | zero => simp at hd; rw [h1, hd]
    | succ j => exact h2 j d (by simpa using hd)
theorem LA_ext {f g : Nat → Int} {p : List Nat} (h : ∀ j, j < p.length → g j = f j) (k : LA f p) : LA g p := fun j c hc => by
  rw [h j (List.getElem?_eq_some_iff.mp hc).1]
  exact k j c hc
theorem LA_snoc {f : Nat → Int} {p : List Nat} {c : Nat} (k : LA f p) (h : f p.length = c) : LA f (p ++ [c]) := fun j d hd => by
  rw [List.getElem?_append] at hd
  split at hd
  · exact k j d hd
  · rename_i hj
    have h1 := (List.getElem?_eq_some_iff.mp hd).1
    rw [List.length_singleton] at h1
    have h2 : j = p.length := by omega
    subst h2
    simp at hd
    rw [h, hd]
theorem LA_app {f : Nat → Int} {p r : List Nat} : LA f (p ++ r) ↔ LA f p ∧ LA (fun j => f (p.length + j)) r := by
  constructor
  · intro h
    exact ⟨fun j c hc => h j c (by rw [List.getElem?_append_left (List.getElem?_eq_some_iff.mp hc).1]; exact hc), fun j c hc => h (p.length + j) c (by rw [List.getElem?_append_right (by omega)]; simpa using hc)⟩
  · rintro ⟨h1, h2⟩ j c hc
    rw [List.getElem?_append] at hc
    split at hc
    · exact h1 j c hc
    · rename_i hj
      have := h2 (j - p.length) c hc
      simp only at this
      rw [show p.length + (j - p.length) = j by omega] at this
      exact this
theorem LA_take {f : Nat → Int} {p : List Nat} {z : Nat} (k : LA f p) : LA f (p.take z) := fun j c hc => by
  rw [List.getElem?_take] at hc
  split at hc
  · exact k j c hc
  · cases hc

def PC (D S : Sg) : Prop :=
  (S 1403 0 0 = D 2004 0 0 ∧ S 1405 0 0 = D 2014 0 0) ∧
  (∀ t, t < 6 → S 1700 t 0 = D 54 0 t ∧ S 1701 t 0 = D 52 0 t) ∧
  (∀ t k, t < 6 → k < 6 → S 10 t k = D 55 0 (6 * t + k) ∧ S 11 t k = D 56 0 (6 * t + k) ∧ S 12 t k = D 57 0 (6 * t + k) ∧ S 13 t k = D 60 0 (6 * t + k) ∧ S 14 t k = D 58 0 (6 * t + k) ∧ S 15 t k = D 59 0 (6 * t + k)) ∧
  (∀ t a, t < 6 → a < 10 → S 16 t a = stA D t a) ∧
  (∀ c, c < 10 → S 1101 c 0 = D 61 0 c ∧ S 1102 c 0 = D 62 0 c ∧ S 1104 c 0 = D 64 0 c ∧ S 1105 c 0 = D 65 0 c ∧ S 1106 c 0 = D 66 0 c ∧ S 1107 c 0 = D 67 0 c ∧ S 1108 c 0 = D 68 0 c ∧ S 1109 c 0 = D 69 0 c) ∧
  (∀ c p, c < 10 → p < 3 → S 20 c p = D 70 0 (3 * c + p) ∧ S 22 c p = D 71 0 (3 * c + p) ∧ ((p : Int) < D 69 0 c → S 21 c p = begP D c p)) ∧
  (∀ k, k < 36 → usd D k → S 1600 (D 55 0 k).toNat 0 = D 50 0 k ∧ S 1601 (D 55 0 k).toNat 0 = D 51 0 k) ∧
  (∀ n i, n < 3 → i < 6 → S 1500 (6 * n + i) 0 = i)
theorem PC_1403 {D S : Sg} (h : PC D S) : S 1403 0 0 = D 2004 0 0 := h.1.1
theorem PC_1405 {D S : Sg} (h : PC D S) : S 1405 0 0 = D 2014 0 0 := h.1.2
theorem PC_1700 {D S : Sg} {t : Nat} (h : PC D S) (ht : t < 6) : S 1700 t 0 = D 54 0 t := (h.2.1 t ht).1
theorem PC_1701 {D S : Sg} {t : Nat} (h : PC D S) (ht : t < 6) : S 1701 t 0 = D 52 0 t := (h.2.1 t ht).2
theorem PC_10 {D S : Sg} {t k : Nat} (h : PC D S) (ht : t < 6) (hk : k < 6) : S 10 t k = D 55 0 (6 * t + k) := (h.2.2.1 t k ht hk).1
theorem PC_11 {D S : Sg} {t k : Nat} (h : PC D S) (ht : t < 6) (hk : k < 6) : S 11 t k = D 56 0 (6 * t + k) := (h.2.2.1 t k ht hk).2.1
theorem PC_12 {D S : Sg} {t k : Nat} (h : PC D S) (ht : t < 6) (hk : k < 6) : S 12 t k = D 57 0 (6 * t + k) := (h.2.2.1 t k ht hk).2.2.1
theorem PC_13 {D S : Sg} {t k : Nat} (h : PC D S) (ht : t < 6) (hk : k < 6) : S 13 t k = D 60 0 (6 * t + k) := (h.2.2.1 t k ht hk).2.2.2.1
theorem PC_14 {D S : Sg} {t k : Nat} (h : PC D S) (ht : t < 6) (hk : k < 6) : S 14 t k = D 58 0 (6 * t + k) := (h.2.2.1 t k ht hk).2.2.2.2.1
theorem PC_15 {D S : Sg} {t k : Nat} (h : PC D S) (ht : t < 6) (hk : k < 6) : S 15 t k = D 59 0 (6 * t + k) := (h.2.2.1 t k ht hk).2.2.2.2.2
theorem PC_16 {D S : Sg} {t a : Nat} (h : PC D S) (ht : t < 6) (ha : a < 10) : S 16 t a = stA D t a := h.2.2.2.1 t a ht ha
theorem PC_1101 {D S : Sg} {c : Nat} (h : PC D S) (hc : c < 10) : S 1101 c 0 = D 61 0 c := (h.2.2.2.2.1 c hc).1
theorem PC_1102 {D S : Sg} {c : Nat} (h : PC D S) (hc : c < 10) : S 1102 c 0 = D 62 0 c := (h.2.2.2.2.1 c hc).2.1
theorem PC_1104 {D S : Sg} {c : Nat} (h : PC D S) (hc : c < 10) : S 1104 c 0 = D 64 0 c := (h.2.2.2.2.1 c hc).2.2.1
theorem PC_1105 {D S : Sg} {c : Nat} (h : PC D S) (hc : c < 10) : S 1105 c 0 = D 65 0 c := (h.2.2.2.2.1 c hc).2.2.2.1
theorem PC_1106 {D S : Sg} {c : Nat} (h : PC D S) (hc : c < 10) : S 1106 c 0 = D 66 0 c := (h.2.2.2.2.1 c hc).2.2.2.2.1
theorem PC_1107 {D S : Sg} {c : Nat} (h : PC D S) (hc : c < 10) : S 1107 c 0 = D 67 0 c := (h.2.2.2.2.1 c hc).2.2.2.2.2.1
theorem PC_1108 {D S : Sg} {c : Nat} (h : PC D S) (hc : c < 10) : S 1108 c 0 = D 68 0 c := (h.2.2.2.2.1 c hc).2.2.2.2.2.2.1
theorem PC_1109 {D S : Sg} {c : Nat} (h : PC D S) (hc : c < 10) : S 1109 c 0 = D 69 0 c := (h.2.2.2.2.1 c hc).2.2.2.2.2.2.2
theorem PC_20 {D S : Sg} {c p : Nat} (h : PC D S) (hc : c < 10) (hp : p < 3) : S 20 c p = D 70 0 (3 * c + p) := (h.2.2.2.2.2.1 c p hc hp).1
theorem PC_22 {D S : Sg} {c p : Nat} (h : PC D S) (hc : c < 10) (hp : p < 3) : S 22 c p = D 71 0 (3 * c + p) := (h.2.2.2.2.2.1 c p hc hp).2.1
theorem PC_21 {D S : Sg} {c p : Nat} (h : PC D S) (hc : c < 10) (hp : p < 3) (hq : (p : Int) < D 69 0 c) : S 21 c p = begP D c p := (h.2.2.2.2.2.1 c p hc hp).2.2 hq
theorem PC_1600 {D S : Sg} {k : Nat} (h : PC D S) (hk : k < 36) (hu : usd D k) : S 1600 (D 55 0 k).toNat 0 = D 50 0 k := (h.2.2.2.2.2.2.1 k hk hu).1
theorem PC_1601 {D S : Sg} {k : Nat} (h : PC D S) (hk : k < 36) (hu : usd D k) : S 1601 (D 55 0 k).toNat 0 = D 51 0 k := (h.2.2.2.2.2.2.1 k hk hu).2
theorem PC_1500 {D S : Sg} {n i : Nat} (h : PC D S) (hn : n < 3) (hi : i < 6) : S 1500 (6 * n + i) 0 = i := h.2.2.2.2.2.2.2 n i hn hi
/-- the families of the class's plan -/
def cpF (f : Nat) : Bool := (Nat.ble 10 f && Nat.ble f 22) || (Nat.ble 1100 f && Nat.ble f 1110) || Nat.beq f 1403 || Nat.beq f 1405 || Nat.beq f 1500 || (Nat.ble 1600 f && Nat.ble f 1702)
theorem PC_ext {D S S2 : Sg} (h : PC D S) (k : ∀ f i j, cpF f = true → S2 f i j = S f i j) : PC D S2 := by
  unfold PC at h ⊢
  simp only [k 1403 _ _ rfl, k 1405 _ _ rfl, k 1700 _ _ rfl, k 1701 _ _ rfl, k 10 _ _ rfl, k 11 _ _ rfl, k 12 _ _ rfl, k 13 _ _ rfl, k 14 _ _ rfl, k 15 _ _ rfl, k 16 _ _ rfl, k 1101 _ _ rfl, k 1102 _ _ rfl, k 1104 _ _ rfl, k 1105 _ _ rfl, k 1106 _ _ rfl, k 1107 _ _ rfl, k 1108 _ _ rfl, k 1109 _ _ rfl, k 20 _ _ rfl, k 21 _ _ rfl, k 22 _ _ rfl, k 1600 _ _ rfl, k 1601 _ _ rfl, k 1500 _ _ rfl]
  exact h
theorem PC_up {D S : Sg} {F I K : Nat} {a : Int} (h : PC D S) (hF : cpF F = false) : PC D (up S F I K a) :=
  PC_ext h (fun f i j hf => up_f (fun z => by rw [z, hF] at hf; cases hf))
/-! ===== a night of the class ===== -/
def shB (d b w : Int) : Int := if d = -1 then 0 else ((FP.fmul 1120403456 (FP.fdiv (FP.i2f (Int32.ofInt b)) (FP.i2f (Int32.ofInt w)))).toNat : Int)
def RW (n C : Nat) (S N : Sg) : Prop := ∀ c, c < C → S 1801 (10 * n + c) 0 = N 88 0 c ∧ S 1802 (10 * n + c) 0 = rdc N c ∧ S 1803 (10 * n + c) 0 = N 90 0 c ∧ S 1804 (10 * n + c) 0 = N 91 0 c
def RR (n t : Nat) (D S N : Sg) : Prop := S 1502 (6 * n + t) 0 = D 53 0 t ∧ S 1503 (6 * n + t) 0 = N 81 0 t ∧ S 1504 (6 * n + t) 0 = due N t ∧ S 1505 (6 * n + t) 0 = rpe D N t ∧
  (∀ k, k < 6 → S 32 (6 * n + t) k = if (k : Int) ≤ N 81 0 t then N 79 0 (6 * t + k) else -1) ∧
  (∀ k, k < 6 → S 33 (6 * n + t) k = N 80 0 (6 * t + k)) ∧
  (∀ k, k < 6 → S 35 (6 * n + t) k = shB (N 80 0 (6 * t + k)) (N 85 0 (6 * t + k)) (N 86 0 (6 * t + k))) ∧
  (∀ k, k < 60 → S 34 (6 * n + t) k = N 87 0 (60 * t + k))
def RQ (n t : Nat) (S : Sg) (x : List Nat) : Prop := S 1507 (6 * n + t) 0 = x.length ∧ LA (S 31 (6 * n + t)) x
def RO (n : Nat) (S N : Sg) : Prop := ∀ k, k < 36 → S 30 n k = N 93 0 k
/-- the footprint of a night of the class -/
def fpC (n f i : Nat) : Prop := ((1502 ≤ f ∧ f ≤ 1509 ∨ 31 ≤ f ∧ f ≤ 35) ∧ 6 * n ≤ i ∧ i < 6 * n + 6) ∨ (1801 ≤ f ∧ f ≤ 1804 ∧ 10 * n ≤ i ∧ i < 10 * n + 10) ∨ ((f = 30 ∨ f = 1204 ∨ f = 1205) ∧ i = n)
def FC (n : Nat) (S0 S : Sg) : Prop := ∀ f i k, ¬ fpC n f i → S f i k = S0 f i k
theorem FC_refl {n : Nat} {S : Sg} : FC n S S := fun _ _ _ _ => rfl
theorem FC_up {n F I K : Nat} {S0 S : Sg} {a : Int} (h : FC n S0 S) (hf : fpC n F I) : FC n S0 (up S F I K a) := fun f i k hn => by
  simp only [up]
  split
  · rename_i z
    rw [z.1, z.2.1] at hn
    exact absurd hf hn
  · exact h f i k hn
theorem FC_trans {n : Nat} {S0 S1 S2 : Sg} (h : FC n S0 S1) (k : FC n S1 S2) : FC n S0 S2 := fun f i j hn => (k f i j hn).trans (h f i j hn)
theorem PC_FC {n : Nat} {D S0 S : Sg} (h : PC D S0) (k : FC n S0 S) : PC D S := PC_ext h (fun f i j hf => k f i j (fun hz => by
  unfold fpC at hz
  have : f ≤ 22 ∧ 10 ≤ f ∨ f = 1500 ∨ f = 1403 ∨ f = 1405 ∨ 1600 ≤ f ∧ f ≤ 1702 ∨ 1100 ≤ f ∧ f ≤ 1110 := by
    unfold cpF at hf
    simp only [Bool.or_eq_true, Bool.and_eq_true, Nat.ble_eq, Nat.beq_eq] at hf
    omega
  omega))
/-- all of a night but the coaches with the train t -/
def CI (n T C : Nat) (D S0 S N : Sg) (l : Ls) (t : Nat) : Prop := PC D S ∧ RW n C S N ∧ (∀ u, u < T → RR n u D S N) ∧ (∀ u, u < T → ¬ u = t → RQ n u S (l u)) ∧ RO n S N ∧ FC n S0 S
theorem RW_ext {n C : Nat} {S S2 N N2 : Sg} (h : RW n C S N) (k1 : ∀ f i, (f = 1801 ∨ f = 1802 ∨ f = 1803 ∨ f = 1804) → S2 f i 0 = S f i 0) (k2 : ∀ f c, (f = 88 ∨ f = 89 ∨ f = 90 ∨ f = 91) → N2 f 0 c = N f 0 c) : RW n C S2 N2 := fun c hc => by
  unfold rdc
  rw [k1 _ _ (by simp), k1 _ _ (by simp), k1 _ _ (by simp), k1 _ _ (by simp), k2 _ _ (by simp), k2 _ _ (by simp), k2 _ _ (by simp), k2 _ _ (by simp)]
  exact h c hc
theorem due_ext {N N2 : Sg} {t : Nat} (k2 : ∀ f c, (f = 79 ∨ f = 81 ∨ f = 82) → N2 f 0 c = N f 0 c) : due N2 t = due N t := by
  unfold due
  rw [k2 82 _ (by simp), k2 81 _ (by simp), k2 79 _ (by simp)]
theorem rpe_ext {D N N2 : Sg} {t : Nat} (k2 : ∀ f c, (f = 79 ∨ f = 81 ∨ f = 82) → N2 f 0 c = N f 0 c) : rpe D N2 t = rpe D N t := by
  unfold rpe
  rw [k2 82 _ (by simp), k2 81 _ (by simp), k2 79 _ (by simp)]
theorem RR_ext {n t : Nat} {D S S2 N N2 : Sg} (h : RR n t D S N) (k1 : ∀ f k, (1502 ≤ f ∧ f ≤ 1505 ∨ 32 ≤ f ∧ f ≤ 35) → S2 f (6 * n + t) k = S f (6 * n + t) k) (k2 : ∀ f k, (79 ≤ f ∧ f ≤ 82 ∨ 85 ≤ f ∧ f ≤ 87) → N2 f 0 k = N f 0 k) : RR n t D S2 N2 := by
  have kx : ∀ f c, (f = 79 ∨ f = 81 ∨ f = 82) → N2 f 0 c = N f 0 c := fun f c hf => k2 f c (by omega)
  unfold RR at h ⊢
  rw [due_ext kx, rpe_ext kx]
  simp only [k1 1502 _ (by decide), k1 1503 _ (by decide), k1 1504 _ (by decide), k1 1505 _ (by decide), k1 32 _ (by decide), k1 33 _ (by decide), k1 34 _ (by decide), k1 35 _ (by decide), k2 79 _ (by decide), k2 80 _ (by decide), k2 81 _ (by decide), k2 85 _ (by decide), k2 86 _ (by decide), k2 87 _ (by decide)]
  exact h
theorem RQ_ext {n t : Nat} {S S2 : Sg} {x : List Nat} (h : RQ n t S x) (k1 : ∀ f k, (f = 31 ∨ f = 1507) → S2 f (6 * n + t) k = S f (6 * n + t) k) : RQ n t S2 x := by
  refine ⟨by rw [k1 _ _ (by simp)]; exact h.1, LA_ext (fun j _ => k1 _ _ (by simp)) h.2⟩
theorem RO_ext {n : Nat} {S S2 N N2 : Sg} (h : RO n S N) (k1 : ∀ k, S2 30 n k = S 30 n k) (k2 : ∀ k, N2 93 0 k = N 93 0 k) : RO n S2 N2 := fun k hk => by
  rw [k1, k2]
  exact h k hk
/-- places that no one reads -/
theorem CI_up {n T C F I K t : Nat} {D S0 S N : Sg} {l : Ls} {a : Int} (h : CI n T C D S0 S N l t) (hn : n < 3) (hF : F = 31 ∧ I = 6 * n + t ∧ t < 6 ∨ F = 1507 ∧ I = 6 * n + t ∧ t < 6 ∨ (F = 1508 ∨ F = 1509) ∧ 6 * n ≤ I ∧ I < 6 * n + 6 ∨ F = 1204 ∧ I = n) : CI n T C D S0 (up S F I K a) N l t := by
  obtain ⟨h1, h2, h3, h4, h5, h6⟩ := h
  refine ⟨PC_up h1 ?_, RW_ext h2 (fun f i hf => up_f (by omega)) (fun _ _ _ => rfl), fun u hu => RR_ext (h3 u hu) (fun f k hf => up_f (by omega)) (fun _ _ _ => rfl), fun u hu hut => RQ_ext (h4 u hu hut) (fun f k hf => ?_), RO_ext h5 (fun k => up_f (by omega)) (fun _ => rfl), FC_up h6 (by unfold fpC; omega)⟩
  · rcases hF with ⟨rfl, _⟩ | ⟨rfl, _⟩ | ⟨rfl | rfl, _⟩ | ⟨rfl, _⟩ <;> rfl
  · simp only [up]
    rw [if_neg (by omega)]
theorem CI_out {n T C c t : Nat} {D S0 S N : Sg} {l : Ls} {a m : Int} (h : CI n T C D S0 S N l t) (hn : n < 3) (hc : c < 10) (ha : 0 ≤ a) : CI n T C D S0 (up (up S 1801 (10 * n + c) 0 a) 1802 (10 * n + c) 0 (m + 10)) (oOut N c a m) l t := by
  obtain ⟨h1, h2, h3, h4, h5, h6⟩ := h
  refine ⟨PC_up (PC_up h1 rfl) rfl, fun d hd => ?_, fun u hu => RR_ext (h3 u hu) (fun f k hf => by rw [up_f (by omega), up_f (by omega)]) (fun f k hf => oOut_f (by omega) (by omega)), fun u hu hut => RQ_ext (h4 u hu hut) (fun f k hf => by rw [up_f (by omega), up_f (by omega)]), RO_ext h5 (fun k => by rw [up_f (by omega), up_f (by omega)]) (fun k => oOut_f (by omega) (by omega)), FC_up (FC_up h6 (by unfold fpC; omega)) (by unfold fpC; omega)⟩
  have hz := h2 d hd
  unfold rdc at hz ⊢
  by_cases hdc : d = c
  · subst hdc
    rw [up_f (show ¬ 1801 = 1802 by decide), up_s, up_s, up_f (show ¬ 1803 = 1802 by decide), up_f (show ¬ 1803 = 1801 by decide), up_f (show ¬ 1804 = 1802 by decide), up_f (show ¬ 1804 = 1801 by decide), oOut_88, oOut_89, oOut_f (by decide) (by decide), oOut_f (by decide) (by decide), if_neg (by omega)]
    exact ⟨rfl, rfl, hz.2.2⟩
  · rw [oOut_k hdc, oOut_k hdc, oOut_k hdc, oOut_k hdc]
    simp (disch := omega) only [up_f, up_i]
    exact hz
theorem CI_done {n T C c t : Nat} {D S0 S N : Sg} {l : Ls} {v : Int} (h : CI n T C D S0 S N l t) (hn : n < 3) (hc : c < 10) : CI n T C D S0 (up S 1803 (10 * n + c) 0 v) (up N 90 0 c v) l t := by
  obtain ⟨h1, h2, h3, h4, h5, h6⟩ := h
  refine ⟨PC_up h1 rfl, fun d hd => ?_, fun u hu => RR_ext (h3 u hu) (fun f k hf => up_f (by omega)) (fun f k hf => up_f (by omega)), fun u hu hut => RQ_ext (h4 u hu hut) (fun f k hf => up_f (by omega)), RO_ext h5 (fun k => up_f (by omega)) (fun k => up_f (by omega)), FC_up h6 (by unfold fpC; omega)⟩
  have hz := h2 d hd
  unfold rdc at hz ⊢
  by_cases hdc : d = c
  · subst hdc
    simp (disch := omega) only [up_f, up_s]
    exact ⟨hz.1, hz.2.1, trivial, hz.2.2.2⟩
  · simp (disch := omega) only [up_f, up_i, up_k]
    exact hz
theorem CI_come {n T C c t : Nat} {D S0 S N : Sg} {l : Ls} (h : CI n T C D S0 S N l t) (hn : n < 3) (hc : c < 10) : CI n T C D S0 (up (up S 1801 (10 * n + c) 0 (-1)) 1802 (10 * n + c) 0 (-1)) (up N 88 0 c (-1)) l t := by
  obtain ⟨h1, h2, h3, h4, h5, h6⟩ := h
  refine ⟨PC_up (PC_up h1 rfl) rfl, fun d hd => ?_, fun u hu => RR_ext (h3 u hu) (fun f k hf => by rw [up_f (by omega), up_f (by omega)]) (fun f k hf => up_f (by omega)), fun u hu hut => RQ_ext (h4 u hu hut) (fun f k hf => by rw [up_f (by omega), up_f (by omega)]), RO_ext h5 (fun k => by rw [up_f (by omega), up_f (by omega)]) (fun k => up_f (by omega)), FC_up (FC_up h6 (by unfold fpC; omega)) (by unfold fpC; omega)⟩
  have hz := h2 d hd
  unfold rdc at hz ⊢
  by_cases hdc : d = c
  · subst hdc
    simp (disch := omega) only [up_f, up_s, if_true]
    exact ⟨trivial, trivial, hz.2.2⟩
  · simp (disch := omega) only [up_f, up_i, up_k]
    exact hz
theorem CI_91 {n T C c t : Nat} {D S0 S N : Sg} {l : Ls} {v : Int} (h : CI n T C D S0 S N l t) (hn : n < 3) (hc : c < 10) : CI n T C D S0 (up S 1804 (10 * n + c) 0 v) (up N 91 0 c v) l t := by
  obtain ⟨h1, h2, h3, h4, h5, h6⟩ := h
  refine ⟨PC_up h1 rfl, fun d hd => ?_, fun u hu => RR_ext (h3 u hu) (fun f k hf => up_f (by omega)) (fun f k hf => up_f (by omega)), fun u hu hut => RQ_ext (h4 u hu hut) (fun f k hf => up_f (by omega)), RO_ext h5 (fun k => up_f (by omega)) (fun k => up_f (by omega)), FC_up h6 (by unfold fpC; omega)⟩
  have hz := h2 d hd
  unfold rdc at hz ⊢
  by_cases hdc : d = c
  · subst hdc
    simp (disch := omega) only [up_f, up_s]
    exact ⟨hz.1, hz.2.1, hz.2.2.1, trivial⟩
  · simp (disch := omega) only [up_f, up_i, up_k]
    exact hz
theorem CI_93 {n T C k t : Nat} {D S0 S N : Sg} {l : Ls} {v : Int} (h : CI n T C D S0 S N l t) (hn : n < 3) : CI n T C D S0 (up S 30 n k v) (up N 93 0 k v) l t := by
  obtain ⟨h1, h2, h3, h4, h5, h6⟩ := h
  refine ⟨PC_ext h1 (fun f i j hf => up_f (fun hz => by rw [hz] at hf; cases hf)), RW_ext h2 (fun f i hf => up_f (by omega)) (fun f c hf => up_f (by omega)), fun u hu => RR_ext (h3 u hu) (fun f k hf => up_f (by omega)) (fun f k hf => up_f (by omega)), fun u hu hut => RQ_ext (h4 u hu hut) (fun f k hf => up_f (by omega)), fun j hj => ?_, FC_up h6 (by unfold fpC; omega)⟩
  by_cases hjk : j = k
  · subst hjk
    rw [up_s, up_s]
  · rw [up_k hjk, up_k hjk]
    exact h5 j hj
