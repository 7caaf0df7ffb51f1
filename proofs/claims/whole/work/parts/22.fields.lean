/-! ===== each field and array, read and written ===== -/
def m_isI : Option MV → Bool
  | some (.inl _) => true
  | _ => false
def m_isF : Option MV → Bool
  | some (.inr (.inr (.inl _))) => true
  | _ => false
theorem m_isI_ok {o : Option MV} (h : m_isI o = true) : ∃ a, o = some (vI a) := by
  unfold m_isI at h
  split at h
  · exact ⟨_, rfl⟩
  · cases h
theorem m_isF_ok {o : Option MV} (h : m_isF o = true) : ∃ a, o = some (vF a) := by
  unfold m_isF at h
  split at h
  · exact ⟨_, rfl⟩
  · cases h
def m_rf : Option MV → Nat
  | some (.inr (.inl (some q))) => q + 1
  | _ => 0
theorem m_rf_ok {o : Option MV} {q : Nat} (h : m_rf o = q + 1) : o = some (vR q) := by
  unfold m_rf at h
  split at h
  · rw [Nat.add_right_cancel h]
  · cases h
section W
variable {S : Sg} {e : Nat}
theorem gI {o c k F I : Nat} (h : m_isI (m_get hz o c k) = true) (hk : kf o = (F, I)) (hc : c < 20) : m_get (mk S e) o c k = some (vI (S (F + k) I 0)) := by
  obtain ⟨a, ha⟩ := m_isI_ok h
  rw [m_get_mk, ha]
  simp only [Option.map_some, hq, sg, if_pos hc, hk]
theorem sI {o k F I : Nat} (c : Nat) (h : m_isI (m_get hz o c k) = true) (hk : kf o = (F, I)) (hc : c < 20) {a : Int} : m_set (mk S e) o k (vI a) = mk (up S (F + k) I 0 a) e := by
  obtain ⟨a0, ha⟩ := m_isI_ok h
  exact m_set_mk ha rfl (by rw [if_pos hc, hk]) (by rw [hk]) (by rw [if_pos hc])
theorem aI {o c F I n : Nat} (h : ∀ k, k < n → m_isI (m_get hz o c k) = true) (hk : kf o = (F, I)) (hc : ¬ c < 20) {x : Int} (h0 : 0 ≤ x) (h1 : x < n) : m_age (mk S e) o c x = some (vI (S F I x.toNat)) := by
  obtain ⟨a, ha⟩ := m_isI_ok (h x.toNat (by omega))
  unfold m_age
  rw [if_pos h0, m_get_mk, ha]
  simp only [Option.map_some, hq, sg, if_neg hc, hk]
theorem tI {o F I n : Nat} (c : Nat) (h : ∀ k, k < n → m_isI (m_get hz o c k) = true) (hk : kf o = (F, I)) (hc : ¬ c < 20) {x : Nat} {a : Int} (h1 : x < n) : m_set (mk S e) o x (vI a) = mk (up S F I x a) e := by
  obtain ⟨a0, ha⟩ := m_isI_ok (h x h1)
  exact m_set_mk ha rfl (by rw [if_neg hc, hk]) (by rw [hk]) (by rw [if_neg hc])
theorem aF {o c F I n : Nat} (h : ∀ k, k < n → m_isF (m_get hz o c k) = true) (hk : kf o = (F, I)) (hc : ¬ c < 20) {x : Int} (h0 : 0 ≤ x) (h1 : x < n) : m_age (mk S e) o c x = some (vF (UInt32.ofNat (S F I x.toNat).toNat)) := by
  obtain ⟨a, ha⟩ := m_isF_ok (h x.toNat (by omega))
  unfold m_age
  rw [if_pos h0, m_get_mk, ha]
  simp only [Option.map_some, hq, sg, if_neg hc, hk]
theorem tFl {o F I n : Nat} (c : Nat) (h : ∀ k, k < n → m_isF (m_get hz o c k) = true) (hk : kf o = (F, I)) (hc : ¬ c < 20) {x : Nat} {b : UInt32} (h1 : x < n) : m_set (mk S e) o x (vF b) = mk (up S F I x (b.toNat : Int)) e := by
  obtain ⟨a0, ha⟩ := m_isF_ok (h x h1)
  exact m_set_mk ha (by simp only [hq, Int.toNat_natCast, UInt32.ofNat_toNat]) (by rw [if_neg hc, hk]) (by rw [hk]) (by rw [if_neg hc])
theorem gR {o c k q : Nat} (h : m_rf (m_get hz o c k) = q + 1) : m_get (mk S e) o c k = some (vR q) := by
  rw [m_get_mk, m_rf_ok h]
  rfl
theorem aR {o c n : Nat} {f : Nat → Nat} (h : ∀ k, k < n → m_rf (m_get hz o c k) = f k + 1) {x : Int} (h0 : 0 ≤ x) (h1 : x < n) : m_age (mk S e) o c x = some (vR (f x.toNat)) := by
  unfold m_age
  rw [if_pos h0]
  exact gR (h x.toNat (by omega))
theorem gT {o c : Nat} (h : m_tag hz o = some c) : m_tag (mk S e) o = some c := by rw [m_tag_mk, h]
theorem gL {o n : Nat} (h : m_len hz o = some n) : m_len (mk S e) o = some n := by rw [m_len_mk, h]
theorem K_9 : kf 0 = (1900, 0) := by decide +kernel
theorem T_9 : m_tag (mk S e) 0 = some 9 := gT (by decide +kernel)
theorem G_9_0 : m_get (mk S e) 0 9 0 = some (vR 1) := gR (by decide +kernel)
theorem G_9_1 : m_get (mk S e) 0 9 1 = some (vR (nt 0)) := gR (by decide +kernel)
theorem G_9_2 : m_get (mk S e) 0 9 2 = some (vR (nt 1)) := gR (by decide +kernel)
theorem G_9_3 : m_get (mk S e) 0 9 3 = some (vR (nt 2)) := gR (by decide +kernel)
theorem G_9_4 : m_get (mk S e) 0 9 4 = some (vR 253) := gR (by decide +kernel)
theorem K_4 : kf 1 = (1400, 0) := by decide +kernel
theorem T_4 : m_tag (mk S e) 1 = some 4 := gT (by decide +kernel)
theorem G_4_0 : m_get (mk S e) 1 4 0 = some (vR 2) := gR (by decide +kernel)
theorem Z_4_1 : m_isI (m_get hz 1 4 1) = true := by decide +kernel
theorem G_4_1 : m_get (mk S e) 1 4 1 = some (vI (S 1401 0 0)) := gI Z_4_1 K_4 (by decide)
theorem P_4_1 {a : Int} : m_set (mk S e) 1 1 (vI a) = mk (up S 1401 0 0 a) e := sI 4 Z_4_1 K_4 (by decide)
theorem G_4_2 : m_get (mk S e) 1 4 2 = some (vR 3) := gR (by decide +kernel)
theorem Z_4_3 : m_isI (m_get hz 1 4 3) = true := by decide +kernel
theorem G_4_3 : m_get (mk S e) 1 4 3 = some (vI (S 1403 0 0)) := gI Z_4_3 K_4 (by decide)
theorem P_4_3 {a : Int} : m_set (mk S e) 1 3 (vI a) = mk (up S 1403 0 0 a) e := sI 4 Z_4_3 K_4 (by decide)
theorem G_4_4 : m_get (mk S e) 1 4 4 = some (vR 4) := gR (by decide +kernel)
theorem Z_4_5 : m_isI (m_get hz 1 4 5) = true := by decide +kernel
theorem G_4_5 : m_get (mk S e) 1 4 5 = some (vI (S 1405 0 0)) := gI Z_4_5 K_4 (by decide)
theorem P_4_5 {a : Int} : m_set (mk S e) 1 5 (vI a) = mk (up S 1405 0 0 a) e := sI 4 Z_4_5 K_4 (by decide)
theorem Z_4_6 : m_isI (m_get hz 1 4 6) = true := by decide +kernel
theorem G_4_6 : m_get (mk S e) 1 4 6 = some (vI (S 1406 0 0)) := gI Z_4_6 K_4 (by decide)
theorem P_4_6 {a : Int} : m_set (mk S e) 1 6 (vI a) = mk (up S 1406 0 0 a) e := sI 4 Z_4_6 K_4 (by decide)
theorem K_6 : ∀ i, i < 10 → kf (st i) = (1600, i) := by decide +kernel
theorem T_6 {i : Nat} (hi : i < 10) : m_tag (mk S e) (st i) = some 6 := gT ((by decide +kernel : ∀ i, i < 10 → m_tag hz (st i) = some 6) _ hi)
theorem Z_6_0 : ∀ i, i < 10 → m_isI (m_get hz (st i) 6 0) = true := by decide +kernel
theorem G_6_0 {i : Nat} (hi : i < 10) : m_get (mk S e) (st i) 6 0 = some (vI (S 1600 i 0)) := gI (Z_6_0 _ hi) (K_6 _ hi) (by decide)
theorem P_6_0 {i : Nat} (hi : i < 10) {a : Int} : m_set (mk S e) (st i) 0 (vI a) = mk (up S 1600 i 0 a) e := sI 6 (Z_6_0 _ hi) (K_6 _ hi) (by decide)
theorem Z_6_1 : ∀ i, i < 10 → m_isI (m_get hz (st i) 6 1) = true := by decide +kernel
theorem G_6_1 {i : Nat} (hi : i < 10) : m_get (mk S e) (st i) 6 1 = some (vI (S 1601 i 0)) := gI (Z_6_1 _ hi) (K_6 _ hi) (by decide)
theorem P_6_1 {i : Nat} (hi : i < 10) {a : Int} : m_set (mk S e) (st i) 1 (vI a) = mk (up S 1601 i 0 a) e := sI 6 (Z_6_1 _ hi) (K_6 _ hi) (by decide)
theorem K_7 : ∀ i, i < 6 → kf (tr i) = (1700, i) := by decide +kernel
theorem T_7 {i : Nat} (hi : i < 6) : m_tag (mk S e) (tr i) = some 7 := gT ((by decide +kernel : ∀ i, i < 6 → m_tag hz (tr i) = some 7) _ hi)
theorem Z_7_0 : ∀ i, i < 6 → m_isI (m_get hz (tr i) 7 0) = true := by decide +kernel
theorem G_7_0 {i : Nat} (hi : i < 6) : m_get (mk S e) (tr i) 7 0 = some (vI (S 1700 i 0)) := gI (Z_7_0 _ hi) (K_7 _ hi) (by decide)
theorem P_7_0 {i : Nat} (hi : i < 6) {a : Int} : m_set (mk S e) (tr i) 0 (vI a) = mk (up S 1700 i 0 a) e := sI 7 (Z_7_0 _ hi) (K_7 _ hi) (by decide)
theorem Z_7_1 : ∀ i, i < 6 → m_isI (m_get hz (tr i) 7 1) = true := by decide +kernel
theorem G_7_1 {i : Nat} (hi : i < 6) : m_get (mk S e) (tr i) 7 1 = some (vI (S 1701 i 0)) := gI (Z_7_1 _ hi) (K_7 _ hi) (by decide)
theorem P_7_1 {i : Nat} (hi : i < 6) {a : Int} : m_set (mk S e) (tr i) 1 (vI a) = mk (up S 1701 i 0 a) e := sI 7 (Z_7_1 _ hi) (K_7 _ hi) (by decide)
theorem Z_7_2 : ∀ i, i < 6 → m_isI (m_get hz (tr i) 7 2) = true := by decide +kernel
theorem G_7_2 {i : Nat} (hi : i < 6) : m_get (mk S e) (tr i) 7 2 = some (vI (S 1702 i 0)) := gI (Z_7_2 _ hi) (K_7 _ hi) (by decide)
theorem P_7_2 {i : Nat} (hi : i < 6) {a : Int} : m_set (mk S e) (tr i) 2 (vI a) = mk (up S 1702 i 0 a) e := sI 7 (Z_7_2 _ hi) (K_7 _ hi) (by decide)
theorem G_7_3 {i : Nat} (hi : i < 6) : m_get (mk S e) (tr i) 7 3 = some (vR (trA0 i)) := gR ((by decide +kernel : ∀ i, i < 6 → m_rf (m_get hz (tr i) 7 3) = (trA0 i) + 1) _ hi)
theorem G_7_4 {i : Nat} (hi : i < 6) : m_get (mk S e) (tr i) 7 4 = some (vR (trA1 i)) := gR ((by decide +kernel : ∀ i, i < 6 → m_rf (m_get hz (tr i) 7 4) = (trA1 i) + 1) _ hi)
theorem G_7_5 {i : Nat} (hi : i < 6) : m_get (mk S e) (tr i) 7 5 = some (vR (trA2 i)) := gR ((by decide +kernel : ∀ i, i < 6 → m_rf (m_get hz (tr i) 7 5) = (trA2 i) + 1) _ hi)
theorem G_7_6 {i : Nat} (hi : i < 6) : m_get (mk S e) (tr i) 7 6 = some (vR (trA3 i)) := gR ((by decide +kernel : ∀ i, i < 6 → m_rf (m_get hz (tr i) 7 6) = (trA3 i) + 1) _ hi)
theorem G_7_7 {i : Nat} (hi : i < 6) : m_get (mk S e) (tr i) 7 7 = some (vR (trA4 i)) := gR ((by decide +kernel : ∀ i, i < 6 → m_rf (m_get hz (tr i) 7 7) = (trA4 i) + 1) _ hi)
theorem G_7_8 {i : Nat} (hi : i < 6) : m_get (mk S e) (tr i) 7 8 = some (vR (trA5 i)) := gR ((by decide +kernel : ∀ i, i < 6 → m_rf (m_get hz (tr i) 7 8) = (trA5 i) + 1) _ hi)
theorem G_7_9 {i : Nat} (hi : i < 6) : m_get (mk S e) (tr i) 7 9 = some (vR (trA6 i)) := gR ((by decide +kernel : ∀ i, i < 6 → m_rf (m_get hz (tr i) 7 9) = (trA6 i) + 1) _ hi)
theorem K_1 : ∀ i, i < 10 → kf (co i) = (1100, i) := by decide +kernel
theorem T_1 {i : Nat} (hi : i < 10) : m_tag (mk S e) (co i) = some 1 := gT ((by decide +kernel : ∀ i, i < 10 → m_tag hz (co i) = some 1) _ hi)
theorem Z_1_0 : ∀ i, i < 10 → m_isI (m_get hz (co i) 1 0) = true := by decide +kernel
theorem G_1_0 {i : Nat} (hi : i < 10) : m_get (mk S e) (co i) 1 0 = some (vI (S 1100 i 0)) := gI (Z_1_0 _ hi) (K_1 _ hi) (by decide)
theorem P_1_0 {i : Nat} (hi : i < 10) {a : Int} : m_set (mk S e) (co i) 0 (vI a) = mk (up S 1100 i 0 a) e := sI 1 (Z_1_0 _ hi) (K_1 _ hi) (by decide)
theorem Z_1_1 : ∀ i, i < 10 → m_isI (m_get hz (co i) 1 1) = true := by decide +kernel
theorem G_1_1 {i : Nat} (hi : i < 10) : m_get (mk S e) (co i) 1 1 = some (vI (S 1101 i 0)) := gI (Z_1_1 _ hi) (K_1 _ hi) (by decide)
theorem P_1_1 {i : Nat} (hi : i < 10) {a : Int} : m_set (mk S e) (co i) 1 (vI a) = mk (up S 1101 i 0 a) e := sI 1 (Z_1_1 _ hi) (K_1 _ hi) (by decide)
theorem Z_1_2 : ∀ i, i < 10 → m_isI (m_get hz (co i) 1 2) = true := by decide +kernel
theorem G_1_2 {i : Nat} (hi : i < 10) : m_get (mk S e) (co i) 1 2 = some (vI (S 1102 i 0)) := gI (Z_1_2 _ hi) (K_1 _ hi) (by decide)
theorem P_1_2 {i : Nat} (hi : i < 10) {a : Int} : m_set (mk S e) (co i) 2 (vI a) = mk (up S 1102 i 0 a) e := sI 1 (Z_1_2 _ hi) (K_1 _ hi) (by decide)
theorem Z_1_3 : ∀ i, i < 10 → m_isI (m_get hz (co i) 1 3) = true := by decide +kernel
theorem G_1_3 {i : Nat} (hi : i < 10) : m_get (mk S e) (co i) 1 3 = some (vI (S 1103 i 0)) := gI (Z_1_3 _ hi) (K_1 _ hi) (by decide)
theorem P_1_3 {i : Nat} (hi : i < 10) {a : Int} : m_set (mk S e) (co i) 3 (vI a) = mk (up S 1103 i 0 a) e := sI 1 (Z_1_3 _ hi) (K_1 _ hi) (by decide)
theorem Z_1_4 : ∀ i, i < 10 → m_isI (m_get hz (co i) 1 4) = true := by decide +kernel
theorem G_1_4 {i : Nat} (hi : i < 10) : m_get (mk S e) (co i) 1 4 = some (vI (S 1104 i 0)) := gI (Z_1_4 _ hi) (K_1 _ hi) (by decide)
theorem P_1_4 {i : Nat} (hi : i < 10) {a : Int} : m_set (mk S e) (co i) 4 (vI a) = mk (up S 1104 i 0 a) e := sI 1 (Z_1_4 _ hi) (K_1 _ hi) (by decide)
theorem Z_1_5 : ∀ i, i < 10 → m_isI (m_get hz (co i) 1 5) = true := by decide +kernel
theorem G_1_5 {i : Nat} (hi : i < 10) : m_get (mk S e) (co i) 1 5 = some (vI (S 1105 i 0)) := gI (Z_1_5 _ hi) (K_1 _ hi) (by decide)
theorem P_1_5 {i : Nat} (hi : i < 10) {a : Int} : m_set (mk S e) (co i) 5 (vI a) = mk (up S 1105 i 0 a) e := sI 1 (Z_1_5 _ hi) (K_1 _ hi) (by decide)
theorem Z_1_6 : ∀ i, i < 10 → m_isI (m_get hz (co i) 1 6) = true := by decide +kernel
theorem G_1_6 {i : Nat} (hi : i < 10) : m_get (mk S e) (co i) 1 6 = some (vI (S 1106 i 0)) := gI (Z_1_6 _ hi) (K_1 _ hi) (by decide)
theorem P_1_6 {i : Nat} (hi : i < 10) {a : Int} : m_set (mk S e) (co i) 6 (vI a) = mk (up S 1106 i 0 a) e := sI 1 (Z_1_6 _ hi) (K_1 _ hi) (by decide)
theorem Z_1_7 : ∀ i, i < 10 → m_isI (m_get hz (co i) 1 7) = true := by decide +kernel
theorem G_1_7 {i : Nat} (hi : i < 10) : m_get (mk S e) (co i) 1 7 = some (vI (S 1107 i 0)) := gI (Z_1_7 _ hi) (K_1 _ hi) (by decide)
theorem P_1_7 {i : Nat} (hi : i < 10) {a : Int} : m_set (mk S e) (co i) 7 (vI a) = mk (up S 1107 i 0 a) e := sI 1 (Z_1_7 _ hi) (K_1 _ hi) (by decide)
theorem Z_1_8 : ∀ i, i < 10 → m_isI (m_get hz (co i) 1 8) = true := by decide +kernel
theorem G_1_8 {i : Nat} (hi : i < 10) : m_get (mk S e) (co i) 1 8 = some (vI (S 1108 i 0)) := gI (Z_1_8 _ hi) (K_1 _ hi) (by decide)
theorem P_1_8 {i : Nat} (hi : i < 10) {a : Int} : m_set (mk S e) (co i) 8 (vI a) = mk (up S 1108 i 0 a) e := sI 1 (Z_1_8 _ hi) (K_1 _ hi) (by decide)
theorem Z_1_9 : ∀ i, i < 10 → m_isI (m_get hz (co i) 1 9) = true := by decide +kernel
theorem G_1_9 {i : Nat} (hi : i < 10) : m_get (mk S e) (co i) 1 9 = some (vI (S 1109 i 0)) := gI (Z_1_9 _ hi) (K_1 _ hi) (by decide)
theorem P_1_9 {i : Nat} (hi : i < 10) {a : Int} : m_set (mk S e) (co i) 9 (vI a) = mk (up S 1109 i 0 a) e := sI 1 (Z_1_9 _ hi) (K_1 _ hi) (by decide)
theorem G_1_10 {i : Nat} (hi : i < 10) : m_get (mk S e) (co i) 1 10 = some (vR (coA0 i)) := gR ((by decide +kernel : ∀ i, i < 10 → m_rf (m_get hz (co i) 1 10) = (coA0 i) + 1) _ hi)
theorem G_1_11 {i : Nat} (hi : i < 10) : m_get (mk S e) (co i) 1 11 = some (vR (coA1 i)) := gR ((by decide +kernel : ∀ i, i < 10 → m_rf (m_get hz (co i) 1 11) = (coA1 i) + 1) _ hi)
theorem G_1_12 {i : Nat} (hi : i < 10) : m_get (mk S e) (co i) 1 12 = some (vR (coA2 i)) := gR ((by decide +kernel : ∀ i, i < 10 → m_rf (m_get hz (co i) 1 12) = (coA2 i) + 1) _ hi)
theorem K_2 : ∀ n, n < 3 → kf (nt n) = (1200, n) := by decide +kernel
theorem T_2 {n : Nat} (hn : n < 3) : m_tag (mk S e) (nt n) = some 2 := gT ((by decide +kernel : ∀ n, n < 3 → m_tag hz (nt n) = some 2) _ hn)
theorem G_2_0 {n : Nat} (hn : n < 3) : m_get (mk S e) (nt n) 2 0 = some (vR 1) := gR ((by decide +kernel : ∀ n, n < 3 → m_rf (m_get hz (nt n) 2 0) = 1 + 1) _ hn)
theorem G_2_1 {n : Nat} (hn : n < 3) : m_get (mk S e) (nt n) 2 1 = some (vR (ntR n)) := gR ((by decide +kernel : ∀ n, n < 3 → m_rf (m_get hz (nt n) 2 1) = (ntR n) + 1) _ hn)
theorem G_2_2 {n : Nat} (hn : n < 3) : m_get (mk S e) (nt n) 2 2 = some (vR (ntW n)) := gR ((by decide +kernel : ∀ n, n < 3 → m_rf (m_get hz (nt n) 2 2) = (ntW n) + 1) _ hn)
theorem G_2_3 {n : Nat} (hn : n < 3) : m_get (mk S e) (nt n) 2 3 = some (vR (ntO n)) := gR ((by decide +kernel : ∀ n, n < 3 → m_rf (m_get hz (nt n) 2 3) = (ntO n) + 1) _ hn)
theorem Z_2_4 : ∀ n, n < 3 → m_isI (m_get hz (nt n) 2 4) = true := by decide +kernel
theorem G_2_4 {n : Nat} (hn : n < 3) : m_get (mk S e) (nt n) 2 4 = some (vI (S 1204 n 0)) := gI (Z_2_4 _ hn) (K_2 _ hn) (by decide)
theorem P_2_4 {n : Nat} (hn : n < 3) {a : Int} : m_set (mk S e) (nt n) 4 (vI a) = mk (up S 1204 n 0 a) e := sI 2 (Z_2_4 _ hn) (K_2 _ hn) (by decide)
theorem Z_2_5 : ∀ n, n < 3 → m_isI (m_get hz (nt n) 2 5) = true := by decide +kernel
theorem G_2_5 {n : Nat} (hn : n < 3) : m_get (mk S e) (nt n) 2 5 = some (vI (S 1205 n 0)) := gI (Z_2_5 _ hn) (K_2 _ hn) (by decide)
theorem P_2_5 {n : Nat} (hn : n < 3) {a : Int} : m_set (mk S e) (nt n) 5 (vI a) = mk (up S 1205 n 0 a) e := sI 2 (Z_2_5 _ hn) (K_2 _ hn) (by decide)
theorem K_5 : ∀ n, n < 3 → ∀ i, i < 6 → kf (ru n i) = (1500, (6 * n + i)) := by decide +kernel
theorem T_5 {n : Nat} {i : Nat} (hn : n < 3) (hi : i < 6) : m_tag (mk S e) (ru n i) = some 5 := gT ((by decide +kernel : ∀ n, n < 3 → ∀ i, i < 6 → m_tag hz (ru n i) = some 5) _ hn _ hi)
theorem Z_5_0 : ∀ n, n < 3 → ∀ i, i < 6 → m_isI (m_get hz (ru n i) 5 0) = true := by decide +kernel
theorem G_5_0 {n : Nat} {i : Nat} (hn : n < 3) (hi : i < 6) : m_get (mk S e) (ru n i) 5 0 = some (vI (S 1500 (6 * n + i) 0)) := gI (Z_5_0 _ hn _ hi) (K_5 _ hn _ hi) (by decide)
theorem P_5_0 {n : Nat} {i : Nat} (hn : n < 3) (hi : i < 6) {a : Int} : m_set (mk S e) (ru n i) 0 (vI a) = mk (up S 1500 (6 * n + i) 0 a) e := sI 5 (Z_5_0 _ hn _ hi) (K_5 _ hn _ hi) (by decide)
theorem G_5_1 {n : Nat} {i : Nat} (hn : n < 3) (hi : i < 6) : m_get (mk S e) (ru n i) 5 1 = some (vR (tr i)) := gR ((by decide +kernel : ∀ n, n < 3 → ∀ i, i < 6 → m_rf (m_get hz (ru n i) 5 1) = (tr i) + 1) _ hn _ hi)
theorem Z_5_2 : ∀ n, n < 3 → ∀ i, i < 6 → m_isI (m_get hz (ru n i) 5 2) = true := by decide +kernel
theorem G_5_2 {n : Nat} {i : Nat} (hn : n < 3) (hi : i < 6) : m_get (mk S e) (ru n i) 5 2 = some (vI (S 1502 (6 * n + i) 0)) := gI (Z_5_2 _ hn _ hi) (K_5 _ hn _ hi) (by decide)
theorem P_5_2 {n : Nat} {i : Nat} (hn : n < 3) (hi : i < 6) {a : Int} : m_set (mk S e) (ru n i) 2 (vI a) = mk (up S 1502 (6 * n + i) 0 a) e := sI 5 (Z_5_2 _ hn _ hi) (K_5 _ hn _ hi) (by decide)
theorem Z_5_3 : ∀ n, n < 3 → ∀ i, i < 6 → m_isI (m_get hz (ru n i) 5 3) = true := by decide +kernel
theorem G_5_3 {n : Nat} {i : Nat} (hn : n < 3) (hi : i < 6) : m_get (mk S e) (ru n i) 5 3 = some (vI (S 1503 (6 * n + i) 0)) := gI (Z_5_3 _ hn _ hi) (K_5 _ hn _ hi) (by decide)
theorem P_5_3 {n : Nat} {i : Nat} (hn : n < 3) (hi : i < 6) {a : Int} : m_set (mk S e) (ru n i) 3 (vI a) = mk (up S 1503 (6 * n + i) 0 a) e := sI 5 (Z_5_3 _ hn _ hi) (K_5 _ hn _ hi) (by decide)
theorem Z_5_4 : ∀ n, n < 3 → ∀ i, i < 6 → m_isI (m_get hz (ru n i) 5 4) = true := by decide +kernel
theorem G_5_4 {n : Nat} {i : Nat} (hn : n < 3) (hi : i < 6) : m_get (mk S e) (ru n i) 5 4 = some (vI (S 1504 (6 * n + i) 0)) := gI (Z_5_4 _ hn _ hi) (K_5 _ hn _ hi) (by decide)
theorem P_5_4 {n : Nat} {i : Nat} (hn : n < 3) (hi : i < 6) {a : Int} : m_set (mk S e) (ru n i) 4 (vI a) = mk (up S 1504 (6 * n + i) 0 a) e := sI 5 (Z_5_4 _ hn _ hi) (K_5 _ hn _ hi) (by decide)
theorem Z_5_5 : ∀ n, n < 3 → ∀ i, i < 6 → m_isI (m_get hz (ru n i) 5 5) = true := by decide +kernel
theorem G_5_5 {n : Nat} {i : Nat} (hn : n < 3) (hi : i < 6) : m_get (mk S e) (ru n i) 5 5 = some (vI (S 1505 (6 * n + i) 0)) := gI (Z_5_5 _ hn _ hi) (K_5 _ hn _ hi) (by decide)
theorem P_5_5 {n : Nat} {i : Nat} (hn : n < 3) (hi : i < 6) {a : Int} : m_set (mk S e) (ru n i) 5 (vI a) = mk (up S 1505 (6 * n + i) 0 a) e := sI 5 (Z_5_5 _ hn _ hi) (K_5 _ hn _ hi) (by decide)
theorem G_5_6 {n : Nat} {i : Nat} (hn : n < 3) (hi : i < 6) : m_get (mk S e) (ru n i) 5 6 = some (vR (ruA0 n i)) := gR ((by decide +kernel : ∀ n, n < 3 → ∀ i, i < 6 → m_rf (m_get hz (ru n i) 5 6) = (ruA0 n i) + 1) _ hn _ hi)
theorem Z_5_7 : ∀ n, n < 3 → ∀ i, i < 6 → m_isI (m_get hz (ru n i) 5 7) = true := by decide +kernel
theorem G_5_7 {n : Nat} {i : Nat} (hn : n < 3) (hi : i < 6) : m_get (mk S e) (ru n i) 5 7 = some (vI (S 1507 (6 * n + i) 0)) := gI (Z_5_7 _ hn _ hi) (K_5 _ hn _ hi) (by decide)
theorem P_5_7 {n : Nat} {i : Nat} (hn : n < 3) (hi : i < 6) {a : Int} : m_set (mk S e) (ru n i) 7 (vI a) = mk (up S 1507 (6 * n + i) 0 a) e := sI 5 (Z_5_7 _ hn _ hi) (K_5 _ hn _ hi) (by decide)
theorem Z_5_8 : ∀ n, n < 3 → ∀ i, i < 6 → m_isI (m_get hz (ru n i) 5 8) = true := by decide +kernel
theorem G_5_8 {n : Nat} {i : Nat} (hn : n < 3) (hi : i < 6) : m_get (mk S e) (ru n i) 5 8 = some (vI (S 1508 (6 * n + i) 0)) := gI (Z_5_8 _ hn _ hi) (K_5 _ hn _ hi) (by decide)
theorem P_5_8 {n : Nat} {i : Nat} (hn : n < 3) (hi : i < 6) {a : Int} : m_set (mk S e) (ru n i) 8 (vI a) = mk (up S 1508 (6 * n + i) 0 a) e := sI 5 (Z_5_8 _ hn _ hi) (K_5 _ hn _ hi) (by decide)
theorem Z_5_9 : ∀ n, n < 3 → ∀ i, i < 6 → m_isI (m_get hz (ru n i) 5 9) = true := by decide +kernel
theorem G_5_9 {n : Nat} {i : Nat} (hn : n < 3) (hi : i < 6) : m_get (mk S e) (ru n i) 5 9 = some (vI (S 1509 (6 * n + i) 0)) := gI (Z_5_9 _ hn _ hi) (K_5 _ hn _ hi) (by decide)
theorem P_5_9 {n : Nat} {i : Nat} (hn : n < 3) (hi : i < 6) {a : Int} : m_set (mk S e) (ru n i) 9 (vI a) = mk (up S 1509 (6 * n + i) 0 a) e := sI 5 (Z_5_9 _ hn _ hi) (K_5 _ hn _ hi) (by decide)
theorem G_5_10 {n : Nat} {i : Nat} (hn : n < 3) (hi : i < 6) : m_get (mk S e) (ru n i) 5 10 = some (vR (ruA1 n i)) := gR ((by decide +kernel : ∀ n, n < 3 → ∀ i, i < 6 → m_rf (m_get hz (ru n i) 5 10) = (ruA1 n i) + 1) _ hn _ hi)
theorem G_5_11 {n : Nat} {i : Nat} (hn : n < 3) (hi : i < 6) : m_get (mk S e) (ru n i) 5 11 = some (vR (ruA2 n i)) := gR ((by decide +kernel : ∀ n, n < 3 → ∀ i, i < 6 → m_rf (m_get hz (ru n i) 5 11) = (ruA2 n i) + 1) _ hn _ hi)
theorem G_5_12 {n : Nat} {i : Nat} (hn : n < 3) (hi : i < 6) : m_get (mk S e) (ru n i) 5 12 = some (vR (ruA3 n i)) := gR ((by decide +kernel : ∀ n, n < 3 → ∀ i, i < 6 → m_rf (m_get hz (ru n i) 5 12) = (ruA3 n i) + 1) _ hn _ hi)
theorem G_5_13 {n : Nat} {i : Nat} (hn : n < 3) (hi : i < 6) : m_get (mk S e) (ru n i) 5 13 = some (vR (ruA4 n i)) := gR ((by decide +kernel : ∀ n, n < 3 → ∀ i, i < 6 → m_rf (m_get hz (ru n i) 5 13) = (ruA4 n i) + 1) _ hn _ hi)
theorem K_8 : ∀ n, n < 3 → ∀ i, i < 10 → kf (wg n i) = (1800, (10 * n + i)) := by decide +kernel
theorem T_8 {n : Nat} {i : Nat} (hn : n < 3) (hi : i < 10) : m_tag (mk S e) (wg n i) = some 8 := gT ((by decide +kernel : ∀ n, n < 3 → ∀ i, i < 10 → m_tag hz (wg n i) = some 8) _ hn _ hi)
theorem G_8_0 {n : Nat} {i : Nat} (hn : n < 3) (hi : i < 10) : m_get (mk S e) (wg n i) 8 0 = some (vR (co i)) := gR ((by decide +kernel : ∀ n, n < 3 → ∀ i, i < 10 → m_rf (m_get hz (wg n i) 8 0) = (co i) + 1) _ hn _ hi)
theorem Z_8_1 : ∀ n, n < 3 → ∀ i, i < 10 → m_isI (m_get hz (wg n i) 8 1) = true := by decide +kernel
theorem G_8_1 {n : Nat} {i : Nat} (hn : n < 3) (hi : i < 10) : m_get (mk S e) (wg n i) 8 1 = some (vI (S 1801 (10 * n + i) 0)) := gI (Z_8_1 _ hn _ hi) (K_8 _ hn _ hi) (by decide)
theorem P_8_1 {n : Nat} {i : Nat} (hn : n < 3) (hi : i < 10) {a : Int} : m_set (mk S e) (wg n i) 1 (vI a) = mk (up S 1801 (10 * n + i) 0 a) e := sI 8 (Z_8_1 _ hn _ hi) (K_8 _ hn _ hi) (by decide)
theorem Z_8_2 : ∀ n, n < 3 → ∀ i, i < 10 → m_isI (m_get hz (wg n i) 8 2) = true := by decide +kernel
theorem G_8_2 {n : Nat} {i : Nat} (hn : n < 3) (hi : i < 10) : m_get (mk S e) (wg n i) 8 2 = some (vI (S 1802 (10 * n + i) 0)) := gI (Z_8_2 _ hn _ hi) (K_8 _ hn _ hi) (by decide)
theorem P_8_2 {n : Nat} {i : Nat} (hn : n < 3) (hi : i < 10) {a : Int} : m_set (mk S e) (wg n i) 2 (vI a) = mk (up S 1802 (10 * n + i) 0 a) e := sI 8 (Z_8_2 _ hn _ hi) (K_8 _ hn _ hi) (by decide)
theorem Z_8_3 : ∀ n, n < 3 → ∀ i, i < 10 → m_isI (m_get hz (wg n i) 8 3) = true := by decide +kernel
theorem G_8_3 {n : Nat} {i : Nat} (hn : n < 3) (hi : i < 10) : m_get (mk S e) (wg n i) 8 3 = some (vI (S 1803 (10 * n + i) 0)) := gI (Z_8_3 _ hn _ hi) (K_8 _ hn _ hi) (by decide)
theorem P_8_3 {n : Nat} {i : Nat} (hn : n < 3) (hi : i < 10) {a : Int} : m_set (mk S e) (wg n i) 3 (vI a) = mk (up S 1803 (10 * n + i) 0 a) e := sI 8 (Z_8_3 _ hn _ hi) (K_8 _ hn _ hi) (by decide)
theorem Z_8_4 : ∀ n, n < 3 → ∀ i, i < 10 → m_isI (m_get hz (wg n i) 8 4) = true := by decide +kernel
theorem G_8_4 {n : Nat} {i : Nat} (hn : n < 3) (hi : i < 10) : m_get (mk S e) (wg n i) 8 4 = some (vI (S 1804 (10 * n + i) 0)) := gI (Z_8_4 _ hn _ hi) (K_8 _ hn _ hi) (by decide)
theorem P_8_4 {n : Nat} {i : Nat} (hn : n < 3) (hi : i < 10) {a : Int} : m_set (mk S e) (wg n i) 4 (vI a) = mk (up S 1804 (10 * n + i) 0 a) e := sI 8 (Z_8_4 _ hn _ hi) (K_8 _ hn _ hi) (by decide)
theorem K_0 : kf 253 = (1000, 0) := by decide +kernel
theorem T_0 : m_tag (mk S e) 253 = some 0 := gT (by decide +kernel)
theorem G_0_0 : m_get (mk S e) 253 0 0 = some (vR 254) := gR (by decide +kernel)
theorem Z_0_1 : m_isI (m_get hz 253 0 1) = true := by decide +kernel
theorem G_0_1 : m_get (mk S e) 253 0 1 = some (vI (S 1001 0 0)) := gI Z_0_1 K_0 (by decide)
theorem P_0_1 {a : Int} : m_set (mk S e) 253 1 (vI a) = mk (up S 1001 0 0 a) e := sI 0 Z_0_1 K_0 (by decide)
theorem G_0_2 : m_get (mk S e) 253 0 2 = some (vR 255) := gR (by decide +kernel)
theorem Z_0_3 : m_isI (m_get hz 253 0 3) = true := by decide +kernel
theorem G_0_3 : m_get (mk S e) 253 0 3 = some (vI (S 1003 0 0)) := gI Z_0_3 K_0 (by decide)
theorem P_0_3 {a : Int} : m_set (mk S e) 253 3 (vI a) = mk (up S 1003 0 0 a) e := sI 0 Z_0_3 K_0 (by decide)
theorem K_3 : ∀ i, i < 40 → kf (pe i) = (1300, i) := by decide +kernel
theorem T_3 {i : Nat} (hi : i < 40) : m_tag (mk S e) (pe i) = some 3 := gT ((by decide +kernel : ∀ i, i < 40 → m_tag hz (pe i) = some 3) _ hi)
theorem Z_3_0 : ∀ i, i < 40 → m_isI (m_get hz (pe i) 3 0) = true := by decide +kernel
theorem G_3_0 {i : Nat} (hi : i < 40) : m_get (mk S e) (pe i) 3 0 = some (vI (S 1300 i 0)) := gI (Z_3_0 _ hi) (K_3 _ hi) (by decide)
theorem P_3_0 {i : Nat} (hi : i < 40) {a : Int} : m_set (mk S e) (pe i) 0 (vI a) = mk (up S 1300 i 0 a) e := sI 3 (Z_3_0 _ hi) (K_3 _ hi) (by decide)
theorem Z_3_1 : ∀ i, i < 40 → m_isI (m_get hz (pe i) 3 1) = true := by decide +kernel
theorem G_3_1 {i : Nat} (hi : i < 40) : m_get (mk S e) (pe i) 3 1 = some (vI (S 1301 i 0)) := gI (Z_3_1 _ hi) (K_3 _ hi) (by decide)
theorem P_3_1 {i : Nat} (hi : i < 40) {a : Int} : m_set (mk S e) (pe i) 1 (vI a) = mk (up S 1301 i 0 a) e := sI 3 (Z_3_1 _ hi) (K_3 _ hi) (by decide)
theorem Z_3_2 : ∀ i, i < 40 → m_isI (m_get hz (pe i) 3 2) = true := by decide +kernel
theorem G_3_2 {i : Nat} (hi : i < 40) : m_get (mk S e) (pe i) 3 2 = some (vI (S 1302 i 0)) := gI (Z_3_2 _ hi) (K_3 _ hi) (by decide)
theorem P_3_2 {i : Nat} (hi : i < 40) {a : Int} : m_set (mk S e) (pe i) 2 (vI a) = mk (up S 1302 i 0 a) e := sI 3 (Z_3_2 _ hi) (K_3 _ hi) (by decide)
theorem Z_3_3 : ∀ i, i < 40 → m_isI (m_get hz (pe i) 3 3) = true := by decide +kernel
theorem G_3_3 {i : Nat} (hi : i < 40) : m_get (mk S e) (pe i) 3 3 = some (vI (S 1303 i 0)) := gI (Z_3_3 _ hi) (K_3 _ hi) (by decide)
theorem P_3_3 {i : Nat} (hi : i < 40) {a : Int} : m_set (mk S e) (pe i) 3 (vI a) = mk (up S 1303 i 0 a) e := sI 3 (Z_3_3 _ hi) (K_3 _ hi) (by decide)
theorem Z_3_4 : ∀ i, i < 40 → m_isI (m_get hz (pe i) 3 4) = true := by decide +kernel
theorem G_3_4 {i : Nat} (hi : i < 40) : m_get (mk S e) (pe i) 3 4 = some (vI (S 1304 i 0)) := gI (Z_3_4 _ hi) (K_3 _ hi) (by decide)
theorem P_3_4 {i : Nat} (hi : i < 40) {a : Int} : m_set (mk S e) (pe i) 4 (vI a) = mk (up S 1304 i 0 a) e := sI 3 (Z_3_4 _ hi) (K_3 _ hi) (by decide)
theorem Z_3_5 : ∀ i, i < 40 → m_isI (m_get hz (pe i) 3 5) = true := by decide +kernel
theorem G_3_5 {i : Nat} (hi : i < 40) : m_get (mk S e) (pe i) 3 5 = some (vI (S 1305 i 0)) := gI (Z_3_5 _ hi) (K_3 _ hi) (by decide)
theorem P_3_5 {i : Nat} (hi : i < 40) {a : Int} : m_set (mk S e) (pe i) 5 (vI a) = mk (up S 1305 i 0 a) e := sI 3 (Z_3_5 _ hi) (K_3 _ hi) (by decide)
theorem Z_3_6 : ∀ i, i < 40 → m_isI (m_get hz (pe i) 3 6) = true := by decide +kernel
theorem G_3_6 {i : Nat} (hi : i < 40) : m_get (mk S e) (pe i) 3 6 = some (vI (S 1306 i 0)) := gI (Z_3_6 _ hi) (K_3 _ hi) (by decide)
theorem P_3_6 {i : Nat} (hi : i < 40) {a : Int} : m_set (mk S e) (pe i) 6 (vI a) = mk (up S 1306 i 0 a) e := sI 3 (Z_3_6 _ hi) (K_3 _ hi) (by decide)
theorem Z_3_7 : ∀ i, i < 40 → m_isI (m_get hz (pe i) 3 7) = true := by decide +kernel
theorem G_3_7 {i : Nat} (hi : i < 40) : m_get (mk S e) (pe i) 3 7 = some (vI (S 1307 i 0)) := gI (Z_3_7 _ hi) (K_3 _ hi) (by decide)
theorem P_3_7 {i : Nat} (hi : i < 40) {a : Int} : m_set (mk S e) (pe i) 7 (vI a) = mk (up S 1307 i 0 a) e := sI 3 (Z_3_7 _ hi) (K_3 _ hi) (by decide)
theorem K_10 : kf 296 = (2000, 0) := by decide +kernel
theorem T_10 : m_tag (mk S e) 296 = some 10 := gT (by decide +kernel)
theorem Z_10_0 : m_isI (m_get hz 296 10 0) = true := by decide +kernel
theorem G_10_0 : m_get (mk S e) 296 10 0 = some (vI (S 2000 0 0)) := gI Z_10_0 K_10 (by decide)
theorem P_10_0 {a : Int} : m_set (mk S e) 296 0 (vI a) = mk (up S 2000 0 0 a) e := sI 10 Z_10_0 K_10 (by decide)
theorem Z_10_1 : m_isI (m_get hz 296 10 1) = true := by decide +kernel
theorem G_10_1 : m_get (mk S e) 296 10 1 = some (vI (S 2001 0 0)) := gI Z_10_1 K_10 (by decide)
theorem P_10_1 {a : Int} : m_set (mk S e) 296 1 (vI a) = mk (up S 2001 0 0 a) e := sI 10 Z_10_1 K_10 (by decide)
theorem G_10_2 : m_get (mk S e) 296 10 2 = some (vR 297) := gR (by decide +kernel)
theorem G_10_3 : m_get (mk S e) 296 10 3 = some (vR 298) := gR (by decide +kernel)
theorem Z_10_4 : m_isI (m_get hz 296 10 4) = true := by decide +kernel
theorem G_10_4 : m_get (mk S e) 296 10 4 = some (vI (S 2004 0 0)) := gI Z_10_4 K_10 (by decide)
theorem P_10_4 {a : Int} : m_set (mk S e) 296 4 (vI a) = mk (up S 2004 0 0 a) e := sI 10 Z_10_4 K_10 (by decide)
theorem G_10_5 : m_get (mk S e) 296 10 5 = some (vR 299) := gR (by decide +kernel)
theorem G_10_6 : m_get (mk S e) 296 10 6 = some (vR 300) := gR (by decide +kernel)
theorem G_10_7 : m_get (mk S e) 296 10 7 = some (vR 301) := gR (by decide +kernel)
theorem G_10_8 : m_get (mk S e) 296 10 8 = some (vR 302) := gR (by decide +kernel)
theorem G_10_9 : m_get (mk S e) 296 10 9 = some (vR 303) := gR (by decide +kernel)
theorem G_10_10 : m_get (mk S e) 296 10 10 = some (vR 304) := gR (by decide +kernel)
theorem G_10_11 : m_get (mk S e) 296 10 11 = some (vR 305) := gR (by decide +kernel)
theorem G_10_12 : m_get (mk S e) 296 10 12 = some (vR 306) := gR (by decide +kernel)
theorem G_10_13 : m_get (mk S e) 296 10 13 = some (vR 307) := gR (by decide +kernel)
theorem Z_10_14 : m_isI (m_get hz 296 10 14) = true := by decide +kernel
theorem G_10_14 : m_get (mk S e) 296 10 14 = some (vI (S 2014 0 0)) := gI Z_10_14 K_10 (by decide)
theorem P_10_14 {a : Int} : m_set (mk S e) 296 14 (vI a) = mk (up S 2014 0 0 a) e := sI 10 Z_10_14 K_10 (by decide)
theorem G_10_15 : m_get (mk S e) 296 10 15 = some (vR 308) := gR (by decide +kernel)
theorem G_10_16 : m_get (mk S e) 296 10 16 = some (vR 309) := gR (by decide +kernel)
theorem G_10_17 : m_get (mk S e) 296 10 17 = some (vR 310) := gR (by decide +kernel)
theorem G_10_18 : m_get (mk S e) 296 10 18 = some (vR 311) := gR (by decide +kernel)
theorem G_10_19 : m_get (mk S e) 296 10 19 = some (vR 312) := gR (by decide +kernel)
theorem G_10_20 : m_get (mk S e) 296 10 20 = some (vR 313) := gR (by decide +kernel)
theorem G_10_21 : m_get (mk S e) 296 10 21 = some (vR 314) := gR (by decide +kernel)
theorem G_10_22 : m_get (mk S e) 296 10 22 = some (vR 315) := gR (by decide +kernel)
theorem G_10_23 : m_get (mk S e) 296 10 23 = some (vR 316) := gR (by decide +kernel)
theorem G_10_24 : m_get (mk S e) 296 10 24 = some (vR 317) := gR (by decide +kernel)
theorem G_10_25 : m_get (mk S e) 296 10 25 = some (vR 318) := gR (by decide +kernel)
theorem Z_10_26 : m_isI (m_get hz 296 10 26) = true := by decide +kernel
theorem G_10_26 : m_get (mk S e) 296 10 26 = some (vI (S 2026 0 0)) := gI Z_10_26 K_10 (by decide)
theorem P_10_26 {a : Int} : m_set (mk S e) 296 26 (vI a) = mk (up S 2026 0 0 a) e := sI 10 Z_10_26 K_10 (by decide)
theorem G_10_27 : m_get (mk S e) 296 10 27 = some (vR 319) := gR (by decide +kernel)
theorem G_10_28 : m_get (mk S e) 296 10 28 = some (vR 320) := gR (by decide +kernel)
theorem G_10_29 : m_get (mk S e) 296 10 29 = some (vR 321) := gR (by decide +kernel)
theorem G_10_30 : m_get (mk S e) 296 10 30 = some (vR 322) := gR (by decide +kernel)
theorem G_10_31 : m_get (mk S e) 296 10 31 = some (vR 323) := gR (by decide +kernel)
theorem G_10_32 : m_get (mk S e) 296 10 32 = some (vR 324) := gR (by decide +kernel)
theorem G_10_33 : m_get (mk S e) 296 10 33 = some (vR 325) := gR (by decide +kernel)
theorem Z_10_34 : m_isI (m_get hz 296 10 34) = true := by decide +kernel
theorem G_10_34 : m_get (mk S e) 296 10 34 = some (vI (S 2034 0 0)) := gI Z_10_34 K_10 (by decide)
theorem P_10_34 {a : Int} : m_set (mk S e) 296 34 (vI a) = mk (up S 2034 0 0 a) e := sI 10 Z_10_34 K_10 (by decide)
theorem G_10_35 : m_get (mk S e) 296 10 35 = some (vR 326) := gR (by decide +kernel)
theorem G_10_36 : m_get (mk S e) 296 10 36 = some (vR 327) := gR (by decide +kernel)
theorem G_10_37 : m_get (mk S e) 296 10 37 = some (vR 328) := gR (by decide +kernel)
theorem G_10_38 : m_get (mk S e) 296 10 38 = some (vR 329) := gR (by decide +kernel)
theorem G_10_39 : m_get (mk S e) 296 10 39 = some (vR 330) := gR (by decide +kernel)
theorem G_10_40 : m_get (mk S e) 296 10 40 = some (vR 331) := gR (by decide +kernel)
theorem G_10_41 : m_get (mk S e) 296 10 41 = some (vR 332) := gR (by decide +kernel)
theorem G_10_42 : m_get (mk S e) 296 10 42 = some (vR 333) := gR (by decide +kernel)
theorem G_10_43 : m_get (mk S e) 296 10 43 = some (vR 334) := gR (by decide +kernel)
theorem G_10_44 : m_get (mk S e) 296 10 44 = some (vR 335) := gR (by decide +kernel)
theorem G_10_45 : m_get (mk S e) 296 10 45 = some (vR 336) := gR (by decide +kernel)
theorem G_10_46 : m_get (mk S e) 296 10 46 = some (vR 337) := gR (by decide +kernel)
theorem G_10_47 : m_get (mk S e) 296 10 47 = some (vR 338) := gR (by decide +kernel)
theorem G_10_48 : m_get (mk S e) 296 10 48 = some (vR 339) := gR (by decide +kernel)
theorem G_10_49 : m_get (mk S e) 296 10 49 = some (vR 340) := gR (by decide +kernel)
theorem T_a2 : m_tag (mk S e) 2 = some 36 := gT (by decide +kernel)
theorem Z_a2 : ∀ k, k < 10 → m_rf (m_get hz 2 36 k) = (st k) + 1 := by decide +kernel
theorem A_2 {x : Int} (h0 : 0 ≤ x) (h1 : x < 10) : m_age (mk S e) 2 36 x = some (vR (st x.toNat)) := aR (f := fun k => (st k)) Z_a2 h0 h1
theorem T_a254 : m_tag (mk S e) 254 = some 33 := gT (by decide +kernel)
theorem Z_a254 : ∀ k, k < 40 → m_rf (m_get hz 254 33 k) = (pe k) + 1 := by decide +kernel
theorem A_254 {x : Int} (h0 : 0 ≤ x) (h1 : x < 40) : m_age (mk S e) 254 33 x = some (vR (pe x.toNat)) := aR (f := fun k => (pe k)) Z_a254 h0 h1
theorem T_a255 : m_tag (mk S e) 255 = some 20 := gT (by decide +kernel)
theorem L_a255 : m_len (mk S e) 255 = some 180 := gL (by decide +kernel)
theorem K_a255 : kf 255 = (40, 0) := by decide +kernel
theorem Z_a255 : ∀ k, k < 180 → m_isI (m_get hz 255 20 k) = true := by decide +kernel
theorem A_255 {x : Int} (h0 : 0 ≤ x) (h1 : x < 180) : m_age (mk S e) 255 20 x = some (vI (S 40 0 x.toNat)) := aI Z_a255 K_a255 (by decide) h0 h1
theorem B_255 {x : Nat} {a : Int} (h1 : x < 180) : m_set (mk S e) 255 x (vI a) = mk (up S 40 0 x a) e := tI 20 Z_a255 K_a255 (by decide) h1
theorem T_a297 : m_tag (mk S e) 297 = some 20 := gT (by decide +kernel)
theorem L_a297 : m_len (mk S e) 297 = some 10 := gL (by decide +kernel)
theorem K_a297 : kf 297 = (50, 0) := by decide +kernel
theorem Z_a297 : ∀ k, k < 10 → m_isI (m_get hz 297 20 k) = true := by decide +kernel
theorem A_297 {x : Int} (h0 : 0 ≤ x) (h1 : x < 10) : m_age (mk S e) 297 20 x = some (vI (S 50 0 x.toNat)) := aI Z_a297 K_a297 (by decide) h0 h1
theorem B_297 {x : Nat} {a : Int} (h1 : x < 10) : m_set (mk S e) 297 x (vI a) = mk (up S 50 0 x a) e := tI 20 Z_a297 K_a297 (by decide) h1
theorem T_a298 : m_tag (mk S e) 298 = some 20 := gT (by decide +kernel)
theorem L_a298 : m_len (mk S e) 298 = some 10 := gL (by decide +kernel)
theorem K_a298 : kf 298 = (51, 0) := by decide +kernel
theorem Z_a298 : ∀ k, k < 10 → m_isI (m_get hz 298 20 k) = true := by decide +kernel
theorem A_298 {x : Int} (h0 : 0 ≤ x) (h1 : x < 10) : m_age (mk S e) 298 20 x = some (vI (S 51 0 x.toNat)) := aI Z_a298 K_a298 (by decide) h0 h1
theorem B_298 {x : Nat} {a : Int} (h1 : x < 10) : m_set (mk S e) 298 x (vI a) = mk (up S 51 0 x a) e := tI 20 Z_a298 K_a298 (by decide) h1
theorem T_a299 : m_tag (mk S e) 299 = some 20 := gT (by decide +kernel)
theorem L_a299 : m_len (mk S e) 299 = some 6 := gL (by decide +kernel)
theorem K_a299 : kf 299 = (52, 0) := by decide +kernel
theorem Z_a299 : ∀ k, k < 6 → m_isI (m_get hz 299 20 k) = true := by decide +kernel
theorem A_299 {x : Int} (h0 : 0 ≤ x) (h1 : x < 6) : m_age (mk S e) 299 20 x = some (vI (S 52 0 x.toNat)) := aI Z_a299 K_a299 (by decide) h0 h1
theorem B_299 {x : Nat} {a : Int} (h1 : x < 6) : m_set (mk S e) 299 x (vI a) = mk (up S 52 0 x a) e := tI 20 Z_a299 K_a299 (by decide) h1
theorem T_a3 : m_tag (mk S e) 3 = some 37 := gT (by decide +kernel)
theorem Z_a3 : ∀ k, k < 6 → m_rf (m_get hz 3 37 k) = (tr k) + 1 := by decide +kernel
theorem A_3 {x : Int} (h0 : 0 ≤ x) (h1 : x < 6) : m_age (mk S e) 3 37 x = some (vR (tr x.toNat)) := aR (f := fun k => (tr k)) Z_a3 h0 h1
theorem T_a300 : m_tag (mk S e) 300 = some 20 := gT (by decide +kernel)
theorem L_a300 : m_len (mk S e) 300 = some 6 := gL (by decide +kernel)
theorem K_a300 : kf 300 = (53, 0) := by decide +kernel
theorem Z_a300 : ∀ k, k < 6 → m_isI (m_get hz 300 20 k) = true := by decide +kernel
theorem A_300 {x : Int} (h0 : 0 ≤ x) (h1 : x < 6) : m_age (mk S e) 300 20 x = some (vI (S 53 0 x.toNat)) := aI Z_a300 K_a300 (by decide) h0 h1
theorem B_300 {x : Nat} {a : Int} (h1 : x < 6) : m_set (mk S e) 300 x (vI a) = mk (up S 53 0 x a) e := tI 20 Z_a300 K_a300 (by decide) h1
theorem T_a301 : m_tag (mk S e) 301 = some 20 := gT (by decide +kernel)
theorem L_a301 : m_len (mk S e) 301 = some 6 := gL (by decide +kernel)
theorem K_a301 : kf 301 = (54, 0) := by decide +kernel
theorem Z_a301 : ∀ k, k < 6 → m_isI (m_get hz 301 20 k) = true := by decide +kernel
theorem A_301 {x : Int} (h0 : 0 ≤ x) (h1 : x < 6) : m_age (mk S e) 301 20 x = some (vI (S 54 0 x.toNat)) := aI Z_a301 K_a301 (by decide) h0 h1
theorem B_301 {x : Nat} {a : Int} (h1 : x < 6) : m_set (mk S e) 301 x (vI a) = mk (up S 54 0 x a) e := tI 20 Z_a301 K_a301 (by decide) h1
theorem T_a302 : m_tag (mk S e) 302 = some 20 := gT (by decide +kernel)
theorem L_a302 : m_len (mk S e) 302 = some 36 := gL (by decide +kernel)
theorem K_a302 : kf 302 = (55, 0) := by decide +kernel
theorem Z_a302 : ∀ k, k < 36 → m_isI (m_get hz 302 20 k) = true := by decide +kernel
theorem A_302 {x : Int} (h0 : 0 ≤ x) (h1 : x < 36) : m_age (mk S e) 302 20 x = some (vI (S 55 0 x.toNat)) := aI Z_a302 K_a302 (by decide) h0 h1
theorem B_302 {x : Nat} {a : Int} (h1 : x < 36) : m_set (mk S e) 302 x (vI a) = mk (up S 55 0 x a) e := tI 20 Z_a302 K_a302 (by decide) h1
theorem T_a303 : m_tag (mk S e) 303 = some 20 := gT (by decide +kernel)
theorem L_a303 : m_len (mk S e) 303 = some 36 := gL (by decide +kernel)
theorem K_a303 : kf 303 = (56, 0) := by decide +kernel
theorem Z_a303 : ∀ k, k < 36 → m_isI (m_get hz 303 20 k) = true := by decide +kernel
theorem A_303 {x : Int} (h0 : 0 ≤ x) (h1 : x < 36) : m_age (mk S e) 303 20 x = some (vI (S 56 0 x.toNat)) := aI Z_a303 K_a303 (by decide) h0 h1
theorem B_303 {x : Nat} {a : Int} (h1 : x < 36) : m_set (mk S e) 303 x (vI a) = mk (up S 56 0 x a) e := tI 20 Z_a303 K_a303 (by decide) h1
theorem T_a304 : m_tag (mk S e) 304 = some 20 := gT (by decide +kernel)
theorem L_a304 : m_len (mk S e) 304 = some 36 := gL (by decide +kernel)
theorem K_a304 : kf 304 = (57, 0) := by decide +kernel
theorem Z_a304 : ∀ k, k < 36 → m_isI (m_get hz 304 20 k) = true := by decide +kernel
theorem A_304 {x : Int} (h0 : 0 ≤ x) (h1 : x < 36) : m_age (mk S e) 304 20 x = some (vI (S 57 0 x.toNat)) := aI Z_a304 K_a304 (by decide) h0 h1
theorem B_304 {x : Nat} {a : Int} (h1 : x < 36) : m_set (mk S e) 304 x (vI a) = mk (up S 57 0 x a) e := tI 20 Z_a304 K_a304 (by decide) h1
theorem T_a305 : m_tag (mk S e) 305 = some 20 := gT (by decide +kernel)
theorem L_a305 : m_len (mk S e) 305 = some 36 := gL (by decide +kernel)
theorem K_a305 : kf 305 = (58, 0) := by decide +kernel
theorem Z_a305 : ∀ k, k < 36 → m_isI (m_get hz 305 20 k) = true := by decide +kernel
theorem A_305 {x : Int} (h0 : 0 ≤ x) (h1 : x < 36) : m_age (mk S e) 305 20 x = some (vI (S 58 0 x.toNat)) := aI Z_a305 K_a305 (by decide) h0 h1
theorem B_305 {x : Nat} {a : Int} (h1 : x < 36) : m_set (mk S e) 305 x (vI a) = mk (up S 58 0 x a) e := tI 20 Z_a305 K_a305 (by decide) h1
theorem T_a306 : m_tag (mk S e) 306 = some 20 := gT (by decide +kernel)
theorem L_a306 : m_len (mk S e) 306 = some 36 := gL (by decide +kernel)
theorem K_a306 : kf 306 = (59, 0) := by decide +kernel
theorem Z_a306 : ∀ k, k < 36 → m_isI (m_get hz 306 20 k) = true := by decide +kernel
theorem A_306 {x : Int} (h0 : 0 ≤ x) (h1 : x < 36) : m_age (mk S e) 306 20 x = some (vI (S 59 0 x.toNat)) := aI Z_a306 K_a306 (by decide) h0 h1
theorem B_306 {x : Nat} {a : Int} (h1 : x < 36) : m_set (mk S e) 306 x (vI a) = mk (up S 59 0 x a) e := tI 20 Z_a306 K_a306 (by decide) h1
theorem T_a307 : m_tag (mk S e) 307 = some 20 := gT (by decide +kernel)
theorem L_a307 : m_len (mk S e) 307 = some 36 := gL (by decide +kernel)
theorem K_a307 : kf 307 = (60, 0) := by decide +kernel
theorem Z_a307 : ∀ k, k < 36 → m_isI (m_get hz 307 20 k) = true := by decide +kernel
theorem A_307 {x : Int} (h0 : 0 ≤ x) (h1 : x < 36) : m_age (mk S e) 307 20 x = some (vI (S 60 0 x.toNat)) := aI Z_a307 K_a307 (by decide) h0 h1
theorem B_307 {x : Nat} {a : Int} (h1 : x < 36) : m_set (mk S e) 307 x (vI a) = mk (up S 60 0 x a) e := tI 20 Z_a307 K_a307 (by decide) h1
theorem T_a308 : m_tag (mk S e) 308 = some 20 := gT (by decide +kernel)
theorem L_a308 : m_len (mk S e) 308 = some 10 := gL (by decide +kernel)
theorem K_a308 : kf 308 = (61, 0) := by decide +kernel
theorem Z_a308 : ∀ k, k < 10 → m_isI (m_get hz 308 20 k) = true := by decide +kernel
theorem A_308 {x : Int} (h0 : 0 ≤ x) (h1 : x < 10) : m_age (mk S e) 308 20 x = some (vI (S 61 0 x.toNat)) := aI Z_a308 K_a308 (by decide) h0 h1
theorem B_308 {x : Nat} {a : Int} (h1 : x < 10) : m_set (mk S e) 308 x (vI a) = mk (up S 61 0 x a) e := tI 20 Z_a308 K_a308 (by decide) h1
theorem T_a309 : m_tag (mk S e) 309 = some 20 := gT (by decide +kernel)
theorem L_a309 : m_len (mk S e) 309 = some 10 := gL (by decide +kernel)
theorem K_a309 : kf 309 = (62, 0) := by decide +kernel
theorem Z_a309 : ∀ k, k < 10 → m_isI (m_get hz 309 20 k) = true := by decide +kernel
theorem A_309 {x : Int} (h0 : 0 ≤ x) (h1 : x < 10) : m_age (mk S e) 309 20 x = some (vI (S 62 0 x.toNat)) := aI Z_a309 K_a309 (by decide) h0 h1
theorem B_309 {x : Nat} {a : Int} (h1 : x < 10) : m_set (mk S e) 309 x (vI a) = mk (up S 62 0 x a) e := tI 20 Z_a309 K_a309 (by decide) h1
theorem T_a310 : m_tag (mk S e) 310 = some 20 := gT (by decide +kernel)
theorem L_a310 : m_len (mk S e) 310 = some 10 := gL (by decide +kernel)
theorem K_a310 : kf 310 = (63, 0) := by decide +kernel
theorem Z_a310 : ∀ k, k < 10 → m_isI (m_get hz 310 20 k) = true := by decide +kernel
theorem A_310 {x : Int} (h0 : 0 ≤ x) (h1 : x < 10) : m_age (mk S e) 310 20 x = some (vI (S 63 0 x.toNat)) := aI Z_a310 K_a310 (by decide) h0 h1
theorem B_310 {x : Nat} {a : Int} (h1 : x < 10) : m_set (mk S e) 310 x (vI a) = mk (up S 63 0 x a) e := tI 20 Z_a310 K_a310 (by decide) h1
theorem T_a311 : m_tag (mk S e) 311 = some 20 := gT (by decide +kernel)
theorem L_a311 : m_len (mk S e) 311 = some 10 := gL (by decide +kernel)
theorem K_a311 : kf 311 = (64, 0) := by decide +kernel
theorem Z_a311 : ∀ k, k < 10 → m_isI (m_get hz 311 20 k) = true := by decide +kernel
theorem A_311 {x : Int} (h0 : 0 ≤ x) (h1 : x < 10) : m_age (mk S e) 311 20 x = some (vI (S 64 0 x.toNat)) := aI Z_a311 K_a311 (by decide) h0 h1
theorem B_311 {x : Nat} {a : Int} (h1 : x < 10) : m_set (mk S e) 311 x (vI a) = mk (up S 64 0 x a) e := tI 20 Z_a311 K_a311 (by decide) h1
theorem T_a312 : m_tag (mk S e) 312 = some 20 := gT (by decide +kernel)
theorem L_a312 : m_len (mk S e) 312 = some 10 := gL (by decide +kernel)
theorem K_a312 : kf 312 = (65, 0) := by decide +kernel
theorem Z_a312 : ∀ k, k < 10 → m_isI (m_get hz 312 20 k) = true := by decide +kernel
theorem A_312 {x : Int} (h0 : 0 ≤ x) (h1 : x < 10) : m_age (mk S e) 312 20 x = some (vI (S 65 0 x.toNat)) := aI Z_a312 K_a312 (by decide) h0 h1
theorem B_312 {x : Nat} {a : Int} (h1 : x < 10) : m_set (mk S e) 312 x (vI a) = mk (up S 65 0 x a) e := tI 20 Z_a312 K_a312 (by decide) h1
theorem T_a313 : m_tag (mk S e) 313 = some 20 := gT (by decide +kernel)
theorem L_a313 : m_len (mk S e) 313 = some 10 := gL (by decide +kernel)
theorem K_a313 : kf 313 = (66, 0) := by decide +kernel
theorem Z_a313 : ∀ k, k < 10 → m_isI (m_get hz 313 20 k) = true := by decide +kernel
theorem A_313 {x : Int} (h0 : 0 ≤ x) (h1 : x < 10) : m_age (mk S e) 313 20 x = some (vI (S 66 0 x.toNat)) := aI Z_a313 K_a313 (by decide) h0 h1
theorem B_313 {x : Nat} {a : Int} (h1 : x < 10) : m_set (mk S e) 313 x (vI a) = mk (up S 66 0 x a) e := tI 20 Z_a313 K_a313 (by decide) h1
theorem T_a314 : m_tag (mk S e) 314 = some 21 := gT (by decide +kernel)
theorem K_a314 : kf 314 = (67, 0) := by decide +kernel
theorem Z_a314 : ∀ k, k < 10 → m_isI (m_get hz 314 21 k) = true := by decide +kernel
theorem A_314 {x : Int} (h0 : 0 ≤ x) (h1 : x < 10) : m_age (mk S e) 314 21 x = some (vI (S 67 0 x.toNat)) := aI Z_a314 K_a314 (by decide) h0 h1
theorem B_314 {x : Nat} {a : Int} (h1 : x < 10) : m_set (mk S e) 314 x (vI a) = mk (up S 67 0 x a) e := tI 21 Z_a314 K_a314 (by decide) h1
theorem T_a315 : m_tag (mk S e) 315 = some 21 := gT (by decide +kernel)
theorem K_a315 : kf 315 = (68, 0) := by decide +kernel
theorem Z_a315 : ∀ k, k < 10 → m_isI (m_get hz 315 21 k) = true := by decide +kernel
theorem A_315 {x : Int} (h0 : 0 ≤ x) (h1 : x < 10) : m_age (mk S e) 315 21 x = some (vI (S 68 0 x.toNat)) := aI Z_a315 K_a315 (by decide) h0 h1
theorem B_315 {x : Nat} {a : Int} (h1 : x < 10) : m_set (mk S e) 315 x (vI a) = mk (up S 68 0 x a) e := tI 21 Z_a315 K_a315 (by decide) h1
theorem T_a316 : m_tag (mk S e) 316 = some 20 := gT (by decide +kernel)
theorem L_a316 : m_len (mk S e) 316 = some 10 := gL (by decide +kernel)
theorem K_a316 : kf 316 = (69, 0) := by decide +kernel
theorem Z_a316 : ∀ k, k < 10 → m_isI (m_get hz 316 20 k) = true := by decide +kernel
theorem A_316 {x : Int} (h0 : 0 ≤ x) (h1 : x < 10) : m_age (mk S e) 316 20 x = some (vI (S 69 0 x.toNat)) := aI Z_a316 K_a316 (by decide) h0 h1
theorem B_316 {x : Nat} {a : Int} (h1 : x < 10) : m_set (mk S e) 316 x (vI a) = mk (up S 69 0 x a) e := tI 20 Z_a316 K_a316 (by decide) h1
theorem T_a317 : m_tag (mk S e) 317 = some 20 := gT (by decide +kernel)
theorem L_a317 : m_len (mk S e) 317 = some 30 := gL (by decide +kernel)
theorem K_a317 : kf 317 = (70, 0) := by decide +kernel
theorem Z_a317 : ∀ k, k < 30 → m_isI (m_get hz 317 20 k) = true := by decide +kernel
theorem A_317 {x : Int} (h0 : 0 ≤ x) (h1 : x < 30) : m_age (mk S e) 317 20 x = some (vI (S 70 0 x.toNat)) := aI Z_a317 K_a317 (by decide) h0 h1
theorem B_317 {x : Nat} {a : Int} (h1 : x < 30) : m_set (mk S e) 317 x (vI a) = mk (up S 70 0 x a) e := tI 20 Z_a317 K_a317 (by decide) h1
theorem T_a318 : m_tag (mk S e) 318 = some 20 := gT (by decide +kernel)
theorem L_a318 : m_len (mk S e) 318 = some 30 := gL (by decide +kernel)
theorem K_a318 : kf 318 = (71, 0) := by decide +kernel
theorem Z_a318 : ∀ k, k < 30 → m_isI (m_get hz 318 20 k) = true := by decide +kernel
theorem A_318 {x : Int} (h0 : 0 ≤ x) (h1 : x < 30) : m_age (mk S e) 318 20 x = some (vI (S 71 0 x.toNat)) := aI Z_a318 K_a318 (by decide) h0 h1
theorem B_318 {x : Nat} {a : Int} (h1 : x < 30) : m_set (mk S e) 318 x (vI a) = mk (up S 71 0 x a) e := tI 20 Z_a318 K_a318 (by decide) h1
theorem T_a319 : m_tag (mk S e) 319 = some 21 := gT (by decide +kernel)
theorem K_a319 : kf 319 = (72, 0) := by decide +kernel
theorem Z_a319 : ∀ k, k < 40 → m_isI (m_get hz 319 21 k) = true := by decide +kernel
theorem A_319 {x : Int} (h0 : 0 ≤ x) (h1 : x < 40) : m_age (mk S e) 319 21 x = some (vI (S 72 0 x.toNat)) := aI Z_a319 K_a319 (by decide) h0 h1
theorem B_319 {x : Nat} {a : Int} (h1 : x < 40) : m_set (mk S e) 319 x (vI a) = mk (up S 72 0 x a) e := tI 21 Z_a319 K_a319 (by decide) h1
theorem T_a320 : m_tag (mk S e) 320 = some 20 := gT (by decide +kernel)
theorem L_a320 : m_len (mk S e) 320 = some 40 := gL (by decide +kernel)
theorem K_a320 : kf 320 = (73, 0) := by decide +kernel
theorem Z_a320 : ∀ k, k < 40 → m_isI (m_get hz 320 20 k) = true := by decide +kernel
theorem A_320 {x : Int} (h0 : 0 ≤ x) (h1 : x < 40) : m_age (mk S e) 320 20 x = some (vI (S 73 0 x.toNat)) := aI Z_a320 K_a320 (by decide) h0 h1
theorem B_320 {x : Nat} {a : Int} (h1 : x < 40) : m_set (mk S e) 320 x (vI a) = mk (up S 73 0 x a) e := tI 20 Z_a320 K_a320 (by decide) h1
theorem T_a321 : m_tag (mk S e) 321 = some 20 := gT (by decide +kernel)
theorem L_a321 : m_len (mk S e) 321 = some 40 := gL (by decide +kernel)
theorem K_a321 : kf 321 = (74, 0) := by decide +kernel
theorem Z_a321 : ∀ k, k < 40 → m_isI (m_get hz 321 20 k) = true := by decide +kernel
theorem A_321 {x : Int} (h0 : 0 ≤ x) (h1 : x < 40) : m_age (mk S e) 321 20 x = some (vI (S 74 0 x.toNat)) := aI Z_a321 K_a321 (by decide) h0 h1
theorem B_321 {x : Nat} {a : Int} (h1 : x < 40) : m_set (mk S e) 321 x (vI a) = mk (up S 74 0 x a) e := tI 20 Z_a321 K_a321 (by decide) h1
theorem T_a322 : m_tag (mk S e) 322 = some 20 := gT (by decide +kernel)
theorem L_a322 : m_len (mk S e) 322 = some 40 := gL (by decide +kernel)
theorem K_a322 : kf 322 = (75, 0) := by decide +kernel
theorem Z_a322 : ∀ k, k < 40 → m_isI (m_get hz 322 20 k) = true := by decide +kernel
theorem A_322 {x : Int} (h0 : 0 ≤ x) (h1 : x < 40) : m_age (mk S e) 322 20 x = some (vI (S 75 0 x.toNat)) := aI Z_a322 K_a322 (by decide) h0 h1
theorem B_322 {x : Nat} {a : Int} (h1 : x < 40) : m_set (mk S e) 322 x (vI a) = mk (up S 75 0 x a) e := tI 20 Z_a322 K_a322 (by decide) h1
theorem T_a323 : m_tag (mk S e) 323 = some 20 := gT (by decide +kernel)
theorem L_a323 : m_len (mk S e) 323 = some 40 := gL (by decide +kernel)
theorem K_a323 : kf 323 = (76, 0) := by decide +kernel
theorem Z_a323 : ∀ k, k < 40 → m_isI (m_get hz 323 20 k) = true := by decide +kernel
theorem A_323 {x : Int} (h0 : 0 ≤ x) (h1 : x < 40) : m_age (mk S e) 323 20 x = some (vI (S 76 0 x.toNat)) := aI Z_a323 K_a323 (by decide) h0 h1
theorem B_323 {x : Nat} {a : Int} (h1 : x < 40) : m_set (mk S e) 323 x (vI a) = mk (up S 76 0 x a) e := tI 20 Z_a323 K_a323 (by decide) h1
theorem T_a324 : m_tag (mk S e) 324 = some 20 := gT (by decide +kernel)
theorem L_a324 : m_len (mk S e) 324 = some 40 := gL (by decide +kernel)
theorem K_a324 : kf 324 = (77, 0) := by decide +kernel
theorem Z_a324 : ∀ k, k < 40 → m_isI (m_get hz 324 20 k) = true := by decide +kernel
theorem A_324 {x : Int} (h0 : 0 ≤ x) (h1 : x < 40) : m_age (mk S e) 324 20 x = some (vI (S 77 0 x.toNat)) := aI Z_a324 K_a324 (by decide) h0 h1
theorem B_324 {x : Nat} {a : Int} (h1 : x < 40) : m_set (mk S e) 324 x (vI a) = mk (up S 77 0 x a) e := tI 20 Z_a324 K_a324 (by decide) h1
theorem T_a325 : m_tag (mk S e) 325 = some 20 := gT (by decide +kernel)
theorem L_a325 : m_len (mk S e) 325 = some 180 := gL (by decide +kernel)
theorem K_a325 : kf 325 = (78, 0) := by decide +kernel
theorem Z_a325 : ∀ k, k < 180 → m_isI (m_get hz 325 20 k) = true := by decide +kernel
theorem A_325 {x : Int} (h0 : 0 ≤ x) (h1 : x < 180) : m_age (mk S e) 325 20 x = some (vI (S 78 0 x.toNat)) := aI Z_a325 K_a325 (by decide) h0 h1
theorem B_325 {x : Nat} {a : Int} (h1 : x < 180) : m_set (mk S e) 325 x (vI a) = mk (up S 78 0 x a) e := tI 20 Z_a325 K_a325 (by decide) h1
theorem T_a326 : m_tag (mk S e) 326 = some 20 := gT (by decide +kernel)
theorem L_a326 : m_len (mk S e) 326 = some 36 := gL (by decide +kernel)
theorem K_a326 : kf 326 = (79, 0) := by decide +kernel
theorem Z_a326 : ∀ k, k < 36 → m_isI (m_get hz 326 20 k) = true := by decide +kernel
theorem A_326 {x : Int} (h0 : 0 ≤ x) (h1 : x < 36) : m_age (mk S e) 326 20 x = some (vI (S 79 0 x.toNat)) := aI Z_a326 K_a326 (by decide) h0 h1
theorem B_326 {x : Nat} {a : Int} (h1 : x < 36) : m_set (mk S e) 326 x (vI a) = mk (up S 79 0 x a) e := tI 20 Z_a326 K_a326 (by decide) h1
theorem T_a327 : m_tag (mk S e) 327 = some 20 := gT (by decide +kernel)
theorem L_a327 : m_len (mk S e) 327 = some 36 := gL (by decide +kernel)
theorem K_a327 : kf 327 = (80, 0) := by decide +kernel
theorem Z_a327 : ∀ k, k < 36 → m_isI (m_get hz 327 20 k) = true := by decide +kernel
theorem A_327 {x : Int} (h0 : 0 ≤ x) (h1 : x < 36) : m_age (mk S e) 327 20 x = some (vI (S 80 0 x.toNat)) := aI Z_a327 K_a327 (by decide) h0 h1
theorem B_327 {x : Nat} {a : Int} (h1 : x < 36) : m_set (mk S e) 327 x (vI a) = mk (up S 80 0 x a) e := tI 20 Z_a327 K_a327 (by decide) h1
theorem T_a328 : m_tag (mk S e) 328 = some 20 := gT (by decide +kernel)
theorem L_a328 : m_len (mk S e) 328 = some 6 := gL (by decide +kernel)
theorem K_a328 : kf 328 = (81, 0) := by decide +kernel
theorem Z_a328 : ∀ k, k < 6 → m_isI (m_get hz 328 20 k) = true := by decide +kernel
theorem A_328 {x : Int} (h0 : 0 ≤ x) (h1 : x < 6) : m_age (mk S e) 328 20 x = some (vI (S 81 0 x.toNat)) := aI Z_a328 K_a328 (by decide) h0 h1
theorem B_328 {x : Nat} {a : Int} (h1 : x < 6) : m_set (mk S e) 328 x (vI a) = mk (up S 81 0 x a) e := tI 20 Z_a328 K_a328 (by decide) h1
theorem T_a329 : m_tag (mk S e) 329 = some 21 := gT (by decide +kernel)
theorem K_a329 : kf 329 = (82, 0) := by decide +kernel
theorem Z_a329 : ∀ k, k < 6 → m_isI (m_get hz 329 21 k) = true := by decide +kernel
theorem A_329 {x : Int} (h0 : 0 ≤ x) (h1 : x < 6) : m_age (mk S e) 329 21 x = some (vI (S 82 0 x.toNat)) := aI Z_a329 K_a329 (by decide) h0 h1
theorem B_329 {x : Nat} {a : Int} (h1 : x < 6) : m_set (mk S e) 329 x (vI a) = mk (up S 82 0 x a) e := tI 21 Z_a329 K_a329 (by decide) h1
theorem T_a330 : m_tag (mk S e) 330 = some 20 := gT (by decide +kernel)
theorem L_a330 : m_len (mk S e) 330 = some 60 := gL (by decide +kernel)
theorem K_a330 : kf 330 = (83, 0) := by decide +kernel
theorem Z_a330 : ∀ k, k < 60 → m_isI (m_get hz 330 20 k) = true := by decide +kernel
theorem A_330 {x : Int} (h0 : 0 ≤ x) (h1 : x < 60) : m_age (mk S e) 330 20 x = some (vI (S 83 0 x.toNat)) := aI Z_a330 K_a330 (by decide) h0 h1
theorem B_330 {x : Nat} {a : Int} (h1 : x < 60) : m_set (mk S e) 330 x (vI a) = mk (up S 83 0 x a) e := tI 20 Z_a330 K_a330 (by decide) h1
theorem T_a331 : m_tag (mk S e) 331 = some 20 := gT (by decide +kernel)
theorem L_a331 : m_len (mk S e) 331 = some 6 := gL (by decide +kernel)
theorem K_a331 : kf 331 = (84, 0) := by decide +kernel
theorem Z_a331 : ∀ k, k < 6 → m_isI (m_get hz 331 20 k) = true := by decide +kernel
theorem A_331 {x : Int} (h0 : 0 ≤ x) (h1 : x < 6) : m_age (mk S e) 331 20 x = some (vI (S 84 0 x.toNat)) := aI Z_a331 K_a331 (by decide) h0 h1
theorem B_331 {x : Nat} {a : Int} (h1 : x < 6) : m_set (mk S e) 331 x (vI a) = mk (up S 84 0 x a) e := tI 20 Z_a331 K_a331 (by decide) h1
theorem T_a332 : m_tag (mk S e) 332 = some 20 := gT (by decide +kernel)
theorem L_a332 : m_len (mk S e) 332 = some 36 := gL (by decide +kernel)
theorem K_a332 : kf 332 = (85, 0) := by decide +kernel
theorem Z_a332 : ∀ k, k < 36 → m_isI (m_get hz 332 20 k) = true := by decide +kernel
theorem A_332 {x : Int} (h0 : 0 ≤ x) (h1 : x < 36) : m_age (mk S e) 332 20 x = some (vI (S 85 0 x.toNat)) := aI Z_a332 K_a332 (by decide) h0 h1
theorem B_332 {x : Nat} {a : Int} (h1 : x < 36) : m_set (mk S e) 332 x (vI a) = mk (up S 85 0 x a) e := tI 20 Z_a332 K_a332 (by decide) h1
theorem T_a333 : m_tag (mk S e) 333 = some 20 := gT (by decide +kernel)
theorem L_a333 : m_len (mk S e) 333 = some 36 := gL (by decide +kernel)
theorem K_a333 : kf 333 = (86, 0) := by decide +kernel
theorem Z_a333 : ∀ k, k < 36 → m_isI (m_get hz 333 20 k) = true := by decide +kernel
theorem A_333 {x : Int} (h0 : 0 ≤ x) (h1 : x < 36) : m_age (mk S e) 333 20 x = some (vI (S 86 0 x.toNat)) := aI Z_a333 K_a333 (by decide) h0 h1
theorem B_333 {x : Nat} {a : Int} (h1 : x < 36) : m_set (mk S e) 333 x (vI a) = mk (up S 86 0 x a) e := tI 20 Z_a333 K_a333 (by decide) h1
theorem T_a334 : m_tag (mk S e) 334 = some 20 := gT (by decide +kernel)
theorem L_a334 : m_len (mk S e) 334 = some 360 := gL (by decide +kernel)
theorem K_a334 : kf 334 = (87, 0) := by decide +kernel
theorem Z_a334 : ∀ k, k < 360 → m_isI (m_get hz 334 20 k) = true := by decide +kernel
theorem A_334 {x : Int} (h0 : 0 ≤ x) (h1 : x < 360) : m_age (mk S e) 334 20 x = some (vI (S 87 0 x.toNat)) := aI Z_a334 K_a334 (by decide) h0 h1
theorem B_334 {x : Nat} {a : Int} (h1 : x < 360) : m_set (mk S e) 334 x (vI a) = mk (up S 87 0 x a) e := tI 20 Z_a334 K_a334 (by decide) h1
theorem T_a335 : m_tag (mk S e) 335 = some 20 := gT (by decide +kernel)
theorem L_a335 : m_len (mk S e) 335 = some 10 := gL (by decide +kernel)
theorem K_a335 : kf 335 = (88, 0) := by decide +kernel
theorem Z_a335 : ∀ k, k < 10 → m_isI (m_get hz 335 20 k) = true := by decide +kernel
theorem A_335 {x : Int} (h0 : 0 ≤ x) (h1 : x < 10) : m_age (mk S e) 335 20 x = some (vI (S 88 0 x.toNat)) := aI Z_a335 K_a335 (by decide) h0 h1
theorem B_335 {x : Nat} {a : Int} (h1 : x < 10) : m_set (mk S e) 335 x (vI a) = mk (up S 88 0 x a) e := tI 20 Z_a335 K_a335 (by decide) h1
theorem T_a336 : m_tag (mk S e) 336 = some 20 := gT (by decide +kernel)
theorem L_a336 : m_len (mk S e) 336 = some 10 := gL (by decide +kernel)
theorem K_a336 : kf 336 = (89, 0) := by decide +kernel
theorem Z_a336 : ∀ k, k < 10 → m_isI (m_get hz 336 20 k) = true := by decide +kernel
theorem A_336 {x : Int} (h0 : 0 ≤ x) (h1 : x < 10) : m_age (mk S e) 336 20 x = some (vI (S 89 0 x.toNat)) := aI Z_a336 K_a336 (by decide) h0 h1
theorem B_336 {x : Nat} {a : Int} (h1 : x < 10) : m_set (mk S e) 336 x (vI a) = mk (up S 89 0 x a) e := tI 20 Z_a336 K_a336 (by decide) h1
theorem T_a337 : m_tag (mk S e) 337 = some 20 := gT (by decide +kernel)
theorem L_a337 : m_len (mk S e) 337 = some 10 := gL (by decide +kernel)
theorem K_a337 : kf 337 = (90, 0) := by decide +kernel
theorem Z_a337 : ∀ k, k < 10 → m_isI (m_get hz 337 20 k) = true := by decide +kernel
theorem A_337 {x : Int} (h0 : 0 ≤ x) (h1 : x < 10) : m_age (mk S e) 337 20 x = some (vI (S 90 0 x.toNat)) := aI Z_a337 K_a337 (by decide) h0 h1
theorem B_337 {x : Nat} {a : Int} (h1 : x < 10) : m_set (mk S e) 337 x (vI a) = mk (up S 90 0 x a) e := tI 20 Z_a337 K_a337 (by decide) h1
theorem T_a338 : m_tag (mk S e) 338 = some 20 := gT (by decide +kernel)
theorem L_a338 : m_len (mk S e) 338 = some 10 := gL (by decide +kernel)
theorem K_a338 : kf 338 = (91, 0) := by decide +kernel
theorem Z_a338 : ∀ k, k < 10 → m_isI (m_get hz 338 20 k) = true := by decide +kernel
theorem A_338 {x : Int} (h0 : 0 ≤ x) (h1 : x < 10) : m_age (mk S e) 338 20 x = some (vI (S 91 0 x.toNat)) := aI Z_a338 K_a338 (by decide) h0 h1
theorem B_338 {x : Nat} {a : Int} (h1 : x < 10) : m_set (mk S e) 338 x (vI a) = mk (up S 91 0 x a) e := tI 20 Z_a338 K_a338 (by decide) h1
theorem T_a339 : m_tag (mk S e) 339 = some 21 := gT (by decide +kernel)
theorem K_a339 : kf 339 = (92, 0) := by decide +kernel
theorem Z_a339 : ∀ k, k < 10 → m_isI (m_get hz 339 21 k) = true := by decide +kernel
theorem A_339 {x : Int} (h0 : 0 ≤ x) (h1 : x < 10) : m_age (mk S e) 339 21 x = some (vI (S 92 0 x.toNat)) := aI Z_a339 K_a339 (by decide) h0 h1
theorem B_339 {x : Nat} {a : Int} (h1 : x < 10) : m_set (mk S e) 339 x (vI a) = mk (up S 92 0 x a) e := tI 21 Z_a339 K_a339 (by decide) h1
theorem T_a340 : m_tag (mk S e) 340 = some 20 := gT (by decide +kernel)
theorem L_a340 : m_len (mk S e) 340 = some 36 := gL (by decide +kernel)
theorem K_a340 : kf 340 = (93, 0) := by decide +kernel
theorem Z_a340 : ∀ k, k < 36 → m_isI (m_get hz 340 20 k) = true := by decide +kernel
theorem A_340 {x : Int} (h0 : 0 ≤ x) (h1 : x < 36) : m_age (mk S e) 340 20 x = some (vI (S 93 0 x.toNat)) := aI Z_a340 K_a340 (by decide) h0 h1
theorem B_340 {x : Nat} {a : Int} (h1 : x < 36) : m_set (mk S e) 340 x (vI a) = mk (up S 93 0 x a) e := tI 20 Z_a340 K_a340 (by decide) h1
theorem T_a4 : m_tag (mk S e) 4 = some 31 := gT (by decide +kernel)
theorem Z_a4 : ∀ k, k < 10 → m_rf (m_get hz 4 31 k) = (co k) + 1 := by decide +kernel
theorem A_4 {x : Int} (h0 : 0 ≤ x) (h1 : x < 10) : m_age (mk S e) 4 31 x = some (vR (co x.toNat)) := aR (f := fun k => (co k)) Z_a4 h0 h1
theorem T_acoA0 {i : Nat} (hi : i < 10) : m_tag (mk S e) (coA0 i) = some 20 := gT ((by decide +kernel : ∀ i, i < 10 → m_tag hz (coA0 i) = some 20) _ hi)
theorem L_acoA0 {i : Nat} (hi : i < 10) : m_len (mk S e) (coA0 i) = some 3 := gL ((by decide +kernel : ∀ i, i < 10 → m_len hz (coA0 i) = some 3) _ hi)
theorem K_acoA0 : ∀ i, i < 10 → kf (coA0 i) = (20, i) := by decide +kernel
theorem Z_acoA0 : ∀ i, i < 10 → ∀ k, k < 3 → m_isI (m_get hz (coA0 i) 20 k) = true := by decide +kernel
theorem A_coA0 {i : Nat} (hi : i < 10) {x : Int} (h0 : 0 ≤ x) (h1 : x < 3) : m_age (mk S e) (coA0 i) 20 x = some (vI (S 20 i x.toNat)) := aI (Z_acoA0 _ hi) (K_acoA0 _ hi) (by decide) h0 h1
theorem B_coA0 {i : Nat} (hi : i < 10) {x : Nat} {a : Int} (h1 : x < 3) : m_set (mk S e) (coA0 i) x (vI a) = mk (up S 20 i x a) e := tI 20 (Z_acoA0 _ hi) (K_acoA0 _ hi) (by decide) h1
theorem T_acoA1 {i : Nat} (hi : i < 10) : m_tag (mk S e) (coA1 i) = some 20 := gT ((by decide +kernel : ∀ i, i < 10 → m_tag hz (coA1 i) = some 20) _ hi)
theorem L_acoA1 {i : Nat} (hi : i < 10) : m_len (mk S e) (coA1 i) = some 3 := gL ((by decide +kernel : ∀ i, i < 10 → m_len hz (coA1 i) = some 3) _ hi)
theorem K_acoA1 : ∀ i, i < 10 → kf (coA1 i) = (21, i) := by decide +kernel
theorem Z_acoA1 : ∀ i, i < 10 → ∀ k, k < 3 → m_isI (m_get hz (coA1 i) 20 k) = true := by decide +kernel
theorem A_coA1 {i : Nat} (hi : i < 10) {x : Int} (h0 : 0 ≤ x) (h1 : x < 3) : m_age (mk S e) (coA1 i) 20 x = some (vI (S 21 i x.toNat)) := aI (Z_acoA1 _ hi) (K_acoA1 _ hi) (by decide) h0 h1
theorem B_coA1 {i : Nat} (hi : i < 10) {x : Nat} {a : Int} (h1 : x < 3) : m_set (mk S e) (coA1 i) x (vI a) = mk (up S 21 i x a) e := tI 20 (Z_acoA1 _ hi) (K_acoA1 _ hi) (by decide) h1
theorem T_acoA2 {i : Nat} (hi : i < 10) : m_tag (mk S e) (coA2 i) = some 20 := gT ((by decide +kernel : ∀ i, i < 10 → m_tag hz (coA2 i) = some 20) _ hi)
theorem L_acoA2 {i : Nat} (hi : i < 10) : m_len (mk S e) (coA2 i) = some 3 := gL ((by decide +kernel : ∀ i, i < 10 → m_len hz (coA2 i) = some 3) _ hi)
theorem K_acoA2 : ∀ i, i < 10 → kf (coA2 i) = (22, i) := by decide +kernel
theorem Z_acoA2 : ∀ i, i < 10 → ∀ k, k < 3 → m_isI (m_get hz (coA2 i) 20 k) = true := by decide +kernel
theorem A_coA2 {i : Nat} (hi : i < 10) {x : Int} (h0 : 0 ≤ x) (h1 : x < 3) : m_age (mk S e) (coA2 i) 20 x = some (vI (S 22 i x.toNat)) := aI (Z_acoA2 _ hi) (K_acoA2 _ hi) (by decide) h0 h1
theorem B_coA2 {i : Nat} (hi : i < 10) {x : Nat} {a : Int} (h1 : x < 3) : m_set (mk S e) (coA2 i) x (vI a) = mk (up S 22 i x a) e := tI 20 (Z_acoA2 _ hi) (K_acoA2 _ hi) (by decide) h1
theorem T_antO {n : Nat} (hn : n < 3) : m_tag (mk S e) (ntO n) = some 20 := gT ((by decide +kernel : ∀ n, n < 3 → m_tag hz (ntO n) = some 20) _ hn)
theorem L_antO {n : Nat} (hn : n < 3) : m_len (mk S e) (ntO n) = some 36 := gL ((by decide +kernel : ∀ n, n < 3 → m_len hz (ntO n) = some 36) _ hn)
theorem K_antO : ∀ n, n < 3 → kf (ntO n) = (30, n) := by decide +kernel
theorem Z_antO : ∀ n, n < 3 → ∀ k, k < 36 → m_isI (m_get hz (ntO n) 20 k) = true := by decide +kernel
theorem A_ntO {n : Nat} (hn : n < 3) {x : Int} (h0 : 0 ≤ x) (h1 : x < 36) : m_age (mk S e) (ntO n) 20 x = some (vI (S 30 n x.toNat)) := aI (Z_antO _ hn) (K_antO _ hn) (by decide) h0 h1
theorem B_ntO {n : Nat} (hn : n < 3) {x : Nat} {a : Int} (h1 : x < 36) : m_set (mk S e) (ntO n) x (vI a) = mk (up S 30 n x a) e := tI 20 (Z_antO _ hn) (K_antO _ hn) (by decide) h1
theorem T_antR {n : Nat} (hn : n < 3) : m_tag (mk S e) (ntR n) = some 35 := gT ((by decide +kernel : ∀ n, n < 3 → m_tag hz (ntR n) = some 35) _ hn)
theorem Z_antR : ∀ n, n < 3 → ∀ k, k < 6 → m_rf (m_get hz (ntR n) 35 k) = (ru n k) + 1 := by decide +kernel
theorem A_ntR {n : Nat} (hn : n < 3) {x : Int} (h0 : 0 ≤ x) (h1 : x < 6) : m_age (mk S e) (ntR n) 35 x = some (vR (ru n x.toNat)) := aR (f := fun k => (ru n k)) (Z_antR _ hn) h0 h1
theorem T_antW {n : Nat} (hn : n < 3) : m_tag (mk S e) (ntW n) = some 38 := gT ((by decide +kernel : ∀ n, n < 3 → m_tag hz (ntW n) = some 38) _ hn)
theorem Z_antW : ∀ n, n < 3 → ∀ k, k < 10 → m_rf (m_get hz (ntW n) 38 k) = (wg n k) + 1 := by decide +kernel
theorem A_ntW {n : Nat} (hn : n < 3) {x : Int} (h0 : 0 ≤ x) (h1 : x < 10) : m_age (mk S e) (ntW n) 38 x = some (vR (wg n x.toNat)) := aR (f := fun k => (wg n k)) (Z_antW _ hn) h0 h1
theorem T_aruA0 {n : Nat} {i : Nat} (hn : n < 3) (hi : i < 6) : m_tag (mk S e) (ruA0 n i) = some 20 := gT ((by decide +kernel : ∀ n, n < 3 → ∀ i, i < 6 → m_tag hz (ruA0 n i) = some 20) _ hn _ hi)
theorem L_aruA0 {n : Nat} {i : Nat} (hn : n < 3) (hi : i < 6) : m_len (mk S e) (ruA0 n i) = some 10 := gL ((by decide +kernel : ∀ n, n < 3 → ∀ i, i < 6 → m_len hz (ruA0 n i) = some 10) _ hn _ hi)
theorem K_aruA0 : ∀ n, n < 3 → ∀ i, i < 6 → kf (ruA0 n i) = (31, (6 * n + i)) := by decide +kernel
theorem Z_aruA0 : ∀ n, n < 3 → ∀ i, i < 6 → ∀ k, k < 10 → m_isI (m_get hz (ruA0 n i) 20 k) = true := by decide +kernel
theorem A_ruA0 {n : Nat} {i : Nat} (hn : n < 3) (hi : i < 6) {x : Int} (h0 : 0 ≤ x) (h1 : x < 10) : m_age (mk S e) (ruA0 n i) 20 x = some (vI (S 31 (6 * n + i) x.toNat)) := aI (Z_aruA0 _ hn _ hi) (K_aruA0 _ hn _ hi) (by decide) h0 h1
theorem B_ruA0 {n : Nat} {i : Nat} (hn : n < 3) (hi : i < 6) {x : Nat} {a : Int} (h1 : x < 10) : m_set (mk S e) (ruA0 n i) x (vI a) = mk (up S 31 (6 * n + i) x a) e := tI 20 (Z_aruA0 _ hn _ hi) (K_aruA0 _ hn _ hi) (by decide) h1
theorem T_aruA1 {n : Nat} {i : Nat} (hn : n < 3) (hi : i < 6) : m_tag (mk S e) (ruA1 n i) = some 20 := gT ((by decide +kernel : ∀ n, n < 3 → ∀ i, i < 6 → m_tag hz (ruA1 n i) = some 20) _ hn _ hi)
theorem L_aruA1 {n : Nat} {i : Nat} (hn : n < 3) (hi : i < 6) : m_len (mk S e) (ruA1 n i) = some 6 := gL ((by decide +kernel : ∀ n, n < 3 → ∀ i, i < 6 → m_len hz (ruA1 n i) = some 6) _ hn _ hi)
theorem K_aruA1 : ∀ n, n < 3 → ∀ i, i < 6 → kf (ruA1 n i) = (32, (6 * n + i)) := by decide +kernel
theorem Z_aruA1 : ∀ n, n < 3 → ∀ i, i < 6 → ∀ k, k < 6 → m_isI (m_get hz (ruA1 n i) 20 k) = true := by decide +kernel
theorem A_ruA1 {n : Nat} {i : Nat} (hn : n < 3) (hi : i < 6) {x : Int} (h0 : 0 ≤ x) (h1 : x < 6) : m_age (mk S e) (ruA1 n i) 20 x = some (vI (S 32 (6 * n + i) x.toNat)) := aI (Z_aruA1 _ hn _ hi) (K_aruA1 _ hn _ hi) (by decide) h0 h1
theorem B_ruA1 {n : Nat} {i : Nat} (hn : n < 3) (hi : i < 6) {x : Nat} {a : Int} (h1 : x < 6) : m_set (mk S e) (ruA1 n i) x (vI a) = mk (up S 32 (6 * n + i) x a) e := tI 20 (Z_aruA1 _ hn _ hi) (K_aruA1 _ hn _ hi) (by decide) h1
theorem T_aruA2 {n : Nat} {i : Nat} (hn : n < 3) (hi : i < 6) : m_tag (mk S e) (ruA2 n i) = some 20 := gT ((by decide +kernel : ∀ n, n < 3 → ∀ i, i < 6 → m_tag hz (ruA2 n i) = some 20) _ hn _ hi)
theorem L_aruA2 {n : Nat} {i : Nat} (hn : n < 3) (hi : i < 6) : m_len (mk S e) (ruA2 n i) = some 6 := gL ((by decide +kernel : ∀ n, n < 3 → ∀ i, i < 6 → m_len hz (ruA2 n i) = some 6) _ hn _ hi)
theorem K_aruA2 : ∀ n, n < 3 → ∀ i, i < 6 → kf (ruA2 n i) = (33, (6 * n + i)) := by decide +kernel
theorem Z_aruA2 : ∀ n, n < 3 → ∀ i, i < 6 → ∀ k, k < 6 → m_isI (m_get hz (ruA2 n i) 20 k) = true := by decide +kernel
theorem A_ruA2 {n : Nat} {i : Nat} (hn : n < 3) (hi : i < 6) {x : Int} (h0 : 0 ≤ x) (h1 : x < 6) : m_age (mk S e) (ruA2 n i) 20 x = some (vI (S 33 (6 * n + i) x.toNat)) := aI (Z_aruA2 _ hn _ hi) (K_aruA2 _ hn _ hi) (by decide) h0 h1
theorem B_ruA2 {n : Nat} {i : Nat} (hn : n < 3) (hi : i < 6) {x : Nat} {a : Int} (h1 : x < 6) : m_set (mk S e) (ruA2 n i) x (vI a) = mk (up S 33 (6 * n + i) x a) e := tI 20 (Z_aruA2 _ hn _ hi) (K_aruA2 _ hn _ hi) (by decide) h1
theorem T_aruA3 {n : Nat} {i : Nat} (hn : n < 3) (hi : i < 6) : m_tag (mk S e) (ruA3 n i) = some 20 := gT ((by decide +kernel : ∀ n, n < 3 → ∀ i, i < 6 → m_tag hz (ruA3 n i) = some 20) _ hn _ hi)
theorem L_aruA3 {n : Nat} {i : Nat} (hn : n < 3) (hi : i < 6) : m_len (mk S e) (ruA3 n i) = some 60 := gL ((by decide +kernel : ∀ n, n < 3 → ∀ i, i < 6 → m_len hz (ruA3 n i) = some 60) _ hn _ hi)
theorem K_aruA3 : ∀ n, n < 3 → ∀ i, i < 6 → kf (ruA3 n i) = (34, (6 * n + i)) := by decide +kernel
theorem Z_aruA3 : ∀ n, n < 3 → ∀ i, i < 6 → ∀ k, k < 60 → m_isI (m_get hz (ruA3 n i) 20 k) = true := by decide +kernel
theorem A_ruA3 {n : Nat} {i : Nat} (hn : n < 3) (hi : i < 6) {x : Int} (h0 : 0 ≤ x) (h1 : x < 60) : m_age (mk S e) (ruA3 n i) 20 x = some (vI (S 34 (6 * n + i) x.toNat)) := aI (Z_aruA3 _ hn _ hi) (K_aruA3 _ hn _ hi) (by decide) h0 h1
theorem B_ruA3 {n : Nat} {i : Nat} (hn : n < 3) (hi : i < 6) {x : Nat} {a : Int} (h1 : x < 60) : m_set (mk S e) (ruA3 n i) x (vI a) = mk (up S 34 (6 * n + i) x a) e := tI 20 (Z_aruA3 _ hn _ hi) (K_aruA3 _ hn _ hi) (by decide) h1
theorem T_aruA4 {n : Nat} {i : Nat} (hn : n < 3) (hi : i < 6) : m_tag (mk S e) (ruA4 n i) = some 22 := gT ((by decide +kernel : ∀ n, n < 3 → ∀ i, i < 6 → m_tag hz (ruA4 n i) = some 22) _ hn _ hi)
theorem L_aruA4 {n : Nat} {i : Nat} (hn : n < 3) (hi : i < 6) : m_len (mk S e) (ruA4 n i) = some 6 := gL ((by decide +kernel : ∀ n, n < 3 → ∀ i, i < 6 → m_len hz (ruA4 n i) = some 6) _ hn _ hi)
theorem K_aruA4 : ∀ n, n < 3 → ∀ i, i < 6 → kf (ruA4 n i) = (35, (6 * n + i)) := by decide +kernel
theorem Z_aruA4 : ∀ n, n < 3 → ∀ i, i < 6 → ∀ k, k < 6 → m_isF (m_get hz (ruA4 n i) 22 k) = true := by decide +kernel
theorem A_ruA4 {n : Nat} {i : Nat} (hn : n < 3) (hi : i < 6) {x : Int} (h0 : 0 ≤ x) (h1 : x < 6) : m_age (mk S e) (ruA4 n i) 22 x = some (vF (UInt32.ofNat (S 35 (6 * n + i) x.toNat).toNat)) := aF (Z_aruA4 _ hn _ hi) (K_aruA4 _ hn _ hi) (by decide) h0 h1
theorem B_ruA4 {n : Nat} {i : Nat} (hn : n < 3) (hi : i < 6) {x : Nat} {b : UInt32} (h1 : x < 6) : m_set (mk S e) (ruA4 n i) x (vF b) = mk (up S 35 (6 * n + i) x (b.toNat : Int)) e := tFl 22 (Z_aruA4 _ hn _ hi) (K_aruA4 _ hn _ hi) (by decide) h1
theorem T_atrA0 {i : Nat} (hi : i < 6) : m_tag (mk S e) (trA0 i) = some 20 := gT ((by decide +kernel : ∀ i, i < 6 → m_tag hz (trA0 i) = some 20) _ hi)
theorem L_atrA0 {i : Nat} (hi : i < 6) : m_len (mk S e) (trA0 i) = some 6 := gL ((by decide +kernel : ∀ i, i < 6 → m_len hz (trA0 i) = some 6) _ hi)
theorem K_atrA0 : ∀ i, i < 6 → kf (trA0 i) = (10, i) := by decide +kernel
theorem Z_atrA0 : ∀ i, i < 6 → ∀ k, k < 6 → m_isI (m_get hz (trA0 i) 20 k) = true := by decide +kernel
theorem A_trA0 {i : Nat} (hi : i < 6) {x : Int} (h0 : 0 ≤ x) (h1 : x < 6) : m_age (mk S e) (trA0 i) 20 x = some (vI (S 10 i x.toNat)) := aI (Z_atrA0 _ hi) (K_atrA0 _ hi) (by decide) h0 h1
theorem B_trA0 {i : Nat} (hi : i < 6) {x : Nat} {a : Int} (h1 : x < 6) : m_set (mk S e) (trA0 i) x (vI a) = mk (up S 10 i x a) e := tI 20 (Z_atrA0 _ hi) (K_atrA0 _ hi) (by decide) h1
theorem T_atrA1 {i : Nat} (hi : i < 6) : m_tag (mk S e) (trA1 i) = some 20 := gT ((by decide +kernel : ∀ i, i < 6 → m_tag hz (trA1 i) = some 20) _ hi)
theorem L_atrA1 {i : Nat} (hi : i < 6) : m_len (mk S e) (trA1 i) = some 6 := gL ((by decide +kernel : ∀ i, i < 6 → m_len hz (trA1 i) = some 6) _ hi)
theorem K_atrA1 : ∀ i, i < 6 → kf (trA1 i) = (11, i) := by decide +kernel
theorem Z_atrA1 : ∀ i, i < 6 → ∀ k, k < 6 → m_isI (m_get hz (trA1 i) 20 k) = true := by decide +kernel
theorem A_trA1 {i : Nat} (hi : i < 6) {x : Int} (h0 : 0 ≤ x) (h1 : x < 6) : m_age (mk S e) (trA1 i) 20 x = some (vI (S 11 i x.toNat)) := aI (Z_atrA1 _ hi) (K_atrA1 _ hi) (by decide) h0 h1
theorem B_trA1 {i : Nat} (hi : i < 6) {x : Nat} {a : Int} (h1 : x < 6) : m_set (mk S e) (trA1 i) x (vI a) = mk (up S 11 i x a) e := tI 20 (Z_atrA1 _ hi) (K_atrA1 _ hi) (by decide) h1
theorem T_atrA2 {i : Nat} (hi : i < 6) : m_tag (mk S e) (trA2 i) = some 20 := gT ((by decide +kernel : ∀ i, i < 6 → m_tag hz (trA2 i) = some 20) _ hi)
theorem L_atrA2 {i : Nat} (hi : i < 6) : m_len (mk S e) (trA2 i) = some 6 := gL ((by decide +kernel : ∀ i, i < 6 → m_len hz (trA2 i) = some 6) _ hi)
theorem K_atrA2 : ∀ i, i < 6 → kf (trA2 i) = (12, i) := by decide +kernel
theorem Z_atrA2 : ∀ i, i < 6 → ∀ k, k < 6 → m_isI (m_get hz (trA2 i) 20 k) = true := by decide +kernel
theorem A_trA2 {i : Nat} (hi : i < 6) {x : Int} (h0 : 0 ≤ x) (h1 : x < 6) : m_age (mk S e) (trA2 i) 20 x = some (vI (S 12 i x.toNat)) := aI (Z_atrA2 _ hi) (K_atrA2 _ hi) (by decide) h0 h1
theorem B_trA2 {i : Nat} (hi : i < 6) {x : Nat} {a : Int} (h1 : x < 6) : m_set (mk S e) (trA2 i) x (vI a) = mk (up S 12 i x a) e := tI 20 (Z_atrA2 _ hi) (K_atrA2 _ hi) (by decide) h1
theorem T_atrA3 {i : Nat} (hi : i < 6) : m_tag (mk S e) (trA3 i) = some 20 := gT ((by decide +kernel : ∀ i, i < 6 → m_tag hz (trA3 i) = some 20) _ hi)
theorem L_atrA3 {i : Nat} (hi : i < 6) : m_len (mk S e) (trA3 i) = some 6 := gL ((by decide +kernel : ∀ i, i < 6 → m_len hz (trA3 i) = some 6) _ hi)
theorem K_atrA3 : ∀ i, i < 6 → kf (trA3 i) = (13, i) := by decide +kernel
theorem Z_atrA3 : ∀ i, i < 6 → ∀ k, k < 6 → m_isI (m_get hz (trA3 i) 20 k) = true := by decide +kernel
theorem A_trA3 {i : Nat} (hi : i < 6) {x : Int} (h0 : 0 ≤ x) (h1 : x < 6) : m_age (mk S e) (trA3 i) 20 x = some (vI (S 13 i x.toNat)) := aI (Z_atrA3 _ hi) (K_atrA3 _ hi) (by decide) h0 h1
theorem B_trA3 {i : Nat} (hi : i < 6) {x : Nat} {a : Int} (h1 : x < 6) : m_set (mk S e) (trA3 i) x (vI a) = mk (up S 13 i x a) e := tI 20 (Z_atrA3 _ hi) (K_atrA3 _ hi) (by decide) h1
theorem T_atrA4 {i : Nat} (hi : i < 6) : m_tag (mk S e) (trA4 i) = some 20 := gT ((by decide +kernel : ∀ i, i < 6 → m_tag hz (trA4 i) = some 20) _ hi)
theorem L_atrA4 {i : Nat} (hi : i < 6) : m_len (mk S e) (trA4 i) = some 6 := gL ((by decide +kernel : ∀ i, i < 6 → m_len hz (trA4 i) = some 6) _ hi)
theorem K_atrA4 : ∀ i, i < 6 → kf (trA4 i) = (14, i) := by decide +kernel
theorem Z_atrA4 : ∀ i, i < 6 → ∀ k, k < 6 → m_isI (m_get hz (trA4 i) 20 k) = true := by decide +kernel
theorem A_trA4 {i : Nat} (hi : i < 6) {x : Int} (h0 : 0 ≤ x) (h1 : x < 6) : m_age (mk S e) (trA4 i) 20 x = some (vI (S 14 i x.toNat)) := aI (Z_atrA4 _ hi) (K_atrA4 _ hi) (by decide) h0 h1
theorem B_trA4 {i : Nat} (hi : i < 6) {x : Nat} {a : Int} (h1 : x < 6) : m_set (mk S e) (trA4 i) x (vI a) = mk (up S 14 i x a) e := tI 20 (Z_atrA4 _ hi) (K_atrA4 _ hi) (by decide) h1
theorem T_atrA5 {i : Nat} (hi : i < 6) : m_tag (mk S e) (trA5 i) = some 20 := gT ((by decide +kernel : ∀ i, i < 6 → m_tag hz (trA5 i) = some 20) _ hi)
theorem L_atrA5 {i : Nat} (hi : i < 6) : m_len (mk S e) (trA5 i) = some 6 := gL ((by decide +kernel : ∀ i, i < 6 → m_len hz (trA5 i) = some 6) _ hi)
theorem K_atrA5 : ∀ i, i < 6 → kf (trA5 i) = (15, i) := by decide +kernel
theorem Z_atrA5 : ∀ i, i < 6 → ∀ k, k < 6 → m_isI (m_get hz (trA5 i) 20 k) = true := by decide +kernel
theorem A_trA5 {i : Nat} (hi : i < 6) {x : Int} (h0 : 0 ≤ x) (h1 : x < 6) : m_age (mk S e) (trA5 i) 20 x = some (vI (S 15 i x.toNat)) := aI (Z_atrA5 _ hi) (K_atrA5 _ hi) (by decide) h0 h1
theorem B_trA5 {i : Nat} (hi : i < 6) {x : Nat} {a : Int} (h1 : x < 6) : m_set (mk S e) (trA5 i) x (vI a) = mk (up S 15 i x a) e := tI 20 (Z_atrA5 _ hi) (K_atrA5 _ hi) (by decide) h1
theorem T_atrA6 {i : Nat} (hi : i < 6) : m_tag (mk S e) (trA6 i) = some 20 := gT ((by decide +kernel : ∀ i, i < 6 → m_tag hz (trA6 i) = some 20) _ hi)
theorem L_atrA6 {i : Nat} (hi : i < 6) : m_len (mk S e) (trA6 i) = some 10 := gL ((by decide +kernel : ∀ i, i < 6 → m_len hz (trA6 i) = some 10) _ hi)
theorem K_atrA6 : ∀ i, i < 6 → kf (trA6 i) = (16, i) := by decide +kernel
theorem Z_atrA6 : ∀ i, i < 6 → ∀ k, k < 10 → m_isI (m_get hz (trA6 i) 20 k) = true := by decide +kernel
theorem A_trA6 {i : Nat} (hi : i < 6) {x : Int} (h0 : 0 ≤ x) (h1 : x < 10) : m_age (mk S e) (trA6 i) 20 x = some (vI (S 16 i x.toNat)) := aI (Z_atrA6 _ hi) (K_atrA6 _ hi) (by decide) h0 h1
theorem B_trA6 {i : Nat} (hi : i < 6) {x : Nat} {a : Int} (h1 : x < 10) : m_set (mk S e) (trA6 i) x (vI a) = mk (up S 16 i x a) e := tI 20 (Z_atrA6 _ hi) (K_atrA6 _ hi) (by decide) h1
theorem A_341 : m_age (mk S e) 341 23 0 = some (vL (Int64.ofInt (S 98 0 0))) := by
  unfold m_age
  rw [if_pos (by decide), m_get_mk, show m_get hz 341 23 (0 : Int).toNat = some (vL 0) from rfl]
  simp only [Option.map_some, hq, sg, show kf 341 = (98, 0) from by decide +kernel]
  rfl
theorem B_341 {b : Int64} : m_set (mk S e) 341 (0 : Int).toNat (vL b) = mk (up S 98 0 0 b.toInt) e :=
  m_set_mk (t := 23) (q := vL 0) rfl (by simp only [hq, Int64.ofInt_toInt]) (by decide +kernel) (by decide +kernel) (by decide)
theorem A_342 : m_age (mk S e) 342 24 0 = some (vD (UInt64.ofNat (S 99 0 0).toNat)) := by
  unfold m_age
  rw [if_pos (by decide), m_get_mk, show m_get hz 342 24 (0 : Int).toNat = some (vD 0) from rfl]
  simp only [Option.map_some, hq, sg, show kf 342 = (99, 0) from by decide +kernel]
  rfl
theorem B_342 {b : UInt64} : m_set (mk S e) 342 (0 : Int).toNat (vD b) = mk (up S 99 0 0 (b.toNat : Int)) e :=
  m_set_mk (t := 24) (q := vD 0) rfl (by simp only [hq, Int.toNat_natCast, UInt64.ofNat_toNat]) (by decide +kernel) (by decide +kernel) (by decide)
end W
