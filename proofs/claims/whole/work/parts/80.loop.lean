/-! ===== the law's loop ===== -/
theorem and31 (a : Int) : 0 ≤ m_and a 31 ∧ m_and a 31 ≤ 31 := by
  unfold m_and
  have h1 : (Int32.ofInt a &&& Int32.ofInt 31).toBitVec.toNat ≤ 31 := by
    rw [Int32.toBitVec_and, BitVec.toNat_and]
    exact Nat.and_le_right
  have h2 : (Int32.ofInt a &&& Int32.ofInt 31).toInt = ((Int32.ofInt a &&& Int32.ofInt 31).toBitVec.toNat : Int) := BitVec.toInt_eq_toNat_of_lt (by omega)
  omega
section V
variable {xs : Nat → Int32} {L : Nat}
theorem V_slen2 {mi pc : Nat} {r : MCode} {ls st : List MV} {h : MHp} {Q : MOut → MHp → Prop} (hl : 0 < L ∧ L ≤ 2147483648) : m_ok xs L mi ((pc, .arraylength) :: r) ls (vS :: st) h Q ↔ m_ok xs L mi r ls (vI ((L : Int) - 1) :: st) h Q := V_slen.trans (and_iff_right hl)
set_option maxRecDepth 20000 in
theorem W_177_0 {r : MCode} {ls st : List MV} {h : MHp} {Q : MOut → MHp → Prop} : m_ok xs L 177 ((45, .tableswitch 1850 0 23 #[111, 179, 259, 363, 431, 511, 659, 739, 795, 903, 959, 1007, 1075, 1143, 1211, 1291, 1381, 1449, 1517, 1530, 1586, 1654, 1734, 1837]) :: r) ls (vI 0 :: st) h Q ↔ m_ok xs L 177 b_177_156 ls st h Q := by
  rw [V_sw, if_neg (by decide)]
  have hj : m_jmp 177 45 (111) = b_177_156 := rfl
  exact ⟨fun ⟨off, ho, hk⟩ => by
    have h2 : some (111 : Int) = some off := ho
    cases h2
    rw [hj] at hk
    exact hk, fun hk => ⟨111, rfl, by rw [hj]; exact hk⟩⟩
set_option maxRecDepth 20000 in
theorem W_177_1 {r : MCode} {ls st : List MV} {h : MHp} {Q : MOut → MHp → Prop} : m_ok xs L 177 ((45, .tableswitch 1850 0 23 #[111, 179, 259, 363, 431, 511, 659, 739, 795, 903, 959, 1007, 1075, 1143, 1211, 1291, 1381, 1449, 1517, 1530, 1586, 1654, 1734, 1837]) :: r) ls (vI 1 :: st) h Q ↔ m_ok xs L 177 b_177_224 ls st h Q := by
  rw [V_sw, if_neg (by decide)]
  have hj : m_jmp 177 45 (179) = b_177_224 := rfl
  exact ⟨fun ⟨off, ho, hk⟩ => by
    have h2 : some (179 : Int) = some off := ho
    cases h2
    rw [hj] at hk
    exact hk, fun hk => ⟨179, rfl, by rw [hj]; exact hk⟩⟩
set_option maxRecDepth 20000 in
theorem W_177_2 {r : MCode} {ls st : List MV} {h : MHp} {Q : MOut → MHp → Prop} : m_ok xs L 177 ((45, .tableswitch 1850 0 23 #[111, 179, 259, 363, 431, 511, 659, 739, 795, 903, 959, 1007, 1075, 1143, 1211, 1291, 1381, 1449, 1517, 1530, 1586, 1654, 1734, 1837]) :: r) ls (vI 2 :: st) h Q ↔ m_ok xs L 177 b_177_304 ls st h Q := by
  rw [V_sw, if_neg (by decide)]
  have hj : m_jmp 177 45 (259) = b_177_304 := rfl
  exact ⟨fun ⟨off, ho, hk⟩ => by
    have h2 : some (259 : Int) = some off := ho
    cases h2
    rw [hj] at hk
    exact hk, fun hk => ⟨259, rfl, by rw [hj]; exact hk⟩⟩
set_option maxRecDepth 20000 in
theorem W_177_3 {r : MCode} {ls st : List MV} {h : MHp} {Q : MOut → MHp → Prop} : m_ok xs L 177 ((45, .tableswitch 1850 0 23 #[111, 179, 259, 363, 431, 511, 659, 739, 795, 903, 959, 1007, 1075, 1143, 1211, 1291, 1381, 1449, 1517, 1530, 1586, 1654, 1734, 1837]) :: r) ls (vI 3 :: st) h Q ↔ m_ok xs L 177 b_177_408 ls st h Q := by
  rw [V_sw, if_neg (by decide)]
  have hj : m_jmp 177 45 (363) = b_177_408 := rfl
  exact ⟨fun ⟨off, ho, hk⟩ => by
    have h2 : some (363 : Int) = some off := ho
    cases h2
    rw [hj] at hk
    exact hk, fun hk => ⟨363, rfl, by rw [hj]; exact hk⟩⟩
set_option maxRecDepth 20000 in
theorem W_177_4 {r : MCode} {ls st : List MV} {h : MHp} {Q : MOut → MHp → Prop} : m_ok xs L 177 ((45, .tableswitch 1850 0 23 #[111, 179, 259, 363, 431, 511, 659, 739, 795, 903, 959, 1007, 1075, 1143, 1211, 1291, 1381, 1449, 1517, 1530, 1586, 1654, 1734, 1837]) :: r) ls (vI 4 :: st) h Q ↔ m_ok xs L 177 b_177_476 ls st h Q := by
  rw [V_sw, if_neg (by decide)]
  have hj : m_jmp 177 45 (431) = b_177_476 := rfl
  exact ⟨fun ⟨off, ho, hk⟩ => by
    have h2 : some (431 : Int) = some off := ho
    cases h2
    rw [hj] at hk
    exact hk, fun hk => ⟨431, rfl, by rw [hj]; exact hk⟩⟩
set_option maxRecDepth 20000 in
theorem W_177_5 {r : MCode} {ls st : List MV} {h : MHp} {Q : MOut → MHp → Prop} : m_ok xs L 177 ((45, .tableswitch 1850 0 23 #[111, 179, 259, 363, 431, 511, 659, 739, 795, 903, 959, 1007, 1075, 1143, 1211, 1291, 1381, 1449, 1517, 1530, 1586, 1654, 1734, 1837]) :: r) ls (vI 5 :: st) h Q ↔ m_ok xs L 177 b_177_556 ls st h Q := by
  rw [V_sw, if_neg (by decide)]
  have hj : m_jmp 177 45 (511) = b_177_556 := rfl
  exact ⟨fun ⟨off, ho, hk⟩ => by
    have h2 : some (511 : Int) = some off := ho
    cases h2
    rw [hj] at hk
    exact hk, fun hk => ⟨511, rfl, by rw [hj]; exact hk⟩⟩
set_option maxRecDepth 20000 in
theorem W_177_6 {r : MCode} {ls st : List MV} {h : MHp} {Q : MOut → MHp → Prop} : m_ok xs L 177 ((45, .tableswitch 1850 0 23 #[111, 179, 259, 363, 431, 511, 659, 739, 795, 903, 959, 1007, 1075, 1143, 1211, 1291, 1381, 1449, 1517, 1530, 1586, 1654, 1734, 1837]) :: r) ls (vI 6 :: st) h Q ↔ m_ok xs L 177 b_177_704 ls st h Q := by
  rw [V_sw, if_neg (by decide)]
  have hj : m_jmp 177 45 (659) = b_177_704 := rfl
  exact ⟨fun ⟨off, ho, hk⟩ => by
    have h2 : some (659 : Int) = some off := ho
    cases h2
    rw [hj] at hk
    exact hk, fun hk => ⟨659, rfl, by rw [hj]; exact hk⟩⟩
set_option maxRecDepth 20000 in
theorem W_177_7 {r : MCode} {ls st : List MV} {h : MHp} {Q : MOut → MHp → Prop} : m_ok xs L 177 ((45, .tableswitch 1850 0 23 #[111, 179, 259, 363, 431, 511, 659, 739, 795, 903, 959, 1007, 1075, 1143, 1211, 1291, 1381, 1449, 1517, 1530, 1586, 1654, 1734, 1837]) :: r) ls (vI 7 :: st) h Q ↔ m_ok xs L 177 b_177_784 ls st h Q := by
  rw [V_sw, if_neg (by decide)]
  have hj : m_jmp 177 45 (739) = b_177_784 := rfl
  exact ⟨fun ⟨off, ho, hk⟩ => by
    have h2 : some (739 : Int) = some off := ho
    cases h2
    rw [hj] at hk
    exact hk, fun hk => ⟨739, rfl, by rw [hj]; exact hk⟩⟩
set_option maxRecDepth 20000 in
theorem W_177_8 {r : MCode} {ls st : List MV} {h : MHp} {Q : MOut → MHp → Prop} : m_ok xs L 177 ((45, .tableswitch 1850 0 23 #[111, 179, 259, 363, 431, 511, 659, 739, 795, 903, 959, 1007, 1075, 1143, 1211, 1291, 1381, 1449, 1517, 1530, 1586, 1654, 1734, 1837]) :: r) ls (vI 8 :: st) h Q ↔ m_ok xs L 177 b_177_840 ls st h Q := by
  rw [V_sw, if_neg (by decide)]
  have hj : m_jmp 177 45 (795) = b_177_840 := rfl
  exact ⟨fun ⟨off, ho, hk⟩ => by
    have h2 : some (795 : Int) = some off := ho
    cases h2
    rw [hj] at hk
    exact hk, fun hk => ⟨795, rfl, by rw [hj]; exact hk⟩⟩
set_option maxRecDepth 20000 in
theorem W_177_9 {r : MCode} {ls st : List MV} {h : MHp} {Q : MOut → MHp → Prop} : m_ok xs L 177 ((45, .tableswitch 1850 0 23 #[111, 179, 259, 363, 431, 511, 659, 739, 795, 903, 959, 1007, 1075, 1143, 1211, 1291, 1381, 1449, 1517, 1530, 1586, 1654, 1734, 1837]) :: r) ls (vI 9 :: st) h Q ↔ m_ok xs L 177 b_177_948 ls st h Q := by
  rw [V_sw, if_neg (by decide)]
  have hj : m_jmp 177 45 (903) = b_177_948 := rfl
  exact ⟨fun ⟨off, ho, hk⟩ => by
    have h2 : some (903 : Int) = some off := ho
    cases h2
    rw [hj] at hk
    exact hk, fun hk => ⟨903, rfl, by rw [hj]; exact hk⟩⟩
set_option maxRecDepth 20000 in
theorem W_177_10 {r : MCode} {ls st : List MV} {h : MHp} {Q : MOut → MHp → Prop} : m_ok xs L 177 ((45, .tableswitch 1850 0 23 #[111, 179, 259, 363, 431, 511, 659, 739, 795, 903, 959, 1007, 1075, 1143, 1211, 1291, 1381, 1449, 1517, 1530, 1586, 1654, 1734, 1837]) :: r) ls (vI 10 :: st) h Q ↔ m_ok xs L 177 b_177_1004 ls st h Q := by
  rw [V_sw, if_neg (by decide)]
  have hj : m_jmp 177 45 (959) = b_177_1004 := rfl
  exact ⟨fun ⟨off, ho, hk⟩ => by
    have h2 : some (959 : Int) = some off := ho
    cases h2
    rw [hj] at hk
    exact hk, fun hk => ⟨959, rfl, by rw [hj]; exact hk⟩⟩
set_option maxRecDepth 20000 in
theorem W_177_11 {r : MCode} {ls st : List MV} {h : MHp} {Q : MOut → MHp → Prop} : m_ok xs L 177 ((45, .tableswitch 1850 0 23 #[111, 179, 259, 363, 431, 511, 659, 739, 795, 903, 959, 1007, 1075, 1143, 1211, 1291, 1381, 1449, 1517, 1530, 1586, 1654, 1734, 1837]) :: r) ls (vI 11 :: st) h Q ↔ m_ok xs L 177 b_177_1052 ls st h Q := by
  rw [V_sw, if_neg (by decide)]
  have hj : m_jmp 177 45 (1007) = b_177_1052 := rfl
  exact ⟨fun ⟨off, ho, hk⟩ => by
    have h2 : some (1007 : Int) = some off := ho
    cases h2
    rw [hj] at hk
    exact hk, fun hk => ⟨1007, rfl, by rw [hj]; exact hk⟩⟩
set_option maxRecDepth 20000 in
theorem W_177_12 {r : MCode} {ls st : List MV} {h : MHp} {Q : MOut → MHp → Prop} : m_ok xs L 177 ((45, .tableswitch 1850 0 23 #[111, 179, 259, 363, 431, 511, 659, 739, 795, 903, 959, 1007, 1075, 1143, 1211, 1291, 1381, 1449, 1517, 1530, 1586, 1654, 1734, 1837]) :: r) ls (vI 12 :: st) h Q ↔ m_ok xs L 177 b_177_1120 ls st h Q := by
  rw [V_sw, if_neg (by decide)]
  have hj : m_jmp 177 45 (1075) = b_177_1120 := rfl
  exact ⟨fun ⟨off, ho, hk⟩ => by
    have h2 : some (1075 : Int) = some off := ho
    cases h2
    rw [hj] at hk
    exact hk, fun hk => ⟨1075, rfl, by rw [hj]; exact hk⟩⟩
set_option maxRecDepth 20000 in
theorem W_177_13 {r : MCode} {ls st : List MV} {h : MHp} {Q : MOut → MHp → Prop} : m_ok xs L 177 ((45, .tableswitch 1850 0 23 #[111, 179, 259, 363, 431, 511, 659, 739, 795, 903, 959, 1007, 1075, 1143, 1211, 1291, 1381, 1449, 1517, 1530, 1586, 1654, 1734, 1837]) :: r) ls (vI 13 :: st) h Q ↔ m_ok xs L 177 b_177_1188 ls st h Q := by
  rw [V_sw, if_neg (by decide)]
  have hj : m_jmp 177 45 (1143) = b_177_1188 := rfl
  exact ⟨fun ⟨off, ho, hk⟩ => by
    have h2 : some (1143 : Int) = some off := ho
    cases h2
    rw [hj] at hk
    exact hk, fun hk => ⟨1143, rfl, by rw [hj]; exact hk⟩⟩
set_option maxRecDepth 20000 in
theorem W_177_14 {r : MCode} {ls st : List MV} {h : MHp} {Q : MOut → MHp → Prop} : m_ok xs L 177 ((45, .tableswitch 1850 0 23 #[111, 179, 259, 363, 431, 511, 659, 739, 795, 903, 959, 1007, 1075, 1143, 1211, 1291, 1381, 1449, 1517, 1530, 1586, 1654, 1734, 1837]) :: r) ls (vI 14 :: st) h Q ↔ m_ok xs L 177 b_177_1256 ls st h Q := by
  rw [V_sw, if_neg (by decide)]
  have hj : m_jmp 177 45 (1211) = b_177_1256 := rfl
  exact ⟨fun ⟨off, ho, hk⟩ => by
    have h2 : some (1211 : Int) = some off := ho
    cases h2
    rw [hj] at hk
    exact hk, fun hk => ⟨1211, rfl, by rw [hj]; exact hk⟩⟩
set_option maxRecDepth 20000 in
theorem W_177_15 {r : MCode} {ls st : List MV} {h : MHp} {Q : MOut → MHp → Prop} : m_ok xs L 177 ((45, .tableswitch 1850 0 23 #[111, 179, 259, 363, 431, 511, 659, 739, 795, 903, 959, 1007, 1075, 1143, 1211, 1291, 1381, 1449, 1517, 1530, 1586, 1654, 1734, 1837]) :: r) ls (vI 15 :: st) h Q ↔ m_ok xs L 177 b_177_1336 ls st h Q := by
  rw [V_sw, if_neg (by decide)]
  have hj : m_jmp 177 45 (1291) = b_177_1336 := rfl
  exact ⟨fun ⟨off, ho, hk⟩ => by
    have h2 : some (1291 : Int) = some off := ho
    cases h2
    rw [hj] at hk
    exact hk, fun hk => ⟨1291, rfl, by rw [hj]; exact hk⟩⟩
set_option maxRecDepth 20000 in
theorem W_177_16 {r : MCode} {ls st : List MV} {h : MHp} {Q : MOut → MHp → Prop} : m_ok xs L 177 ((45, .tableswitch 1850 0 23 #[111, 179, 259, 363, 431, 511, 659, 739, 795, 903, 959, 1007, 1075, 1143, 1211, 1291, 1381, 1449, 1517, 1530, 1586, 1654, 1734, 1837]) :: r) ls (vI 16 :: st) h Q ↔ m_ok xs L 177 b_177_1426 ls st h Q := by
  rw [V_sw, if_neg (by decide)]
  have hj : m_jmp 177 45 (1381) = b_177_1426 := rfl
  exact ⟨fun ⟨off, ho, hk⟩ => by
    have h2 : some (1381 : Int) = some off := ho
    cases h2
    rw [hj] at hk
    exact hk, fun hk => ⟨1381, rfl, by rw [hj]; exact hk⟩⟩
set_option maxRecDepth 20000 in
theorem W_177_17 {r : MCode} {ls st : List MV} {h : MHp} {Q : MOut → MHp → Prop} : m_ok xs L 177 ((45, .tableswitch 1850 0 23 #[111, 179, 259, 363, 431, 511, 659, 739, 795, 903, 959, 1007, 1075, 1143, 1211, 1291, 1381, 1449, 1517, 1530, 1586, 1654, 1734, 1837]) :: r) ls (vI 17 :: st) h Q ↔ m_ok xs L 177 b_177_1494 ls st h Q := by
  rw [V_sw, if_neg (by decide)]
  have hj : m_jmp 177 45 (1449) = b_177_1494 := rfl
  exact ⟨fun ⟨off, ho, hk⟩ => by
    have h2 : some (1449 : Int) = some off := ho
    cases h2
    rw [hj] at hk
    exact hk, fun hk => ⟨1449, rfl, by rw [hj]; exact hk⟩⟩
set_option maxRecDepth 20000 in
theorem W_177_18 {r : MCode} {ls st : List MV} {h : MHp} {Q : MOut → MHp → Prop} : m_ok xs L 177 ((45, .tableswitch 1850 0 23 #[111, 179, 259, 363, 431, 511, 659, 739, 795, 903, 959, 1007, 1075, 1143, 1211, 1291, 1381, 1449, 1517, 1530, 1586, 1654, 1734, 1837]) :: r) ls (vI 18 :: st) h Q ↔ m_ok xs L 177 b_177_1562 ls st h Q := by
  rw [V_sw, if_neg (by decide)]
  have hj : m_jmp 177 45 (1517) = b_177_1562 := rfl
  exact ⟨fun ⟨off, ho, hk⟩ => by
    have h2 : some (1517 : Int) = some off := ho
    cases h2
    rw [hj] at hk
    exact hk, fun hk => ⟨1517, rfl, by rw [hj]; exact hk⟩⟩
set_option maxRecDepth 20000 in
theorem W_177_19 {r : MCode} {ls st : List MV} {h : MHp} {Q : MOut → MHp → Prop} : m_ok xs L 177 ((45, .tableswitch 1850 0 23 #[111, 179, 259, 363, 431, 511, 659, 739, 795, 903, 959, 1007, 1075, 1143, 1211, 1291, 1381, 1449, 1517, 1530, 1586, 1654, 1734, 1837]) :: r) ls (vI 19 :: st) h Q ↔ m_ok xs L 177 b_177_1575 ls st h Q := by
  rw [V_sw, if_neg (by decide)]
  have hj : m_jmp 177 45 (1530) = b_177_1575 := rfl
  exact ⟨fun ⟨off, ho, hk⟩ => by
    have h2 : some (1530 : Int) = some off := ho
    cases h2
    rw [hj] at hk
    exact hk, fun hk => ⟨1530, rfl, by rw [hj]; exact hk⟩⟩
set_option maxRecDepth 20000 in
theorem W_177_20 {r : MCode} {ls st : List MV} {h : MHp} {Q : MOut → MHp → Prop} : m_ok xs L 177 ((45, .tableswitch 1850 0 23 #[111, 179, 259, 363, 431, 511, 659, 739, 795, 903, 959, 1007, 1075, 1143, 1211, 1291, 1381, 1449, 1517, 1530, 1586, 1654, 1734, 1837]) :: r) ls (vI 20 :: st) h Q ↔ m_ok xs L 177 b_177_1631 ls st h Q := by
  rw [V_sw, if_neg (by decide)]
  have hj : m_jmp 177 45 (1586) = b_177_1631 := rfl
  exact ⟨fun ⟨off, ho, hk⟩ => by
    have h2 : some (1586 : Int) = some off := ho
    cases h2
    rw [hj] at hk
    exact hk, fun hk => ⟨1586, rfl, by rw [hj]; exact hk⟩⟩
set_option maxRecDepth 20000 in
theorem W_177_21 {r : MCode} {ls st : List MV} {h : MHp} {Q : MOut → MHp → Prop} : m_ok xs L 177 ((45, .tableswitch 1850 0 23 #[111, 179, 259, 363, 431, 511, 659, 739, 795, 903, 959, 1007, 1075, 1143, 1211, 1291, 1381, 1449, 1517, 1530, 1586, 1654, 1734, 1837]) :: r) ls (vI 21 :: st) h Q ↔ m_ok xs L 177 b_177_1699 ls st h Q := by
  rw [V_sw, if_neg (by decide)]
  have hj : m_jmp 177 45 (1654) = b_177_1699 := rfl
  exact ⟨fun ⟨off, ho, hk⟩ => by
    have h2 : some (1654 : Int) = some off := ho
    cases h2
    rw [hj] at hk
    exact hk, fun hk => ⟨1654, rfl, by rw [hj]; exact hk⟩⟩
set_option maxRecDepth 20000 in
theorem W_177_22 {r : MCode} {ls st : List MV} {h : MHp} {Q : MOut → MHp → Prop} : m_ok xs L 177 ((45, .tableswitch 1850 0 23 #[111, 179, 259, 363, 431, 511, 659, 739, 795, 903, 959, 1007, 1075, 1143, 1211, 1291, 1381, 1449, 1517, 1530, 1586, 1654, 1734, 1837]) :: r) ls (vI 22 :: st) h Q ↔ m_ok xs L 177 b_177_1779 ls st h Q := by
  rw [V_sw, if_neg (by decide)]
  have hj : m_jmp 177 45 (1734) = b_177_1779 := rfl
  exact ⟨fun ⟨off, ho, hk⟩ => by
    have h2 : some (1734 : Int) = some off := ho
    cases h2
    rw [hj] at hk
    exact hk, fun hk => ⟨1734, rfl, by rw [hj]; exact hk⟩⟩
set_option maxRecDepth 20000 in
theorem W_177_23 {r : MCode} {ls st : List MV} {h : MHp} {Q : MOut → MHp → Prop} : m_ok xs L 177 ((45, .tableswitch 1850 0 23 #[111, 179, 259, 363, 431, 511, 659, 739, 795, 903, 959, 1007, 1075, 1143, 1211, 1291, 1381, 1449, 1517, 1530, 1586, 1654, 1734, 1837]) :: r) ls (vI 23 :: st) h Q ↔ m_ok xs L 177 b_177_1882 ls st h Q := by
  rw [V_sw, if_neg (by decide)]
  have hj : m_jmp 177 45 (1837) = b_177_1882 := rfl
  exact ⟨fun ⟨off, ho, hk⟩ => by
    have h2 : some (1837 : Int) = some off := ho
    cases h2
    rw [hj] at hk
    exact hk, fun hk => ⟨1837, rfl, by rw [hj]; exact hk⟩⟩
set_option maxRecDepth 20000 in
theorem W_177_d {r : MCode} {ls st : List MV} {h : MHp} {Q : MOut → MHp → Prop} {v : Int} (hv : v < 0 ∨ 23 < v) : m_ok xs L 177 ((45, .tableswitch 1850 0 23 #[111, 179, 259, 363, 431, 511, 659, 739, 795, 903, 959, 1007, 1075, 1143, 1211, 1291, 1381, 1449, 1517, 1530, 1586, 1654, 1734, 1837]) :: r) ls (vI v :: st) h Q ↔ m_ok xs L 177 b_177_1895 ls st h Q := by
  rw [V_sw, if_pos hv]
  have hj : m_jmp 177 45 (1850) = b_177_1895 := rfl
  rw [hj]
set_option maxRecDepth 20000 in
theorem law_tail {S : Sg} {e : Nat} {i : Int} {v6 v7 : MV} {Q : MOut → MHp → Prop} (hi : 0 ≤ i ∧ i ≤ 5000) (K : m_ok xs L 177 b_177_28 [vS, vR 0, vR 296, vR 341, vR 342, vI (i + 8), v6, v7] [] (mk S e) Q) : m_ok xs L 177 b_177_1895 [vS, vR 0, vR 296, vR 341, vR 342, vI i, v6, v7] [] (mk S e) Q := by
  simp (disch := (first | omega | (simp (disch := omega) only [up_f, up_s, up_i, up_k, up_e]; omega))) only [up_f, up_s, up_i, up_k, up_e, V_iconst, V_bipush, V_sipush, V_conti, V_contn, V_goto, Option.some.injEq, exists_eq_left', true_and, and_true, m_fit, Option.isSome_some, List.map_nil, List.map_cons, List.sum_nil, List.sum_cons, List.all_nil, List.all_cons, m_cat, decide_true, Bool.and_true, Bool.true_and, Nat.zero_le, Int.toNat_natCast, Int.reduceAdd, Int.reduceSub, Int.reduceMul, Int.reduceNeg, Int.reduceLE, Int.reduceLT, Nat.reduceAdd, Nat.reduceLeDiff, Int.reduceToNat, Int.reduceEq, decide_eq_true_eq, true_or, or_true, exists_and_left, and_self, Nat.reduceMul, Nat.reduceSub, Nat.reduceLT, m_oa, Nat.reduceEqDiff, or_false, false_or, Sum.inl.injEq, Sum.inr.injEq, ↓reduceIte, ne_eq, not_false_eq_true, Int.reduceNe, exists_eq_left, V_iinc5, m_add_eq, J_177_1898, b_177_1895]
  exact K
set_option maxRecDepth 20000 in
theorem law_loop {Q : MOut → MHp → Prop} (hL : 0 < L ∧ L ≤ 4097) (KQ : ∀ (S2 : Sg) (e2 : Nat), e2 ≤ 600 → Q (.inl (some (vI 1))) (mk S2 e2)) : ∀ (z : Nat) (i : Int) (j e : Nat) (S : Sg) (A T C P : Nat) (v6 v7 : MV), 0 ≤ i ∧ i ≤ 5000 → (L : Int) - i ≤ 8 * z + 8 → j + z ≤ 600 → II S A T C P j e → m_ok xs L 177 b_177_28 [vS, vR 0, vR 296, vR 341, vR 342, vI i, v6, v7] [] (mk S e) Q := by
  intro z
  induction z with
  | zero =>
    intro i j e S A T C P v6 v7 hi hz hj h
    have he := h.2.2.2.2.2.2
    repeat' first
      | (refine V_icmp_gt.mpr ?_; rw [if_pos (by omega)])
      | (simp (disch := (first | omega | (simp (disch := omega) only [up_f, up_s, up_i, up_k, up_e]; omega))) only [up_f, up_s, up_i, up_k, up_e, V_iconst, V_bipush, V_sipush, V_conti, V_contn, V_goto, Option.some.injEq, exists_eq_left', true_and, and_true, m_fit, Option.isSome_some, List.map_nil, List.map_cons, List.sum_nil, List.sum_cons, List.all_nil, List.all_cons, m_cat, decide_true, Bool.and_true, Bool.true_and, Nat.zero_le, Int.toNat_natCast, Int.reduceAdd, Int.reduceSub, Int.reduceMul, Int.reduceNeg, Int.reduceLE, Int.reduceLT, Nat.reduceAdd, Nat.reduceLeDiff, Int.reduceToNat, Int.reduceEq, decide_eq_true_eq, true_or, or_true, exists_and_left, and_self, Nat.reduceMul, Nat.reduceSub, Nat.reduceLT, m_oa, Nat.reduceEqDiff, or_false, false_or, Sum.inl.injEq, Sum.inr.injEq, ↓reduceIte, ne_eq, not_false_eq_true, Int.reduceNe, exists_eq_left, V_iload5, V_aloadS, V_slen2, V_isub, m_sub_eq, V_sal, V_iand, R_177, J_177_35, b_177_28, b_177_1901])
    all_goals exact KQ S e (by omega)
  | succ z ih =>
    intro i j e S A T C P v6 v7 hi hz hj h
    have he := h.2.2.2.2.2.2
    by_cases hx : i > (L : Int) - 1 - 8
    · repeat' first
        | (refine V_icmp_gt.mpr ?_; rw [if_pos (by omega)])
        | (simp (disch := (first | omega | (simp (disch := omega) only [up_f, up_s, up_i, up_k, up_e]; omega))) only [up_f, up_s, up_i, up_k, up_e, V_iconst, V_bipush, V_sipush, V_conti, V_contn, V_goto, Option.some.injEq, exists_eq_left', true_and, and_true, m_fit, Option.isSome_some, List.map_nil, List.map_cons, List.sum_nil, List.sum_cons, List.all_nil, List.all_cons, m_cat, decide_true, Bool.and_true, Bool.true_and, Nat.zero_le, Int.toNat_natCast, Int.reduceAdd, Int.reduceSub, Int.reduceMul, Int.reduceNeg, Int.reduceLE, Int.reduceLT, Nat.reduceAdd, Nat.reduceLeDiff, Int.reduceToNat, Int.reduceEq, decide_eq_true_eq, true_or, or_true, exists_and_left, and_self, Nat.reduceMul, Nat.reduceSub, Nat.reduceLT, m_oa, Nat.reduceEqDiff, or_false, false_or, Sum.inl.injEq, Sum.inr.injEq, ↓reduceIte, ne_eq, not_false_eq_true, Int.reduceNe, exists_eq_left, V_iload5, V_aloadS, V_slen2, V_isub, m_sub_eq, V_sal, V_iand, R_177, J_177_35, b_177_28, b_177_1901])
      all_goals exact KQ S e (by omega)
    · have K : ∀ (S2 : Sg) (A T C P e2 : Nat) (v6 v7 : MV), II S2 A T C P (j + 1) e2 → m_ok xs L 177 b_177_1895 [vS, vR 0, vR 296, vR 341, vR 342, vI i, v6, v7] [] (mk S2 e2) Q := fun S2 A T C P e2 v6 v7 ii => law_tail hi (ih (i + 8) (j + 1) e2 S2 A T C P v6 v7 (by omega) (by omega) (by omega) ii)
      have K0 : m_ok xs L 177 b_177_1895 [vS, vR 0, vR 296, vR 341, vR 342, vI i, v6, v7] [] (mk S e) Q := law_tail hi (ih (i + 8) (j + 1) e S A T C P v6 v7 (by omega) (by omega) (by omega) (II_keep h (fun _ _ _ _ => rfl) h.2.1 (by omega)))
      have hc := and31 (xs i.toNat).toInt
      repeat' first
        | (refine V_icmp_gt.mpr ?_; rw [if_neg (by omega)])
        | (simp (disch := (first | omega | (simp (disch := omega) only [up_f, up_s, up_i, up_k, up_e]; omega))) only [up_f, up_s, up_i, up_k, up_e, V_iconst, V_bipush, V_sipush, V_conti, V_contn, V_goto, Option.some.injEq, exists_eq_left', true_and, and_true, m_fit, Option.isSome_some, List.map_nil, List.map_cons, List.sum_nil, List.sum_cons, List.all_nil, List.all_cons, m_cat, decide_true, Bool.and_true, Bool.true_and, Nat.zero_le, Int.toNat_natCast, Int.reduceAdd, Int.reduceSub, Int.reduceMul, Int.reduceNeg, Int.reduceLE, Int.reduceLT, Nat.reduceAdd, Nat.reduceLeDiff, Int.reduceToNat, Int.reduceEq, decide_eq_true_eq, true_or, or_true, exists_and_left, and_self, Nat.reduceMul, Nat.reduceSub, Nat.reduceLT, m_oa, Nat.reduceEqDiff, or_false, false_or, Sum.inl.injEq, Sum.inr.injEq, ↓reduceIte, ne_eq, not_false_eq_true, Int.reduceNe, exists_eq_left, V_iload5, V_aloadS, V_slen2, V_isub, m_sub_eq, V_sal, V_iand, R_177, J_177_35, b_177_28, b_177_1901])
      generalize m_and (xs i.toNat).toInt 31 = c at hc ⊢
      by_cases c0 : c = 0
      · subst c0
        exact W_177_0.mpr (case_0 (by omega) (by omega) h (by omega) K)
      by_cases c1 : c = 1
      · subst c1
        exact W_177_1.mpr (case_1 (by omega) (by omega) h (by omega) K)
      by_cases c2 : c = 2
      · subst c2
        exact W_177_2.mpr (case_2 (by omega) (by omega) h (by omega) K)
      by_cases c3 : c = 3
      · subst c3
        exact W_177_3.mpr (case_3 (by omega) (by omega) h (by omega) K)
      by_cases c4 : c = 4
      · subst c4
        exact W_177_4.mpr (case_4 (by omega) (by omega) h (by omega) K)
      by_cases c5 : c = 5
      · subst c5
        exact W_177_5.mpr (case_5 (by omega) (by omega) h (by omega) K)
      by_cases c6 : c = 6
      · subst c6
        exact W_177_6.mpr (case_6 (by omega) (by omega) h (by omega) K)
      by_cases c7 : c = 7
      · subst c7
        exact W_177_7.mpr (case_7 (by omega) (by omega) h (by omega) K)
      by_cases c8 : c = 8
      · subst c8
        exact W_177_8.mpr (case_8 (by omega) (by omega) h (by omega) K)
      by_cases c9 : c = 9
      · subst c9
        exact W_177_9.mpr (case_9 (by omega) (by omega) h (by omega) K)
      by_cases c10 : c = 10
      · subst c10
        exact W_177_10.mpr (case_10 (by omega) (by omega) h (by omega) K)
      by_cases c11 : c = 11
      · subst c11
        exact W_177_11.mpr (case_11 (by omega) (by omega) h (by omega) K)
      by_cases c12 : c = 12
      · subst c12
        exact W_177_12.mpr (case_12 (by omega) (by omega) h (by omega) K)
      by_cases c13 : c = 13
      · subst c13
        exact W_177_13.mpr (case_13 (by omega) (by omega) h (by omega) K)
      by_cases c14 : c = 14
      · subst c14
        exact W_177_14.mpr (case_14 (by omega) (by omega) h (by omega) K)
      by_cases c15 : c = 15
      · subst c15
        exact W_177_15.mpr (case_15 (by omega) (by omega) h (by omega) K)
      by_cases c16 : c = 16
      · subst c16
        exact W_177_16.mpr (case_16 (by omega) (by omega) h (by omega) K)
      by_cases c17 : c = 17
      · subst c17
        exact W_177_17.mpr (case_17 (by omega) (by omega) h (by omega) K)
      by_cases c18 : c = 18
      · subst c18
        exact W_177_18.mpr (case_18 (by omega) (by omega) h (by omega) K)
      by_cases c19 : c = 19
      · subst c19
        exact W_177_19.mpr (case_19 (by omega) (by omega) h (by omega) K)
      by_cases c20 : c = 20
      · subst c20
        exact W_177_20.mpr (case_20 (by omega) (by omega) h (by omega) K)
      by_cases c21 : c = 21
      · subst c21
        exact W_177_21.mpr (case_21 (by omega) (by omega) h (by omega) K)
      by_cases c22 : c = 22
      · subst c22
        exact W_177_22.mpr (case_22 (by omega) (by omega) h (by omega) K)
      by_cases c23 : c = 23
      · subst c23
        exact W_177_23.mpr (case_23 (by omega) (by omega) h (by omega) K)
      exact (W_177_d (by omega)).mpr K0
end V
