/-! ===== the code lists are the bytes ===== -/
def m_iln : Instr → Nat
  | .bipush _ => 2 | .iload _ => 2 | .aload _ => 2 | .fload _ => 2 | .istore _ => 2 | .astore _ => 2 | .fstore _ => 2 | .ldc _ => 2 | .newarray _ => 2
  | .sipush _ => 3 | .ldc_w _ => 3 | .iinc _ _ => 3 | .ifCond _ _ => 3 | .if_icmp _ _ => 3 | .goto _ => 3 | .getfield _ => 3 | .putfield _ => 3 | .new _ => 3 | .anewarray _ => 3
  | .invokestatic _ => 3 | .invokevirtual _ => 3 | .invokespecial _ => 3
  | .tableswitch _ _ _ _ => 0
  | _ => 1
def m_kchk (mi : Nat) : Option (Nat × Nat) → Bool
  | some (1, mj) => decide (m_frs mj + 1 ≤ m_frs mi ∧ 19 + m_maxL mj + m_loc mj ≤ m_loc mi)
  | some (5, mj) => decide (m_frs mj + 1 ≤ m_frs mi ∧ 19 + m_maxL mj + m_loc mj ≤ m_loc mi)
  | some (2, _) => decide (1 ≤ m_frs mi ∧ 21 ≤ m_loc mi)
  | some (3, _) => decide (1 ≤ m_frs mi ∧ 20 ≤ m_loc mi)
  | some (4, _) => decide (6 ≤ m_frs mi ∧ 90 ≤ m_loc mi) && (m_hand mi).isEmpty
  | _ => false
def m_ichk (mi pc : Nat) : Instr → Bool
  | .ifCond _ off => decide (0 ≤ (pc : Int) + off)
  | .if_icmp _ off => decide (0 ≤ (pc : Int) + off)
  | .invokestatic k => m_kchk mi (cR (m_own mi) k)
  | .invokevirtual k => m_kchk mi (cR (m_own mi) k)
  | .invokespecial k => m_kchk mi (cR (m_own mi) k)
  | _ => true
def m_dchk (cc : ByteArray) (pc : Nat) (i : Instr) (r : MCode) : Bool := match decode cc pc with
  | .ok (j, len) => decide (j = i) && decide (m_iln i = len ∨ m_iln i = 0) && (match r with
    | y :: _ => decide (y.1 = pc + len)
    | [] => true)
  | _ => false
def m_cchk (mi : Nat) (cc : ByteArray) : MCode → Bool
  | [] => true
  | x :: r => m_dchk cc x.1 x.2 r && m_ichk mi x.1 x.2 && m_cchk mi cc r
def m_vl (mi : Nat) : MCode → Prop
  | [] => True
  | x :: r => (∃ len, decode (m_cc mi) x.1 = .ok (x.2, len) ∧ (m_iln x.2 = len ∨ m_iln x.2 = 0) ∧ ∀ y r', r = y :: r' → y.1 = x.1 + len) ∧ m_ichk mi x.1 x.2 = true ∧ m_vl mi r
theorem m_vl_of {mi : Nat} : ∀ {c : MCode}, m_cchk mi (m_cc mi) c = true → m_vl mi c
  | [], _ => trivial
  | x :: r, h => by
    simp only [m_cchk, Bool.and_eq_true] at h
    refine ⟨?_, h.1.2, m_vl_of h.2⟩
    have h1 := h.1.1
    unfold m_dchk at h1
    split at h1
    · rename_i j len hd
      simp only [Bool.and_eq_true, decide_eq_true_eq] at h1
      refine ⟨len, by rw [hd, h1.1.1], h1.1.2, fun y r' hr => ?_⟩
      have h2 := h1.2
      subst hr
      simpa using h2
    · cases h1
theorem m_vl_drop {mi : Nat} : ∀ {c : MCode} (k : Nat), m_vl mi c → m_vl mi (c.drop k)
  | c, 0, h => h
  | [], k + 1, _ => trivial
  | x :: r, k + 1, h => m_vl_drop (c := r) k h.2.2
def m_tchk (mi : Nat) : Bool := (m_tg mi).all (fun q => decide (((m_code mi)[q.2]?).map Prod.fst = some q.1))
def m_achk (mi : Nat) : Bool := m_cchk mi (m_cc mi) (m_code mi) && m_tchk mi && decide (m_code mi ≠ [])
theorem ac_0 : [0, 1, 2, 3, 4, 5, 6, 7].all m_achk = true := by decide +kernel
theorem ac_1 : [8, 9, 10, 11, 12, 13, 14, 15, 16].all m_achk = true := by decide +kernel
theorem ac_2 : [17, 18, 19, 20, 21, 22, 23].all m_achk = true := by decide +kernel
theorem ac_3 : [24, 25, 26, 27, 28].all m_achk = true := by decide +kernel
theorem ac_4 : [29, 30, 31].all m_achk = true := by decide +kernel
theorem ac_5 : [32, 33, 34, 35].all m_achk = true := by decide +kernel
theorem ac_6 : [36, 37, 38, 39, 40].all m_achk = true := by decide +kernel
theorem ac_7 : [41, 42, 43, 44, 45, 46, 47, 48].all m_achk = true := by decide +kernel
theorem ac_8 : [49, 50, 51, 52, 53, 54, 55, 56, 57, 58].all m_achk = true := by decide +kernel
theorem ac_9 : [59, 60, 61, 62, 63, 64, 65, 66].all m_achk = true := by decide +kernel
theorem ac_10 : [67, 68, 69, 70, 71].all m_achk = true := by decide +kernel
theorem ac_11 : [72, 73, 74, 75, 76, 77, 78].all m_achk = true := by decide +kernel
theorem ac_12 : [79, 80, 81, 82, 83, 84, 85, 86, 87, 88, 89].all m_achk = true := by decide +kernel
theorem ac_13 : [90, 91, 92, 93, 94, 95].all m_achk = true := by decide +kernel
theorem ac_14 : [96, 97, 98, 99].all m_achk = true := by decide +kernel
theorem ac_15 : [100, 101, 102, 103, 104, 105, 106, 107].all m_achk = true := by decide +kernel
theorem ac_16 : [108, 109, 110].all m_achk = true := by decide +kernel
theorem ac_17 : [111, 112].all m_achk = true := by decide +kernel
theorem ac_18 : [113, 114].all m_achk = true := by decide +kernel
theorem ac_19 : [115, 116].all m_achk = true := by decide +kernel
theorem ac_20 : [117, 118, 119].all m_achk = true := by decide +kernel
theorem ac_21 : [120, 121].all m_achk = true := by decide +kernel
theorem ac_22 : [122, 123, 124].all m_achk = true := by decide +kernel
theorem ac_23 : [125].all m_achk = true := by decide +kernel
theorem ac_24 : [126].all m_achk = true := by decide +kernel
theorem ac_25 : [127, 128, 129, 130].all m_achk = true := by decide +kernel
theorem ac_26 : [131, 132, 133].all m_achk = true := by decide +kernel
theorem ac_27 : [134, 135, 136].all m_achk = true := by decide +kernel
theorem ac_28 : [137, 138, 139, 140, 141].all m_achk = true := by decide +kernel
theorem ac_29 : [142, 143, 144, 145, 146, 147].all m_achk = true := by decide +kernel
theorem ac_30 : [148, 149, 150, 151, 152].all m_achk = true := by decide +kernel
theorem ac_31 : [153, 154, 155, 156, 157, 158, 159, 160, 161, 162, 163].all m_achk = true := by decide +kernel
theorem ac_32 : [164, 165, 166, 167, 168, 169, 170, 171, 172, 173, 174, 175, 176].all m_achk = true := by decide +kernel
def m_cseg (mi : Nat) (cc : ByteArray) (e : Nat) : MCode → Bool
  | [] => true
  | x :: r => (match decode cc x.1 with
    | .ok (j, len) => decide (j = x.2) && decide (m_iln x.2 = len ∨ m_iln x.2 = 0) && decide ((match r with
      | y :: _ => y.1
      | [] => e) = x.1 + len)
    | _ => false) && m_ichk mi x.1 x.2 && m_cseg mi cc e r
theorem m_vl_app {mi e : Nat} {c2 : MCode} (h2 : m_vl mi c2) (he : ∀ y r', c2 = y :: r' → y.1 = e) : ∀ {c1 : MCode}, m_cseg mi (m_cc mi) e c1 = true → m_vl mi (c1 ++ c2)
  | [], _ => h2
  | x :: r, h => by
    simp only [m_cseg, Bool.and_eq_true] at h
    refine ⟨?_, h.1.2, m_vl_app h2 he h.2⟩
    have h1 := h.1.1
    split at h1
    · rename_i j len hd
      simp only [Bool.and_eq_true, decide_eq_true_eq] at h1
      refine ⟨len, by rw [hd, h1.1.1], h1.1.2, fun y r' hr => ?_⟩
      have h3 := h1.2
      cases r with
      | nil => rw [he y r' hr]; exact h3
      | cons z r => cases hr; exact h3
    · cases h1
theorem m_vl_seg {mi e n : Nat} {c : MCode} (a : Nat) (h1 : m_cseg mi (m_cc mi) e ((c.drop a).take n) = true) {a2 : Nat} (ha : a2 = a + n) (h2 : m_vl mi (c.drop a2)) (he : ((c.drop a2).head?.map Prod.fst).getD e = e) : m_vl mi (c.drop a) := by
  subst ha
  have h3 : c.drop a = (c.drop a).take n ++ c.drop (a + n) := by rw [← List.drop_drop, List.take_append_drop]
  rw [h3]
  refine m_vl_app h2 (fun y r' hr => ?_) h1
  rw [hr] at he
  simpa using he
theorem sg_0 : m_cseg 177 (m_cc 177) 203 ((m_code 177).drop 0 |>.take 60) = true := by decide +kernel
theorem sh_0 : (((m_code 177).drop 60).head?.map Prod.fst).getD 203 = 203 := by decide +kernel
theorem sg_1 : m_cseg 177 (m_cc 177) 291 ((m_code 177).drop 60 |>.take 60) = true := by decide +kernel
theorem sh_1 : (((m_code 177).drop 120).head?.map Prod.fst).getD 291 = 291 := by decide +kernel
theorem sg_2 : m_cseg 177 (m_cc 177) 369 ((m_code 177).drop 120 |>.take 60) = true := by decide +kernel
theorem sh_2 : (((m_code 177).drop 180).head?.map Prod.fst).getD 369 = 369 := by decide +kernel
theorem sg_3 : m_cseg 177 (m_cc 177) 463 ((m_code 177).drop 180 |>.take 60) = true := by decide +kernel
theorem sh_3 : (((m_code 177).drop 240).head?.map Prod.fst).getD 463 = 463 := by decide +kernel
theorem sg_4 : m_cseg 177 (m_cc 177) 551 ((m_code 177).drop 240 |>.take 60) = true := by decide +kernel
theorem sh_4 : (((m_code 177).drop 300).head?.map Prod.fst).getD 551 = 551 := by decide +kernel
theorem sg_5 : m_cseg 177 (m_cc 177) 632 ((m_code 177).drop 300 |>.take 60) = true := by decide +kernel
theorem sh_5 : (((m_code 177).drop 360).head?.map Prod.fst).getD 632 = 632 := by decide +kernel
theorem sg_6 : m_cseg 177 (m_cc 177) 721 ((m_code 177).drop 360 |>.take 60) = true := by decide +kernel
theorem sh_6 : (((m_code 177).drop 420).head?.map Prod.fst).getD 721 = 721 := by decide +kernel
theorem sg_7 : m_cseg 177 (m_cc 177) 813 ((m_code 177).drop 420 |>.take 60) = true := by decide +kernel
theorem sh_7 : (((m_code 177).drop 480).head?.map Prod.fst).getD 813 = 813 := by decide +kernel
theorem sg_8 : m_cseg 177 (m_cc 177) 901 ((m_code 177).drop 480 |>.take 60) = true := by decide +kernel
theorem sh_8 : (((m_code 177).drop 540).head?.map Prod.fst).getD 901 = 901 := by decide +kernel
theorem sg_9 : m_cseg 177 (m_cc 177) 996 ((m_code 177).drop 540 |>.take 60) = true := by decide +kernel
theorem sh_9 : (((m_code 177).drop 600).head?.map Prod.fst).getD 996 = 996 := by decide +kernel
theorem sg_10 : m_cseg 177 (m_cc 177) 1083 ((m_code 177).drop 600 |>.take 60) = true := by decide +kernel
theorem sh_10 : (((m_code 177).drop 660).head?.map Prod.fst).getD 1083 = 1083 := by decide +kernel
theorem sg_11 : m_cseg 177 (m_cc 177) 1178 ((m_code 177).drop 660 |>.take 60) = true := by decide +kernel
theorem sh_11 : (((m_code 177).drop 720).head?.map Prod.fst).getD 1178 = 1178 := by decide +kernel
theorem sg_12 : m_cseg 177 (m_cc 177) 1267 ((m_code 177).drop 720 |>.take 60) = true := by decide +kernel
theorem sh_12 : (((m_code 177).drop 780).head?.map Prod.fst).getD 1267 = 1267 := by decide +kernel
theorem sg_13 : m_cseg 177 (m_cc 177) 1356 ((m_code 177).drop 780 |>.take 60) = true := by decide +kernel
theorem sh_13 : (((m_code 177).drop 840).head?.map Prod.fst).getD 1356 = 1356 := by decide +kernel
theorem sg_14 : m_cseg 177 (m_cc 177) 1449 ((m_code 177).drop 840 |>.take 60) = true := by decide +kernel
theorem sh_14 : (((m_code 177).drop 900).head?.map Prod.fst).getD 1449 = 1449 := by decide +kernel
theorem sg_15 : m_cseg 177 (m_cc 177) 1541 ((m_code 177).drop 900 |>.take 60) = true := by decide +kernel
theorem sh_15 : (((m_code 177).drop 960).head?.map Prod.fst).getD 1541 = 1541 := by decide +kernel
theorem sg_16 : m_cseg 177 (m_cc 177) 1637 ((m_code 177).drop 960 |>.take 60) = true := by decide +kernel
theorem sh_16 : (((m_code 177).drop 1020).head?.map Prod.fst).getD 1637 = 1637 := by decide +kernel
theorem sg_17 : m_cseg 177 (m_cc 177) 1725 ((m_code 177).drop 1020 |>.take 60) = true := by decide +kernel
theorem sh_17 : (((m_code 177).drop 1080).head?.map Prod.fst).getD 1725 = 1725 := by decide +kernel
theorem sg_18 : m_cseg 177 (m_cc 177) 1814 ((m_code 177).drop 1080 |>.take 60) = true := by decide +kernel
theorem sh_18 : (((m_code 177).drop 1140).head?.map Prod.fst).getD 1814 = 1814 := by decide +kernel
theorem sg_19 : m_cseg 177 (m_cc 177) 1903 ((m_code 177).drop 1140 |>.take 60) = true := by decide +kernel
theorem sh_19 : (((m_code 177).drop 1200).head?.map Prod.fst).getD 1903 = 1903 := by decide +kernel
theorem tc_law : m_tchk 177 = true := by decide +kernel
theorem s_end : (m_code 177).length ≤ 1200 := by decide +kernel
