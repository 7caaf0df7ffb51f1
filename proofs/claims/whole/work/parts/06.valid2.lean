theorem sv_20 : m_vl 177 ((m_code 177).drop 1200) := by
  rw [List.drop_eq_nil_of_le s_end]
  trivial
set_option maxRecDepth 20000 in
theorem sv_19 : m_vl 177 ((m_code 177).drop 1140) := m_vl_seg (mi := 177) (c := m_code 177) (n := 60) 1140 sg_19 (by omega) sv_20 sh_19
set_option maxRecDepth 20000 in
theorem sv_18 : m_vl 177 ((m_code 177).drop 1080) := m_vl_seg (mi := 177) (c := m_code 177) (n := 60) 1080 sg_18 (by omega) sv_19 sh_18
set_option maxRecDepth 20000 in
theorem sv_17 : m_vl 177 ((m_code 177).drop 1020) := m_vl_seg (mi := 177) (c := m_code 177) (n := 60) 1020 sg_17 (by omega) sv_18 sh_17
set_option maxRecDepth 20000 in
theorem sv_16 : m_vl 177 ((m_code 177).drop 960) := m_vl_seg (mi := 177) (c := m_code 177) (n := 60) 960 sg_16 (by omega) sv_17 sh_16
set_option maxRecDepth 20000 in
theorem sv_15 : m_vl 177 ((m_code 177).drop 900) := m_vl_seg (mi := 177) (c := m_code 177) (n := 60) 900 sg_15 (by omega) sv_16 sh_15
set_option maxRecDepth 20000 in
theorem sv_14 : m_vl 177 ((m_code 177).drop 840) := m_vl_seg (mi := 177) (c := m_code 177) (n := 60) 840 sg_14 (by omega) sv_15 sh_14
set_option maxRecDepth 20000 in
theorem sv_13 : m_vl 177 ((m_code 177).drop 780) := m_vl_seg (mi := 177) (c := m_code 177) (n := 60) 780 sg_13 (by omega) sv_14 sh_13
set_option maxRecDepth 20000 in
theorem sv_12 : m_vl 177 ((m_code 177).drop 720) := m_vl_seg (mi := 177) (c := m_code 177) (n := 60) 720 sg_12 (by omega) sv_13 sh_12
set_option maxRecDepth 20000 in
theorem sv_11 : m_vl 177 ((m_code 177).drop 660) := m_vl_seg (mi := 177) (c := m_code 177) (n := 60) 660 sg_11 (by omega) sv_12 sh_11
set_option maxRecDepth 20000 in
theorem sv_10 : m_vl 177 ((m_code 177).drop 600) := m_vl_seg (mi := 177) (c := m_code 177) (n := 60) 600 sg_10 (by omega) sv_11 sh_10
set_option maxRecDepth 20000 in
theorem sv_9 : m_vl 177 ((m_code 177).drop 540) := m_vl_seg (mi := 177) (c := m_code 177) (n := 60) 540 sg_9 (by omega) sv_10 sh_9
set_option maxRecDepth 20000 in
theorem sv_8 : m_vl 177 ((m_code 177).drop 480) := m_vl_seg (mi := 177) (c := m_code 177) (n := 60) 480 sg_8 (by omega) sv_9 sh_8
set_option maxRecDepth 20000 in
theorem sv_7 : m_vl 177 ((m_code 177).drop 420) := m_vl_seg (mi := 177) (c := m_code 177) (n := 60) 420 sg_7 (by omega) sv_8 sh_7
set_option maxRecDepth 20000 in
theorem sv_6 : m_vl 177 ((m_code 177).drop 360) := m_vl_seg (mi := 177) (c := m_code 177) (n := 60) 360 sg_6 (by omega) sv_7 sh_6
set_option maxRecDepth 20000 in
theorem sv_5 : m_vl 177 ((m_code 177).drop 300) := m_vl_seg (mi := 177) (c := m_code 177) (n := 60) 300 sg_5 (by omega) sv_6 sh_5
set_option maxRecDepth 20000 in
theorem sv_4 : m_vl 177 ((m_code 177).drop 240) := m_vl_seg (mi := 177) (c := m_code 177) (n := 60) 240 sg_4 (by omega) sv_5 sh_4
set_option maxRecDepth 20000 in
theorem sv_3 : m_vl 177 ((m_code 177).drop 180) := m_vl_seg (mi := 177) (c := m_code 177) (n := 60) 180 sg_3 (by omega) sv_4 sh_3
set_option maxRecDepth 20000 in
theorem sv_2 : m_vl 177 ((m_code 177).drop 120) := m_vl_seg (mi := 177) (c := m_code 177) (n := 60) 120 sg_2 (by omega) sv_3 sh_2
set_option maxRecDepth 20000 in
theorem sv_1 : m_vl 177 ((m_code 177).drop 60) := m_vl_seg (mi := 177) (c := m_code 177) (n := 60) 60 sg_1 (by omega) sv_2 sh_1
set_option maxRecDepth 20000 in
theorem sv_0 : m_vl 177 ((m_code 177).drop 0) := m_vl_seg (mi := 177) (c := m_code 177) (n := 60) 0 sg_0 (by omega) sv_1 sh_0
theorem m_acs {mi : Nat} (h : mi < 177) : m_achk mi = true := by
  by_cases h0 : mi < 8
  · exact List.all_eq_true.mp ac_0 mi (by simp; omega)
  by_cases h1 : mi < 17
  · exact List.all_eq_true.mp ac_1 mi (by simp; omega)
  by_cases h2 : mi < 24
  · exact List.all_eq_true.mp ac_2 mi (by simp; omega)
  by_cases h3 : mi < 29
  · exact List.all_eq_true.mp ac_3 mi (by simp; omega)
  by_cases h4 : mi < 32
  · exact List.all_eq_true.mp ac_4 mi (by simp; omega)
  by_cases h5 : mi < 36
  · exact List.all_eq_true.mp ac_5 mi (by simp; omega)
  by_cases h6 : mi < 41
  · exact List.all_eq_true.mp ac_6 mi (by simp; omega)
  by_cases h7 : mi < 49
  · exact List.all_eq_true.mp ac_7 mi (by simp; omega)
  by_cases h8 : mi < 59
  · exact List.all_eq_true.mp ac_8 mi (by simp; omega)
  by_cases h9 : mi < 67
  · exact List.all_eq_true.mp ac_9 mi (by simp; omega)
  by_cases h10 : mi < 72
  · exact List.all_eq_true.mp ac_10 mi (by simp; omega)
  by_cases h11 : mi < 79
  · exact List.all_eq_true.mp ac_11 mi (by simp; omega)
  by_cases h12 : mi < 90
  · exact List.all_eq_true.mp ac_12 mi (by simp; omega)
  by_cases h13 : mi < 96
  · exact List.all_eq_true.mp ac_13 mi (by simp; omega)
  by_cases h14 : mi < 100
  · exact List.all_eq_true.mp ac_14 mi (by simp; omega)
  by_cases h15 : mi < 108
  · exact List.all_eq_true.mp ac_15 mi (by simp; omega)
  by_cases h16 : mi < 111
  · exact List.all_eq_true.mp ac_16 mi (by simp; omega)
  by_cases h17 : mi < 113
  · exact List.all_eq_true.mp ac_17 mi (by simp; omega)
  by_cases h18 : mi < 115
  · exact List.all_eq_true.mp ac_18 mi (by simp; omega)
  by_cases h19 : mi < 117
  · exact List.all_eq_true.mp ac_19 mi (by simp; omega)
  by_cases h20 : mi < 120
  · exact List.all_eq_true.mp ac_20 mi (by simp; omega)
  by_cases h21 : mi < 122
  · exact List.all_eq_true.mp ac_21 mi (by simp; omega)
  by_cases h22 : mi < 125
  · exact List.all_eq_true.mp ac_22 mi (by simp; omega)
  by_cases h23 : mi < 126
  · exact List.all_eq_true.mp ac_23 mi (by simp; omega)
  by_cases h24 : mi < 127
  · exact List.all_eq_true.mp ac_24 mi (by simp; omega)
  by_cases h25 : mi < 131
  · exact List.all_eq_true.mp ac_25 mi (by simp; omega)
  by_cases h26 : mi < 134
  · exact List.all_eq_true.mp ac_26 mi (by simp; omega)
  by_cases h27 : mi < 137
  · exact List.all_eq_true.mp ac_27 mi (by simp; omega)
  by_cases h28 : mi < 142
  · exact List.all_eq_true.mp ac_28 mi (by simp; omega)
  by_cases h29 : mi < 148
  · exact List.all_eq_true.mp ac_29 mi (by simp; omega)
  by_cases h30 : mi < 153
  · exact List.all_eq_true.mp ac_30 mi (by simp; omega)
  by_cases h31 : mi < 164
  · exact List.all_eq_true.mp ac_31 mi (by simp; omega)
  exact List.all_eq_true.mp ac_32 mi (by simp; omega)
theorem m_vlc {mi : Nat} (h : mi < 178) : m_vl mi (m_code mi) := by
  by_cases h9 : mi < 177
  · have h1 := m_acs h9
    simp only [m_achk, Bool.and_eq_true] at h1
    exact m_vl_of h1.1.1
  · have e : mi = 177 := by omega
    subst e
    exact sv_0
theorem m_tcs {mi : Nat} (h : mi < 178) : m_tchk mi = true := by
  by_cases h9 : mi < 177
  · have h1 := m_acs h9
    simp only [m_achk, Bool.and_eq_true] at h1
    exact h1.1.2
  · have e : mi = 177 := by omega
    subst e
    exact tc_law
def m_pc : MCode → Nat
  | [] => 0
  | x :: _ => x.1
theorem m_blk_ok {mi : Nat} (h : mi < 178) (t : Nat) : m_vl mi (m_blk mi t) ∧ (m_blk mi t ≠ [] → m_pc (m_blk mi t) = t) := by
  unfold m_blk
  split
  · rename_i k hk
    refine ⟨m_vl_drop k (m_vlc h), fun hne => ?_⟩
    have h2 := List.all_eq_true.mp (m_tcs h) _ (m_lookup hk)
    simp only [decide_eq_true_eq] at h2
    cases hd : (m_code mi).drop k with
    | nil => exact absurd hd hne
    | cons x r =>
      have e : (m_code mi)[k]? = some x := by
        rw [← List.head?_drop, hd]
        rfl
      rw [e] at h2
      simpa [m_pc] using h2
  · exact ⟨trivial, fun h => absurd rfl h⟩
theorem m_jmp_ok {mi : Nat} (h : mi < 178) (pc : Nat) (off : Int) : m_vl mi (m_jmp mi pc off) ∧ (m_jmp mi pc off ≠ [] → (pc : Int) + off = (m_pc (m_jmp mi pc off) : Int)) := by
  unfold m_jmp
  split
  · rename_i h0
    obtain ⟨h1, h2⟩ := m_blk_ok h ((pc : Int) + off).toNat
    refine ⟨h1, fun hne => ?_⟩
    rw [h2 hne]
    omega
  · exact ⟨trivial, fun h => absurd rfl h⟩
