/-! ===== the tables' words, by their places ===== -/
def lw_good : List Cond := lw_tbl.filter goodWord
theorem good_in : GoodIn lw_good lw_good := fun w h => ⟨h, good_of_word (List.mem_filter.mp h).2⟩
def m_isB : Cond → Bool
  | .castable _ _ => true
  | .declares _ => true
  | .methodLinkNest _ _ _ _ => true
  | .arrayOver (.object _) => true
  | _ => false
def m_bad : List Cond := lw_tbl.filter m_isB
def m_pg (w : Cond) (i : Nat) : Bool := decide (lw_tbl[i]? = some w) && goodWord w
theorem m_pg_ok {w : Cond} {i : Nat} (h : m_pg w i = true) : w ∈ lw_good := by
  simp only [m_pg, Bool.and_eq_true, decide_eq_true_eq] at h
  exact List.mem_filter.mpr ⟨List.mem_of_getElem? h.1, h.2⟩
def m_pb (w : Cond) (i : Nat) : Bool := decide (lw_tbl[i]? = some w) && m_isB w
theorem m_pb_ok {w : Cond} {i : Nat} (h : m_pb w i = true) : w ∈ m_bad := by
  simp only [m_pb, Bool.and_eq_true, decide_eq_true_eq] at h
  exact List.mem_filter.mpr ⟨List.mem_of_getElem? h.1, h.2⟩
theorem m_zip {α β : Type} {P : α → β → Bool} : ∀ {l : List α} {r : List β}, l.length ≤ r.length → (l.zip r).all (fun x => P x.1 x.2) = true → ∀ a ∈ l, ∃ b, P a b = true
  | [], _, _, _ => fun a h => by simp at h
  | x :: l, [], h, _ => by simp at h
  | x :: l, y :: r, h, h2 => by
    simp only [List.zip_cons_cons, List.all_cons, Bool.and_eq_true] at h2
    simp only [List.length_cons] at h
    intro a ha
    rcases List.mem_cons.mp ha with rfl | ha
    · exact ⟨y, h2.1⟩
    · exact m_zip (by omega) h2.2 a ha
theorem m_lookup {β : Type} {i : Nat} {v : β} : ∀ {l : List (Nat × β)}, l.lookup i = some v → (i, v) ∈ l
  | [], h => by simp at h
  | (j, w) :: l, h => by
    rw [List.lookup_cons] at h
    split at h
    · rename_i hb
      have e : i = j := by simpa using hb
      cases h
      subst e
      exact List.mem_cons_self
    · exact List.mem_cons_of_mem _ (m_lookup h)
def m_cn (o : Nat) : String := oN.getD o ""
def m_tyc : Nat → Option FieldType → Bool
  | 0, some .int => true
  | 1, some .boolean => true
  | 2, some (.object _) => true
  | 2, some (.array _) => true
  | _, _ => false
def m_fc (o : Nat) (e : Nat × Nat × Nat × Nat × Bool) (i : Nat) : Bool := match vwCl[e.2.1]? with
  | some q => decide (e.2.2.1 < q.2.2) && m_pg (.fieldLink (m_cn o) e.1 (q.2.1 e.2.2.1).1 (q.2.1 e.2.2.1).2.1 (q.2.1 e.2.2.1).2.2.1) i && decide ((q.2.1 e.2.2.1).2.2.2 = e.2.2.2.2) && m_tyc e.2.2.2.1 (parseFieldDescriptor (q.2.1 e.2.2.1).2.2.1) && decide ((q.2.1 e.2.2.1).1 = q.1)
  | none => false
theorem fc_0 : ((tF.getD 0 []).zip [404, 406, 408, 410, 413, 416, 419, 422, 441, 443, 445, 447]).all (fun x => m_fc 0 x.1 x.2) = true := by decide +kernel
theorem fc_1 : ((tF.getD 1 []).zip [100, 103, 173, 176, 180, 186, 188, 190, 193, 196, 199, 201]).all (fun x => m_fc 1 x.1 x.2) = true := by decide +kernel
theorem fc_2 : ((tF.getD 2 []).zip [101, 104, 129, 134, 137, 139, 145, 179, 183, 185, 198, 202, 231, 235, 239, 241, 244, 247, 280, 282, 284, 286, 288, 290, 292, 294, 296, 298, 303, 344, 348, 351, 355, 367, 368, 370, 372, 374, 375]).all (fun x => m_fc 2 x.1 x.2) = true := by decide +kernel
theorem fc_3 : ((tF.getD 3 []).zip [403, 412, 415, 418, 421]).all (fun x => m_fc 3 x.1 x.2) = true := by decide +kernel
theorem fc_4 : ((tF.getD 4 []).zip [99, 102, 120, 122, 128, 132, 143, 230, 232, 234, 237, 240, 243, 246]).all (fun x => m_fc 4 x.1 x.2) = true := by decide +kernel
theorem fc_5 : ((tF.getD 5 []).zip [119, 123, 125, 131, 141, 279, 281, 283, 285, 287, 289, 291, 293, 295, 297, 299, 301, 304, 306]).all (fun x => m_fc 5 x.1 x.2) = true := by decide +kernel
theorem fc_6 : ((tF.getD 6 []).zip []).all (fun x => m_fc 6 x.1 x.2) = true := by decide +kernel
theorem fc_7 : ((tF.getD 7 []).zip [118, 124, 127, 130, 133, 135, 138, 140, 142]).all (fun x => m_fc 7 x.1 x.2) = true := by decide +kernel
theorem fc_8 : ((tF.getD 8 []).zip [175, 191, 194, 197, 200, 343, 345, 347, 350, 353]).all (fun x => m_fc 8 x.1 x.2) = true := by decide +kernel
theorem fc_9 : ((tF.getD 9 []).zip [121, 126, 136, 144, 174, 177, 178, 181, 182, 184, 187, 189, 192, 195, 233, 236, 238, 242, 245, 248, 300, 302, 305, 307, 346, 349, 352, 354, 369, 371, 373, 405, 407, 409, 411, 414, 417, 420, 423, 442, 444, 446, 448, 458, 459, 460, 461, 462]).all (fun x => m_fc 9 x.1 x.2) = true := by decide +kernel
theorem fc_10 : ((tF.getD 10 []).zip [1021, 1022, 1023, 1024, 1025, 1026, 1027, 1028, 1029, 1030, 1031, 1032, 1033, 1034, 1035, 1036, 1037, 1038, 1039, 1040, 1041, 1042, 1043, 1044, 1045, 1046, 1047, 1048, 1049, 1050, 1051, 1052, 1053, 1054, 1055, 1056, 1057, 1058, 1059, 1060, 1061, 1062, 1063, 1064, 1065, 1066, 1067, 1068, 1069, 1070]).all (fun x => m_fc 10 x.1 x.2) = true := by decide +kernel
theorem fc_11 : ((tF.getD 11 []).zip []).all (fun x => m_fc 11 x.1 x.2) = true := by decide +kernel
theorem fc_12 : ((tF.getD 12 []).zip []).all (fun x => m_fc 12 x.1 x.2) = true := by decide +kernel
theorem m_fcs : ∀ o, ∀ e ∈ tF.getD o [], ∃ i, m_fc o e i = true := by
  intro o
  match o with
  | 0 => exact m_zip (r := [404, 406, 408, 410, 413, 416, 419, 422, 441, 443, 445, 447]) (by decide) fc_0
  | 1 => exact m_zip (r := [100, 103, 173, 176, 180, 186, 188, 190, 193, 196, 199, 201]) (by decide) fc_1
  | 2 => exact m_zip (r := [101, 104, 129, 134, 137, 139, 145, 179, 183, 185, 198, 202, 231, 235, 239, 241, 244, 247, 280, 282, 284, 286, 288, 290, 292, 294, 296, 298, 303, 344, 348, 351, 355, 367, 368, 370, 372, 374, 375]) (by decide) fc_2
  | 3 => exact m_zip (r := [403, 412, 415, 418, 421]) (by decide) fc_3
  | 4 => exact m_zip (r := [99, 102, 120, 122, 128, 132, 143, 230, 232, 234, 237, 240, 243, 246]) (by decide) fc_4
  | 5 => exact m_zip (r := [119, 123, 125, 131, 141, 279, 281, 283, 285, 287, 289, 291, 293, 295, 297, 299, 301, 304, 306]) (by decide) fc_5
  | 6 => exact m_zip (r := []) (by decide) fc_6
  | 7 => exact m_zip (r := [118, 124, 127, 130, 133, 135, 138, 140, 142]) (by decide) fc_7
  | 8 => exact m_zip (r := [175, 191, 194, 197, 200, 343, 345, 347, 350, 353]) (by decide) fc_8
  | 9 => exact m_zip (r := [121, 126, 136, 144, 174, 177, 178, 181, 182, 184, 187, 189, 192, 195, 233, 236, 238, 242, 245, 248, 300, 302, 305, 307, 346, 349, 352, 354, 369, 371, 373, 405, 407, 409, 411, 414, 417, 420, 423, 442, 444, 446, 448, 458, 459, 460, 461, 462]) (by decide) fc_9
  | 10 => exact m_zip (r := [1021, 1022, 1023, 1024, 1025, 1026, 1027, 1028, 1029, 1030, 1031, 1032, 1033, 1034, 1035, 1036, 1037, 1038, 1039, 1040, 1041, 1042, 1043, 1044, 1045, 1046, 1047, 1048, 1049, 1050, 1051, 1052, 1053, 1054, 1055, 1056, 1057, 1058, 1059, 1060, 1061, 1062, 1063, 1064, 1065, 1066, 1067, 1068, 1069, 1070]) (by decide) fc_10
  | 11 => exact m_zip (r := []) (by decide) fc_11
  | 12 => exact m_zip (r := []) (by decide) fc_12
  | o + 13 => exact fun e h => by simp [tF] at h
theorem m_fld {o i ci k tk : Nat} {fin : Bool} (h : fR o i = some (ci, k, tk, fin)) : ∃ (C : String) (T : u_T) (N : Nat), vwCl[ci]? = some (C, T, N) ∧ k < N ∧ Cond.fieldLink (m_cn o) i (T k).1 (T k).2.1 (T k).2.2.1 ∈ lw_good ∧ (T k).2.2.2 = fin ∧ m_tyc tk (parseFieldDescriptor (T k).2.2.1) = true ∧ (T k).1 = C := by
  obtain ⟨p, hp⟩ := m_fcs o _ (m_lookup h)
  unfold m_fc at hp
  split at hp
  · rename_i q hq
    obtain ⟨C, T, N⟩ := q
    simp only [Bool.and_eq_true, decide_eq_true_eq] at hp
    exact ⟨C, T, N, hq, hp.1.1.1.1, m_pg_ok hp.1.1.1.2, hp.1.1.2, hp.1.2, hp.2⟩
  · cases hp
theorem uw_0 : ∀ w ∈ wsX00, w ∈ lw_good := by decide +kernel
theorem ui_0 : m_pg (.instantiable RX0 4) 390 = true ∧ m_pg (.initialized RX0) 64 = true := by decide +kernel
theorem uw_1 : ∀ w ∈ wsX10, w ∈ lw_good := by decide +kernel
theorem ui_1 : m_pg (.instantiable RX1 13) 168 = true ∧ m_pg (.initialized RX1) 60 = true := by decide +kernel
theorem uw_2 : ∀ w ∈ wsX20, w ∈ lw_good := by decide +kernel
theorem ui_2 : m_pg (.instantiable RX2 6) 265 = true ∧ m_pg (.initialized RX2) 61 = true := by decide +kernel
theorem uw_3 : ∀ w ∈ wsX30, w ∈ lw_good := by decide +kernel
theorem ui_3 : m_pg (.instantiable RX3 8) 398 = true ∧ m_pg (.initialized RX3) 65 = true := by decide +kernel
theorem uw_4 : ∀ w ∈ wsX40, w ∈ lw_good := by decide +kernel
theorem ui_4 : m_pg (.instantiable RX4 7) 83 = true ∧ m_pg (.initialized RX4) 56 = true := by decide +kernel
theorem uw_5 : ∀ w ∈ wsX50, w ∈ lw_good := by decide +kernel
theorem ui_5 : m_pg (.instantiable RX5 14) 274 = true ∧ m_pg (.initialized RX5) 62 = true := by decide +kernel
theorem uw_6 : ∀ w ∈ wsX60, w ∈ lw_good := by decide +kernel
theorem ui_6 : m_pg (.instantiable RX6 2) 94 = true ∧ m_pg (.initialized RX6) 57 = true := by decide +kernel
theorem uw_7 : ∀ w ∈ wsX70, w ∈ lw_good := by decide +kernel
theorem ui_7 : m_pg (.instantiable RX7 10) 110 = true ∧ m_pg (.initialized RX7) 58 = true := by decide +kernel
theorem uw_8 : ∀ w ∈ wsX80, w ∈ lw_good := by decide +kernel
theorem ui_8 : m_pg (.instantiable RX8 5) 338 = true ∧ m_pg (.initialized RX8) 63 = true := by decide +kernel
theorem uw_9 : ∀ w ∈ wsX90, w ∈ lw_good := by decide +kernel
theorem ui_9 : m_pg (.instantiable RX9 5) 75 = true ∧ m_pg (.initialized RX9) 55 = true := by decide +kernel
theorem uw_10 : ∀ w ∈ wsX100, w ∈ lw_good := by decide +kernel
theorem ui_10 : m_pg (.instantiable RX10 50) 1016 = true ∧ m_pg (.initialized RX10) 66 = true := by decide +kernel
def m_clsP (ci : Nat) (C : String) (T : u_T) (N : Nat) : Prop := (∀ w ∈ u_ws C T N, w ∈ lw_good) ∧ Cond.instantiable C N ∈ lw_good ∧ Cond.initialized C ∈ lw_good ∧ ∃ ty : Nat → FieldType, (∀ k, k < N → parseFieldDescriptor (T k).2.2.1 = some (ty k)) ∧ (∀ a, a < N → ∀ b, b < N → a ≠ b → (T a).2.1 ≠ (T b).2.1) ∧ (tD.getD ci []).length = N ∧ ∀ j, j < N → ∀ (A : List Nat) (b : Nat), defaultValue (ty j) = vp_V ((tD.getD ci []).map (m_val A b)) j
theorem m_cls {ci : Nat} {C : String} {T : u_T} {N : Nat} (h : vwCl[ci]? = some (C, T, N)) : ci < 11 ∧ m_clsP ci C T N := by
  match ci, h with
  | 0, h =>
    cases h
    refine ⟨by decide, uw_0, m_pg_ok ui_0.1, m_pg_ok ui_0.2, tyX0, tyX0_ok, nmX0, rfl, fun j hj A b => ?_⟩
    match j, hj with
    | 0, _ => rfl
    | 1, _ => rfl
    | 2, _ => rfl
    | 3, _ => rfl
    | j + 4, hj => exact absurd hj (by omega)
  | 1, h =>
    cases h
    refine ⟨by decide, uw_1, m_pg_ok ui_1.1, m_pg_ok ui_1.2, tyX1, tyX1_ok, nmX1, rfl, fun j hj A b => ?_⟩
    match j, hj with
    | 0, _ => rfl
    | 1, _ => rfl
    | 2, _ => rfl
    | 3, _ => rfl
    | 4, _ => rfl
    | 5, _ => rfl
    | 6, _ => rfl
    | 7, _ => rfl
    | 8, _ => rfl
    | 9, _ => rfl
    | 10, _ => rfl
    | 11, _ => rfl
    | 12, _ => rfl
    | j + 13, hj => exact absurd hj (by omega)
  | 2, h =>
    cases h
    refine ⟨by decide, uw_2, m_pg_ok ui_2.1, m_pg_ok ui_2.2, tyX2, tyX2_ok, nmX2, rfl, fun j hj A b => ?_⟩
    match j, hj with
    | 0, _ => rfl
    | 1, _ => rfl
    | 2, _ => rfl
    | 3, _ => rfl
    | 4, _ => rfl
    | 5, _ => rfl
    | j + 6, hj => exact absurd hj (by omega)
  | 3, h =>
    cases h
    refine ⟨by decide, uw_3, m_pg_ok ui_3.1, m_pg_ok ui_3.2, tyX3, tyX3_ok, nmX3, rfl, fun j hj A b => ?_⟩
    match j, hj with
    | 0, _ => rfl
    | 1, _ => rfl
    | 2, _ => rfl
    | 3, _ => rfl
    | 4, _ => rfl
    | 5, _ => rfl
    | 6, _ => rfl
    | 7, _ => rfl
    | j + 8, hj => exact absurd hj (by omega)
  | 4, h =>
    cases h
    refine ⟨by decide, uw_4, m_pg_ok ui_4.1, m_pg_ok ui_4.2, tyX4, tyX4_ok, nmX4, rfl, fun j hj A b => ?_⟩
    match j, hj with
    | 0, _ => rfl
    | 1, _ => rfl
    | 2, _ => rfl
    | 3, _ => rfl
    | 4, _ => rfl
    | 5, _ => rfl
    | 6, _ => rfl
    | j + 7, hj => exact absurd hj (by omega)
  | 5, h =>
    cases h
    refine ⟨by decide, uw_5, m_pg_ok ui_5.1, m_pg_ok ui_5.2, tyX5, tyX5_ok, nmX5, rfl, fun j hj A b => ?_⟩
    match j, hj with
    | 0, _ => rfl
    | 1, _ => rfl
    | 2, _ => rfl
    | 3, _ => rfl
    | 4, _ => rfl
    | 5, _ => rfl
    | 6, _ => rfl
    | 7, _ => rfl
    | 8, _ => rfl
    | 9, _ => rfl
    | 10, _ => rfl
    | 11, _ => rfl
    | 12, _ => rfl
    | 13, _ => rfl
    | j + 14, hj => exact absurd hj (by omega)
  | 6, h =>
    cases h
    refine ⟨by decide, uw_6, m_pg_ok ui_6.1, m_pg_ok ui_6.2, tyX6, tyX6_ok, nmX6, rfl, fun j hj A b => ?_⟩
    match j, hj with
    | 0, _ => rfl
    | 1, _ => rfl
    | j + 2, hj => exact absurd hj (by omega)
  | 7, h =>
    cases h
    refine ⟨by decide, uw_7, m_pg_ok ui_7.1, m_pg_ok ui_7.2, tyX7, tyX7_ok, nmX7, rfl, fun j hj A b => ?_⟩
    match j, hj with
    | 0, _ => rfl
    | 1, _ => rfl
    | 2, _ => rfl
    | 3, _ => rfl
    | 4, _ => rfl
    | 5, _ => rfl
    | 6, _ => rfl
    | 7, _ => rfl
    | 8, _ => rfl
    | 9, _ => rfl
    | j + 10, hj => exact absurd hj (by omega)
  | 8, h =>
    cases h
    refine ⟨by decide, uw_8, m_pg_ok ui_8.1, m_pg_ok ui_8.2, tyX8, tyX8_ok, nmX8, rfl, fun j hj A b => ?_⟩
    match j, hj with
    | 0, _ => rfl
    | 1, _ => rfl
    | 2, _ => rfl
    | 3, _ => rfl
    | 4, _ => rfl
    | j + 5, hj => exact absurd hj (by omega)
  | 9, h =>
    cases h
    refine ⟨by decide, uw_9, m_pg_ok ui_9.1, m_pg_ok ui_9.2, tyX9, tyX9_ok, nmX9, rfl, fun j hj A b => ?_⟩
    match j, hj with
    | 0, _ => rfl
    | 1, _ => rfl
    | 2, _ => rfl
    | 3, _ => rfl
    | 4, _ => rfl
    | j + 5, hj => exact absurd hj (by omega)
  | 10, h =>
    cases h
    refine ⟨by decide, uw_10, m_pg_ok ui_10.1, m_pg_ok ui_10.2, tyX10, tyX10_ok, nmX10, rfl, fun j hj A b => ?_⟩
    match j, hj with
    | 0, _ => rfl
    | 1, _ => rfl
    | 2, _ => rfl
    | 3, _ => rfl
    | 4, _ => rfl
    | 5, _ => rfl
    | 6, _ => rfl
    | 7, _ => rfl
    | 8, _ => rfl
    | 9, _ => rfl
    | 10, _ => rfl
    | 11, _ => rfl
    | 12, _ => rfl
    | 13, _ => rfl
    | 14, _ => rfl
    | 15, _ => rfl
    | 16, _ => rfl
    | 17, _ => rfl
    | 18, _ => rfl
    | 19, _ => rfl
    | 20, _ => rfl
    | 21, _ => rfl
    | 22, _ => rfl
    | 23, _ => rfl
    | 24, _ => rfl
    | 25, _ => rfl
    | 26, _ => rfl
    | 27, _ => rfl
    | 28, _ => rfl
    | 29, _ => rfl
    | 30, _ => rfl
    | 31, _ => rfl
    | 32, _ => rfl
    | 33, _ => rfl
    | 34, _ => rfl
    | 35, _ => rfl
    | 36, _ => rfl
    | 37, _ => rfl
    | 38, _ => rfl
    | 39, _ => rfl
    | 40, _ => rfl
    | 41, _ => rfl
    | 42, _ => rfl
    | 43, _ => rfl
    | 44, _ => rfl
    | 45, _ => rfl
    | 46, _ => rfl
    | 47, _ => rfl
    | 48, _ => rfl
    | 49, _ => rfl
    | j + 50, hj => exact absurd hj (by omega)
  | ci + 11, h => simp [vwCl] at h
def m_h4 (mi : Nat) : List (Nat × Nat × Nat × Nat) := (m_hand mi).map (fun q => (q.1, q.2.1, q.2.2.1, q.2.2.2.1))
def m_cw (mi : Nat) : Cond := if m_hand mi = [] then .code (m_y mi) (m_cc mi) (m_maxL mi) (m_ret mi) else .codeWith (m_y mi) (m_cc mi) (m_maxL mi) (m_ret mi) (m_h4 mi)
def m_mchk (mi : Nat) (ps : Nat × Nat × Nat × Nat) : Bool :=
  m_pg (m_cw mi) ps.1 && (match m_kind mi with
    | 0 => m_pg (.static (m_y mi)) ps.2.1
    | 1 => m_pg (.instanceMethod (m_y mi)) ps.2.1 && m_pg (.selects (m_y mi).cls (m_y mi) (m_y mi)) ps.2.2.1
    | _ => m_pg (.instanceMethod (m_y mi)) ps.2.1 && decide ((m_y mi).name = "<init>")) && m_pg (.initialized (m_y mi).cls) ps.2.2.2 &&
  decide ((m_y mi).cls = m_cn (m_own mi)) && decide ((m_y mi).cls ≠ "java/lang/invoke/MethodHandle") && decide ((m_y mi).cls ≠ "java/lang/invoke/VarHandle") && decide ((parseMethodDescriptor (m_y mi).desc).map (fun d => d.parameters.length) = some (m_narg mi)) && plainName (m_y mi).cls
theorem mc_0 : ([0, 1, 2, 3, 4, 5, 6, 7, 8, 9, 10, 11].zip [(393, 392, 0, 64), (839, 838, 0, 64), (884, 882, 883, 64), (851, 849, 850, 64), (855, 854, 18, 64), (859, 858, 19, 64), (863, 861, 862, 64), (867, 866, 20, 64), (836, 834, 835, 64), (871, 869, 870, 64), (909, 907, 908, 64), (914, 912, 913, 64)]).all (fun x => m_mchk x.1 x.2) = true := by decide +kernel
theorem mc_12 : ([12, 13, 14, 15, 16, 17, 18, 19, 20, 21, 22, 23].zip [(171, 170, 0, 60), (811, 809, 810, 60), (820, 818, 819, 60), (558, 556, 557, 60), (847, 845, 846, 60), (268, 267, 0, 61), (481, 479, 480, 61), (939, 937, 938, 61), (991, 989, 990, 61), (604, 602, 603, 61), (485, 484, 0, 61), (943, 942, 22, 61)]).all (fun x => m_mchk x.1 x.2) = true := by decide +kernel
theorem mc_24 : ([24, 25, 26, 27, 28, 29, 30, 31, 32, 33, 34, 35].zip [(947, 946, 23, 61), (950, 949, 0, 61), (508, 507, 1, 61), (512, 511, 2, 61), (522, 521, 0, 61), (534, 533, 3, 61), (550, 549, 4, 61), (554, 553, 5, 61), (562, 561, 6, 61), (567, 566, 7, 61), (579, 578, 8, 61), (583, 582, 9, 61)]).all (fun x => m_mchk x.1 x.2) = true := by decide +kernel
theorem mc_36 : ([36, 37, 38, 39, 40, 41, 42, 43, 44, 45, 46, 47].zip [(596, 595, 10, 61), (401, 400, 0, 65), (86, 85, 0, 56), (712, 710, 711, 56), (745, 743, 744, 56), (794, 792, 793, 56), (277, 276, 0, 62), (489, 487, 488, 62), (494, 492, 493, 62), (538, 536, 537, 62), (571, 569, 570, 62), (587, 585, 586, 62)]).all (fun x => m_mchk x.1 x.2) = true := by decide +kernel
theorem mc_48 : ([48, 49, 50, 51, 52, 53, 54, 55, 56, 57, 58, 59].zip [(591, 589, 590, 62), (600, 598, 599, 62), (516, 514, 515, 62), (97, 96, 0, 57), (113, 112, 0, 58), (762, 760, 761, 58), (815, 813, 814, 58), (341, 340, 0, 63), (503, 501, 502, 63), (526, 524, 525, 63), (608, 606, 607, 63), (546, 544, 545, 63)]).all (fun x => m_mchk x.1 x.2) = true := by decide +kernel
theorem mc_60 : ([60, 61, 62, 63, 64, 65, 66, 67, 68, 69, 70, 71].zip [(542, 540, 541, 63), (530, 528, 529, 63), (575, 573, 574, 63), (78, 77, 0, 55), (621, 619, 620, 55), (720, 718, 719, 55), (752, 750, 751, 55), (769, 767, 768, 55), (776, 774, 775, 55), (789, 787, 788, 55), (801, 799, 800, 55), (827, 825, 826, 55)]).all (fun x => m_mchk x.1 x.2) = true := by decide +kernel
theorem mc_72 : ([72, 73, 74, 75, 76, 77, 78, 79, 80, 81, 82, 83].zip [(878, 876, 877, 55), (891, 889, 890, 55), (904, 902, 903, 55), (921, 919, 920, 55), (928, 926, 927, 55), (935, 933, 934, 55), (958, 956, 957, 55), (965, 963, 964, 55), (972, 970, 971, 55), (980, 978, 979, 55), (477, 475, 476, 55), (987, 985, 986, 55)]).all (fun x => m_mchk x.1 x.2) = true := by decide +kernel
theorem mc_84 : ([84, 85, 86, 87, 88, 89, 90, 91, 92, 93, 94, 95].zip [(999, 997, 998, 55), (1006, 1004, 1005, 55), (1014, 1012, 1013, 55), (612, 610, 611, 55), (724, 723, 12, 55), (756, 755, 13, 55), (780, 779, 14, 55), (805, 804, 15, 55), (895, 894, 21, 55), (624, 623, 0, 55), (832, 831, 16, 55), (843, 842, 17, 55)]).all (fun x => m_mchk x.1 x.2) = true := by decide +kernel
theorem mc_96 : ([96, 97, 98, 99, 100, 101, 102, 103, 104, 105, 106, 107].zip [(1019, 1018, 0, 66), (1176, 1174, 1175, 66), (1183, 1182, 0, 66), (1187, 1186, 24, 66), (1195, 1194, 25, 66), (1203, 1202, 26, 66), (1219, 1218, 28, 66), (1231, 1230, 29, 66), (1275, 1274, 37, 66), (1207, 1206, 27, 66), (1180, 1178, 1179, 66), (1191, 1189, 1190, 66)]).all (fun x => m_mchk x.1 x.2) = true := by decide +kernel
theorem mc_108 : ([108, 109, 110, 111, 112, 113, 114, 115, 116, 117, 118, 119].zip [(1199, 1197, 1198, 66), (1211, 1209, 1210, 66), (1215, 1213, 1214, 66), (1223, 1221, 1222, 66), (1235, 1234, 30, 66), (1227, 1225, 1226, 66), (1295, 1294, 40, 66), (1291, 1290, 39, 66), (1303, 1302, 42, 66), (1299, 1298, 41, 66), (1327, 1326, 48, 66), (1311, 1310, 44, 66)]).all (fun x => m_mchk x.1 x.2) = true := by decide +kernel
theorem mc_120 : ([120, 121, 122, 123, 124, 125, 126, 127, 128, 129, 130, 131].zip [(1307, 1306, 43, 66), (1323, 1322, 47, 66), (1331, 1330, 49, 66), (1335, 1334, 50, 66), (1339, 1338, 51, 66), (1319, 1318, 46, 66), (1315, 1314, 45, 66), (1259, 1258, 35, 66), (1255, 1254, 34, 66), (1251, 1250, 33, 66), (1263, 1262, 36, 66), (1243, 1242, 31, 66)]).all (fun x => m_mchk x.1 x.2) = true := by decide +kernel
theorem mc_132 : ([132, 133, 134, 135, 136, 137, 138, 139, 140, 141, 142, 143].zip [(1247, 1246, 32, 66), (1239, 1237, 1238, 66), (1267, 1265, 1266, 66), (1271, 1269, 1270, 66), (1283, 1282, 38, 66), (1279, 1277, 1278, 66), (1287, 1285, 1286, 66), (1343, 1341, 1342, 66), (1347, 1345, 1346, 66), (1352, 1350, 1351, 66), (1356, 1354, 1355, 66), (1361, 1359, 1360, 66)]).all (fun x => m_mchk x.1 x.2) = true := by decide +kernel
theorem mc_144 : ([144, 145, 146, 147, 148, 149, 150, 151, 152, 153, 154, 155].zip [(1365, 1364, 52, 66), (1377, 1376, 53, 66), (1369, 1367, 1368, 66), (1373, 1371, 1372, 66), (1381, 1379, 1380, 66), (1385, 1383, 1384, 66), (1389, 1387, 1388, 66), (1393, 1391, 1392, 66), (1397, 1395, 1396, 66), (117, 116, 0, 59), (498, 497, 0, 59), (615, 614, 0, 54)]).all (fun x => m_mchk x.1 x.2) = true := by decide +kernel
theorem mc_156 : ([156, 157, 158, 159, 160, 161, 162, 163, 164, 165, 166, 167].zip [(715, 714, 0, 54), (748, 747, 0, 54), (765, 764, 0, 54), (772, 771, 0, 54), (785, 784, 0, 54), (797, 796, 0, 54), (823, 822, 0, 54), (874, 873, 0, 54), (887, 886, 0, 54), (900, 899, 0, 54), (917, 916, 0, 54), (924, 923, 0, 54)]).all (fun x => m_mchk x.1 x.2) = true := by decide +kernel
theorem mc_168 : ([168, 169, 170, 171, 172, 173, 174, 175, 176].zip [(931, 930, 0, 54), (954, 953, 0, 54), (961, 960, 0, 54), (968, 967, 0, 54), (976, 975, 0, 54), (983, 982, 0, 54), (995, 994, 0, 54), (1002, 1001, 0, 54), (1010, 1009, 0, 54)]).all (fun x => m_mchk x.1 x.2) = true := by decide +kernel
theorem m_mcs {mi : Nat} (h : mi < 177) : ∃ ps, m_mchk mi ps = true := by
  by_cases h0 : mi < 12
  · exact m_zip (r := [(393, 392, 0, 64), (839, 838, 0, 64), (884, 882, 883, 64), (851, 849, 850, 64), (855, 854, 18, 64), (859, 858, 19, 64), (863, 861, 862, 64), (867, 866, 20, 64), (836, 834, 835, 64), (871, 869, 870, 64), (909, 907, 908, 64), (914, 912, 913, 64)]) (by decide) mc_0 mi (by simp; omega)
  by_cases h12 : mi < 24
  · exact m_zip (r := [(171, 170, 0, 60), (811, 809, 810, 60), (820, 818, 819, 60), (558, 556, 557, 60), (847, 845, 846, 60), (268, 267, 0, 61), (481, 479, 480, 61), (939, 937, 938, 61), (991, 989, 990, 61), (604, 602, 603, 61), (485, 484, 0, 61), (943, 942, 22, 61)]) (by decide) mc_12 mi (by simp; omega)
  by_cases h24 : mi < 36
  · exact m_zip (r := [(947, 946, 23, 61), (950, 949, 0, 61), (508, 507, 1, 61), (512, 511, 2, 61), (522, 521, 0, 61), (534, 533, 3, 61), (550, 549, 4, 61), (554, 553, 5, 61), (562, 561, 6, 61), (567, 566, 7, 61), (579, 578, 8, 61), (583, 582, 9, 61)]) (by decide) mc_24 mi (by simp; omega)
  by_cases h36 : mi < 48
  · exact m_zip (r := [(596, 595, 10, 61), (401, 400, 0, 65), (86, 85, 0, 56), (712, 710, 711, 56), (745, 743, 744, 56), (794, 792, 793, 56), (277, 276, 0, 62), (489, 487, 488, 62), (494, 492, 493, 62), (538, 536, 537, 62), (571, 569, 570, 62), (587, 585, 586, 62)]) (by decide) mc_36 mi (by simp; omega)
  by_cases h48 : mi < 60
  · exact m_zip (r := [(591, 589, 590, 62), (600, 598, 599, 62), (516, 514, 515, 62), (97, 96, 0, 57), (113, 112, 0, 58), (762, 760, 761, 58), (815, 813, 814, 58), (341, 340, 0, 63), (503, 501, 502, 63), (526, 524, 525, 63), (608, 606, 607, 63), (546, 544, 545, 63)]) (by decide) mc_48 mi (by simp; omega)
  by_cases h60 : mi < 72
  · exact m_zip (r := [(542, 540, 541, 63), (530, 528, 529, 63), (575, 573, 574, 63), (78, 77, 0, 55), (621, 619, 620, 55), (720, 718, 719, 55), (752, 750, 751, 55), (769, 767, 768, 55), (776, 774, 775, 55), (789, 787, 788, 55), (801, 799, 800, 55), (827, 825, 826, 55)]) (by decide) mc_60 mi (by simp; omega)
  by_cases h72 : mi < 84
  · exact m_zip (r := [(878, 876, 877, 55), (891, 889, 890, 55), (904, 902, 903, 55), (921, 919, 920, 55), (928, 926, 927, 55), (935, 933, 934, 55), (958, 956, 957, 55), (965, 963, 964, 55), (972, 970, 971, 55), (980, 978, 979, 55), (477, 475, 476, 55), (987, 985, 986, 55)]) (by decide) mc_72 mi (by simp; omega)
  by_cases h84 : mi < 96
  · exact m_zip (r := [(999, 997, 998, 55), (1006, 1004, 1005, 55), (1014, 1012, 1013, 55), (612, 610, 611, 55), (724, 723, 12, 55), (756, 755, 13, 55), (780, 779, 14, 55), (805, 804, 15, 55), (895, 894, 21, 55), (624, 623, 0, 55), (832, 831, 16, 55), (843, 842, 17, 55)]) (by decide) mc_84 mi (by simp; omega)
  by_cases h96 : mi < 108
  · exact m_zip (r := [(1019, 1018, 0, 66), (1176, 1174, 1175, 66), (1183, 1182, 0, 66), (1187, 1186, 24, 66), (1195, 1194, 25, 66), (1203, 1202, 26, 66), (1219, 1218, 28, 66), (1231, 1230, 29, 66), (1275, 1274, 37, 66), (1207, 1206, 27, 66), (1180, 1178, 1179, 66), (1191, 1189, 1190, 66)]) (by decide) mc_96 mi (by simp; omega)
  by_cases h108 : mi < 120
  · exact m_zip (r := [(1199, 1197, 1198, 66), (1211, 1209, 1210, 66), (1215, 1213, 1214, 66), (1223, 1221, 1222, 66), (1235, 1234, 30, 66), (1227, 1225, 1226, 66), (1295, 1294, 40, 66), (1291, 1290, 39, 66), (1303, 1302, 42, 66), (1299, 1298, 41, 66), (1327, 1326, 48, 66), (1311, 1310, 44, 66)]) (by decide) mc_108 mi (by simp; omega)
  by_cases h120 : mi < 132
  · exact m_zip (r := [(1307, 1306, 43, 66), (1323, 1322, 47, 66), (1331, 1330, 49, 66), (1335, 1334, 50, 66), (1339, 1338, 51, 66), (1319, 1318, 46, 66), (1315, 1314, 45, 66), (1259, 1258, 35, 66), (1255, 1254, 34, 66), (1251, 1250, 33, 66), (1263, 1262, 36, 66), (1243, 1242, 31, 66)]) (by decide) mc_120 mi (by simp; omega)
  by_cases h132 : mi < 144
  · exact m_zip (r := [(1247, 1246, 32, 66), (1239, 1237, 1238, 66), (1267, 1265, 1266, 66), (1271, 1269, 1270, 66), (1283, 1282, 38, 66), (1279, 1277, 1278, 66), (1287, 1285, 1286, 66), (1343, 1341, 1342, 66), (1347, 1345, 1346, 66), (1352, 1350, 1351, 66), (1356, 1354, 1355, 66), (1361, 1359, 1360, 66)]) (by decide) mc_132 mi (by simp; omega)
  by_cases h144 : mi < 156
  · exact m_zip (r := [(1365, 1364, 52, 66), (1377, 1376, 53, 66), (1369, 1367, 1368, 66), (1373, 1371, 1372, 66), (1381, 1379, 1380, 66), (1385, 1383, 1384, 66), (1389, 1387, 1388, 66), (1393, 1391, 1392, 66), (1397, 1395, 1396, 66), (117, 116, 0, 59), (498, 497, 0, 59), (615, 614, 0, 54)]) (by decide) mc_144 mi (by simp; omega)
  by_cases h156 : mi < 168
  · exact m_zip (r := [(715, 714, 0, 54), (748, 747, 0, 54), (765, 764, 0, 54), (772, 771, 0, 54), (785, 784, 0, 54), (797, 796, 0, 54), (823, 822, 0, 54), (874, 873, 0, 54), (887, 886, 0, 54), (900, 899, 0, 54), (917, 916, 0, 54), (924, 923, 0, 54)]) (by decide) mc_156 mi (by simp; omega)
  exact m_zip (r := [(931, 930, 0, 54), (954, 953, 0, 54), (961, 960, 0, 54), (968, 967, 0, 54), (976, 975, 0, 54), (983, 982, 0, 54), (995, 994, 0, 54), (1002, 1001, 0, 54), (1010, 1009, 0, 54)]) (by decide) mc_168 mi (by simp; omega)
/-- a call's link: 1 a method (not of another class's private ones: 5), 2 Math.max, 3 Object's constructor, 4 an exception's -/
def m_cc1 (o : Nat) (e : Nat × Nat × Nat) (i : Nat) : Bool := match e.2.1 with
  | 1 => decide (e.2.2 < 177) && m_pg (.methodLink (m_cn o) e.1 (m_y e.2.2)) i
  | 2 => m_pg (.methodLink (m_cn o) e.1 Lib.Math.max.name) i
  | 3 => m_pg (.methodLink (m_cn o) e.1 objectInit) i
  | 4 => true
  | 5 => decide (e.2.2 < 177) && m_pb (.methodLinkNest (m_cn o) e.1 (m_y e.2.2) "Throughcoach") i
  | _ => false
theorem cc_0 : ((tC.getD 0 []).zip [394, 397, 399, 837, 852, 856, 864]).all (fun x => m_cc1 0 x.1 x.2) = true := by decide +kernel
theorem cc_1 : ((tC.getD 1 []).zip [172]).all (fun x => m_cc1 1 x.1 x.2) = true := by decide +kernel
theorem cc_2 : ((tC.getD 2 []).zip [269, 275, 339, 482, 486, 499, 500, 504, 505, 509, 513, 520, 523, 527, 531, 535, 539, 547, 551, 555, 559, 563, 564, 568, 572, 576, 580, 584, 588, 593, 597, 605, 940, 944, 948, 992]).all (fun x => m_cc1 2 x.1 x.2) = true := by decide +kernel
theorem cc_3 : ((tC.getD 3 []).zip [402]).all (fun x => m_cc1 3 x.1 x.2) = true := by decide +kernel
theorem cc_4 : ((tC.getD 4 []).zip [87, 111, 169, 95]).all (fun x => m_cc1 4 x.1 x.2) = true := by decide +kernel
theorem cc_5 : ((tC.getD 5 []).zip [278, 491, 495, 496, 517]).all (fun x => m_cc1 5 x.1 x.2) = true := by decide +kernel
theorem cc_6 : ((tC.getD 6 []).zip [98]).all (fun x => m_cc1 6 x.1 x.2) = true := by decide +kernel
theorem cc_7 : ((tC.getD 7 []).zip [114, 115]).all (fun x => m_cc1 7 x.1 x.2) = true := by decide +kernel
theorem cc_8 : ((tC.getD 8 []).zip [342, 543]).all (fun x => m_cc1 8 x.1 x.2) = true := by decide +kernel
theorem cc_9 : ((tC.getD 9 []).zip [79, 84, 266, 391, 478, 601, 622, 667, 703, 709, 721, 735, 742, 753, 759, 777, 791, 802, 808, 812, 817, 829, 833, 840, 844, 848, 860, 868, 881, 892, 906, 911, 936, 973, 988, 1007]).all (fun x => m_cc1 9 x.1 x.2) = true := by decide +kernel
theorem cc_10 : ((tC.getD 10 []).zip [1020, 1181, 1184, 1192, 1200, 1204, 1216, 1228, 1232, 1240, 1244, 1248, 1252, 1256, 1260, 1272, 1280, 1288, 1292, 1296, 1300, 1304, 1308, 1312, 1316, 1320, 1324, 1328, 1332, 1336, 1348, 1362, 1374]).all (fun x => m_cc1 10 x.1 x.2) = true := by decide +kernel
theorem cc_11 : ((tC.getD 11 []).zip []).all (fun x => m_cc1 11 x.1 x.2) = true := by decide +kernel
theorem cc_12 : ((tC.getD 12 []).zip [76, 474, 609, 613, 618, 713, 717, 746, 749, 763, 766, 770, 773, 783, 786, 795, 798, 821, 824, 872, 875, 885, 888, 898, 901, 915, 918, 922, 925, 929, 932, 952, 955, 959, 962, 966, 969, 974, 977, 981, 984, 993, 996, 1000, 1003, 1008, 1011, 1017, 1173, 1177, 1188, 1196, 1208, 1212, 1220, 1224, 1236, 1264, 1268, 1276, 1284, 1340, 1344, 1349, 1353, 1358, 1366, 1370, 1378, 1382, 1386, 1390, 1394]).all (fun x => m_cc1 12 x.1 x.2) = true := by decide +kernel
theorem m_ccs : ∀ o, ∀ e ∈ tC.getD o [], ∃ i, m_cc1 o e i = true := by
  intro o
  match o with
  | 0 => exact m_zip (r := [394, 397, 399, 837, 852, 856, 864]) (by decide) cc_0
  | 1 => exact m_zip (r := [172]) (by decide) cc_1
  | 2 => exact m_zip (r := [269, 275, 339, 482, 486, 499, 500, 504, 505, 509, 513, 520, 523, 527, 531, 535, 539, 547, 551, 555, 559, 563, 564, 568, 572, 576, 580, 584, 588, 593, 597, 605, 940, 944, 948, 992]) (by decide) cc_2
  | 3 => exact m_zip (r := [402]) (by decide) cc_3
  | 4 => exact m_zip (r := [87, 111, 169, 95]) (by decide) cc_4
  | 5 => exact m_zip (r := [278, 491, 495, 496, 517]) (by decide) cc_5
  | 6 => exact m_zip (r := [98]) (by decide) cc_6
  | 7 => exact m_zip (r := [114, 115]) (by decide) cc_7
  | 8 => exact m_zip (r := [342, 543]) (by decide) cc_8
  | 9 => exact m_zip (r := [79, 84, 266, 391, 478, 601, 622, 667, 703, 709, 721, 735, 742, 753, 759, 777, 791, 802, 808, 812, 817, 829, 833, 840, 844, 848, 860, 868, 881, 892, 906, 911, 936, 973, 988, 1007]) (by decide) cc_9
  | 10 => exact m_zip (r := [1020, 1181, 1184, 1192, 1200, 1204, 1216, 1228, 1232, 1240, 1244, 1248, 1252, 1256, 1260, 1272, 1280, 1288, 1292, 1296, 1300, 1304, 1308, 1312, 1316, 1320, 1324, 1328, 1332, 1336, 1348, 1362, 1374]) (by decide) cc_10
  | 11 => exact m_zip (r := []) (by decide) cc_11
  | 12 => exact m_zip (r := [76, 474, 609, 613, 618, 713, 717, 746, 749, 763, 766, 770, 773, 783, 786, 795, 798, 821, 824, 872, 875, 885, 888, 898, 901, 915, 918, 922, 925, 929, 932, 952, 955, 959, 962, 966, 969, 974, 977, 981, 984, 993, 996, 1000, 1003, 1008, 1011, 1017, 1173, 1177, 1188, 1196, 1208, 1212, 1220, 1224, 1236, 1264, 1268, 1276, 1284, 1340, 1344, 1349, 1353, 1358, 1366, 1370, 1378, 1382, 1386, 1390, 1394]) (by decide) cc_12
  | o + 13 => exact fun e h => by simp [tC] at h
theorem m_objw : Cond.instanceMethod objectInit ∈ lw_good ∧ Cond.code objectInit ⟨#[0xb1]⟩ 1 none ∈ lw_good := ⟨m_pg_ok (i := 80) (by decide +kernel), m_pg_ok (i := 81) (by decide +kernel)⟩
theorem m_maxw : Cond.static Lib.Math.max.name ∈ lw_good ∧ Cond.initialized "java/lang/Math" ∈ lw_good ∧ Cond.code Lib.Math.max.name Lib.Math.max.code 2 (some .int) ∈ lw_good := ⟨m_pg_ok (i := 518) (by decide +kernel), m_pg_ok (i := 73) (by decide +kernel), m_pg_ok (i := 519) (by decide +kernel)⟩
def eN (e : Nat) : String := ["java/lang/IndexOutOfBoundsException", "java/lang/IllegalArgumentException", "java/lang/IllegalStateException"].getD e ""
def m_kc (o : Nat) (e : Nat × Nat × Nat) (i : Nat) : Bool := match e.2.1 with
  | 0 => (match vwCl[e.2.2]? with
    | some q => m_pg (.classLink (m_cn o) e.1 q.1) i
    | none => false)
  | 1 => decide (e.2.2 < 3) && m_pg (.classLink (m_cn o) e.1 (eN e.2.2)) i
  | _ => false
theorem kc_0 : ((tK.getD 0 []).zip [395]).all (fun x => m_kc 0 x.1 x.2) = true := by decide +kernel
theorem kc_1 : ((tK.getD 1 []).zip []).all (fun x => m_kc 1 x.1 x.2) = true := by decide +kernel
theorem kc_2 : ((tK.getD 2 []).zip [270, 272]).all (fun x => m_kc 2 x.1 x.2) = true := by decide +kernel
theorem kc_3 : ((tK.getD 3 []).zip []).all (fun x => m_kc 3 x.1 x.2) = true := by decide +kernel
theorem kc_4 : ((tK.getD 4 []).zip [88, 90, 92]).all (fun x => m_kc 4 x.1 x.2) = true := by decide +kernel
theorem kc_5 : ((tK.getD 5 []).zip []).all (fun x => m_kc 5 x.1 x.2) = true := by decide +kernel
theorem kc_6 : ((tK.getD 6 []).zip []).all (fun x => m_kc 6 x.1 x.2) = true := by decide +kernel
theorem kc_7 : ((tK.getD 7 []).zip []).all (fun x => m_kc 7 x.1 x.2) = true := by decide +kernel
theorem kc_8 : ((tK.getD 8 []).zip []).all (fun x => m_kc 8 x.1 x.2) = true := by decide +kernel
theorem kc_9 : ((tK.getD 9 []).zip [82, 264, 389, 625, 693, 725]).all (fun x => m_kc 9 x.1 x.2) = true := by decide +kernel
theorem kc_10 : ((tK.getD 10 []).zip []).all (fun x => m_kc 10 x.1 x.2) = true := by decide +kernel
theorem kc_11 : ((tK.getD 11 []).zip []).all (fun x => m_kc 11 x.1 x.2) = true := by decide +kernel
theorem kc_12 : ((tK.getD 12 []).zip [74, 616, 617, 716, 1015]).all (fun x => m_kc 12 x.1 x.2) = true := by decide +kernel
theorem m_kcs : ∀ o, ∀ e ∈ tK.getD o [], ∃ i, m_kc o e i = true := by
  intro o
  match o with
  | 0 => exact m_zip (r := [395]) (by decide) kc_0
  | 1 => exact m_zip (r := []) (by decide) kc_1
  | 2 => exact m_zip (r := [270, 272]) (by decide) kc_2
  | 3 => exact m_zip (r := []) (by decide) kc_3
  | 4 => exact m_zip (r := [88, 90, 92]) (by decide) kc_4
  | 5 => exact m_zip (r := []) (by decide) kc_5
  | 6 => exact m_zip (r := []) (by decide) kc_6
  | 7 => exact m_zip (r := []) (by decide) kc_7
  | 8 => exact m_zip (r := []) (by decide) kc_8
  | 9 => exact m_zip (r := [82, 264, 389, 625, 693, 725]) (by decide) kc_9
  | 10 => exact m_zip (r := []) (by decide) kc_10
  | 11 => exact m_zip (r := []) (by decide) kc_11
  | 12 => exact m_zip (r := [74, 616, 617, 716, 1015]) (by decide) kc_12
  | o + 13 => exact fun e h => by simp [tK] at h
def m_lc (o : Nat) (e : Nat × MV) (i : Nat) : Bool := match e.2 with
  | .inl a => m_pg (.constant (m_cn o) e.1 (Int32.ofInt a)) i && decide (-2147483648 ≤ a ∧ a < 2147483648)
  | .inr (.inr (.inl x)) => m_pg (.constantFloat (m_cn o) e.1 x) i
  | _ => false
theorem lc_0 : ((tL.getD 0 []).zip []).all (fun x => m_lc 0 x.1 x.2) = true := by decide +kernel
theorem lc_1 : ((tL.getD 1 []).zip []).all (fun x => m_lc 1 x.1 x.2) = true := by decide +kernel
theorem lc_2 : ((tL.getD 2 []).zip [951]).all (fun x => m_lc 2 x.1 x.2) = true := by decide +kernel
theorem lc_3 : ((tL.getD 3 []).zip []).all (fun x => m_lc 3 x.1 x.2) = true := by decide +kernel
theorem lc_4 : ((tL.getD 4 []).zip []).all (fun x => m_lc 4 x.1 x.2) = true := by decide +kernel
theorem lc_5 : ((tL.getD 5 []).zip [490, 592]).all (fun x => m_lc 5 x.1 x.2) = true := by decide +kernel
theorem lc_6 : ((tL.getD 6 []).zip []).all (fun x => m_lc 6 x.1 x.2) = true := by decide +kernel
theorem lc_7 : ((tL.getD 7 []).zip []).all (fun x => m_lc 7 x.1 x.2) = true := by decide +kernel
theorem lc_8 : ((tL.getD 8 []).zip []).all (fun x => m_lc 8 x.1 x.2) = true := by decide +kernel
theorem lc_9 : ((tL.getD 9 []).zip []).all (fun x => m_lc 9 x.1 x.2) = true := by decide +kernel
theorem lc_10 : ((tL.getD 10 []).zip [1357]).all (fun x => m_lc 10 x.1 x.2) = true := by decide +kernel
theorem lc_11 : ((tL.getD 11 []).zip []).all (fun x => m_lc 11 x.1 x.2) = true := by decide +kernel
theorem lc_12 : ((tL.getD 12 []).zip []).all (fun x => m_lc 12 x.1 x.2) = true := by decide +kernel
theorem m_lcs : ∀ o, ∀ e ∈ tL.getD o [], ∃ i, m_lc o e i = true := by
  intro o
  match o with
  | 0 => exact m_zip (r := []) (by decide) lc_0
  | 1 => exact m_zip (r := []) (by decide) lc_1
  | 2 => exact m_zip (r := [951]) (by decide) lc_2
  | 3 => exact m_zip (r := []) (by decide) lc_3
  | 4 => exact m_zip (r := []) (by decide) lc_4
  | 5 => exact m_zip (r := [490, 592]) (by decide) lc_5
  | 6 => exact m_zip (r := []) (by decide) lc_6
  | 7 => exact m_zip (r := []) (by decide) lc_7
  | 8 => exact m_zip (r := []) (by decide) lc_8
  | 9 => exact m_zip (r := []) (by decide) lc_9
  | 10 => exact m_zip (r := [1357]) (by decide) lc_10
  | 11 => exact m_zip (r := []) (by decide) lc_11
  | 12 => exact m_zip (r := []) (by decide) lc_12
  | o + 13 => exact fun e h => by simp [tL] at h
theorem aw_int : Cond.arrayClass .int ∈ lw_good := m_pg_ok (i := 167) (by decide +kernel)
theorem aw_boolean : Cond.arrayClass .boolean ∈ lw_good := m_pg_ok (i := 1172) (by decide +kernel)
theorem aw_float : Cond.arrayClass .float ∈ lw_good := m_pg_ok (i := 337) (by decide +kernel)
theorem aw_long : Cond.arrayClass .long ∈ lw_good := m_pg_ok (i := 1398) (by decide +kernel)
theorem aw_double : Cond.arrayClass .double ∈ lw_good := m_pg_ok (i := 1399) (by decide +kernel)
theorem ao_1 : Cond.arrayOver (.object RX1) ∈ m_bad := m_pb_ok (i := 93) (by decide +kernel)
theorem ao_3 : Cond.arrayOver (.object RX3) ∈ m_bad := m_pb_ok (i := 396) (by decide +kernel)
theorem ao_5 : Cond.arrayOver (.object RX5) ∈ m_bad := m_pb_ok (i := 271) (by decide +kernel)
theorem ao_6 : Cond.arrayOver (.object RX6) ∈ m_bad := m_pb_ok (i := 89) (by decide +kernel)
theorem ao_7 : Cond.arrayOver (.object RX7) ∈ m_bad := m_pb_ok (i := 91) (by decide +kernel)
theorem ao_8 : Cond.arrayOver (.object RX8) ∈ m_bad := m_pb_ok (i := 273) (by decide +kernel)
theorem ew_0 : Cond.initialized (eN 0) ∈ lw_good ∧ Cond.castable (eN 0) (eN 0) ∈ m_bad := ⟨m_pg_ok (i := 72) (by decide +kernel), m_pb_ok (i := 727) (by decide +kernel)⟩
theorem ew_1 : Cond.initialized (eN 1) ∈ lw_good ∧ Cond.castable (eN 1) (eN 1) ∈ m_bad := ⟨m_pg_ok (i := 70) (by decide +kernel), m_pb_ok (i := 627) (by decide +kernel)⟩
theorem ew_2 : Cond.initialized (eN 2) ∈ lw_good ∧ Cond.castable (eN 2) (eN 2) ∈ m_bad := ⟨m_pg_ok (i := 71) (by decide +kernel), m_pb_ok (i := 695) (by decide +kernel)⟩
theorem at_1 : ∀ w ∈ vx_atS RX9 237 (eN 1) ["java/lang/RuntimeException", "java/lang/Exception"], (w ∈ lw_good ∨ (w ∈ m_bad ∧ w.onTables = true)) ∧ vx_ot w = true := by decide +kernel
theorem at_2 : ∀ w ∈ vx_atS RX9 50 (eN 2) ["java/lang/RuntimeException", "java/lang/Exception"], (w ∈ lw_good ∨ (w ∈ m_bad ∧ w.onTables = true)) ∧ vx_ot w = true := by decide +kernel
theorem at_0 : ∀ w ∈ vx_atS RX9 106 (eN 0) ["java/lang/RuntimeException", "java/lang/Exception"], (w ∈ lw_good ∨ (w ∈ m_bad ∧ w.onTables = true)) ∧ vx_ot w = true := by decide +kernel
theorem m_exc {o i e : Nat} (h : cR o i = some (4, e)) : o = 9 ∧ e < 3 ∧ ∀ w ∈ vx_atS RX9 i (eN e) ["java/lang/RuntimeException", "java/lang/Exception"], (w ∈ lw_good ∨ (w ∈ m_bad ∧ w.onTables = true)) ∧ vx_ot w = true := by
  have hm := m_lookup h
  match o, hm with
  | 0, hm => exact absurd hm (by simp [tC])
  | 1, hm => exact absurd hm (by simp [tC])
  | 2, hm => exact absurd hm (by simp [tC])
  | 3, hm => exact absurd hm (by simp [tC])
  | 4, hm => exact absurd hm (by simp [tC])
  | 5, hm => exact absurd hm (by simp [tC])
  | 6, hm => exact absurd hm (by simp [tC])
  | 7, hm => exact absurd hm (by simp [tC])
  | 8, hm => exact absurd hm (by simp [tC])
  | 9, hm =>
    have : (i = 237 ∧ e = 1) ∨ (i = 50 ∧ e = 2) ∨ (i = 106 ∧ e = 0) := by
      simp [tC] at hm
      omega
    rcases this with ⟨rfl, rfl⟩ | ⟨rfl, rfl⟩ | ⟨rfl, rfl⟩
    · exact ⟨rfl, by decide, at_1⟩
    · exact ⟨rfl, by decide, at_2⟩
    · exact ⟨rfl, by decide, at_0⟩
  | 10, hm => exact absurd hm (by simp [tC])
  | 11, hm => exact absurd hm (by simp [tC])
  | 12, hm => exact absurd hm (by simp [tC])
  | o + 13, hm => exact absurd hm (by simp [tC])
